theorem dX11_between_0 : decode MX11_between.2.1 0 = .ok (.aload_n 0, 1) := by decide +kernel
theorem dX11_between_1 : decode MX11_between.2.1 1 = .ok (.getfield 26, 3) := by decide +kernel
theorem dX11_between_4 : decode MX11_between.2.1 4 = .ok (.iload_n 1, 1) := by decide +kernel
theorem dX11_between_5 : decode MX11_between.2.1 5 = .ok (.iload_n 2, 1) := by decide +kernel
theorem dX11_between_6 : decode MX11_between.2.1 6 = .ok (.invokevirtual 172, 3) := by decide +kernel
theorem dX11_between_9 : decode MX11_between.2.1 9 = .ok (.ifCond .ne 11, 3) := by decide +kernel
theorem dX11_between_12 : decode MX11_between.2.1 12 = .ok (.new 151, 3) := by decide +kernel
theorem dX11_between_15 : decode MX11_between.2.1 15 = .ok (.dup, 1) := by decide +kernel
theorem dX11_between_16 : decode MX11_between.2.1 16 = .ok (.invokespecial 153, 3) := by decide +kernel
theorem dX11_between_19 : decode MX11_between.2.1 19 = .ok (.athrow, 1) := by decide +kernel
theorem dX11_between_20 : decode MX11_between.2.1 20 = .ok (.iload_n 3, 1) := by decide +kernel
theorem dX11_between_21 : decode MX11_between.2.1 21 = .ok (.tableswitch 69 0 2 #[27, 41, 55], 27) := by decide +kernel
theorem dX11_between_48 : decode MX11_between.2.1 48 = .ok (.aload_n 0, 1) := by decide +kernel
theorem dX11_between_49 : decode MX11_between.2.1 49 = .ok (.getfield 26, 3) := by decide +kernel
theorem dX11_between_52 : decode MX11_between.2.1 52 = .ok (.getfield 133, 3) := by decide +kernel
theorem dX11_between_55 : decode MX11_between.2.1 55 = .ok (.iload_n 1, 1) := by decide +kernel
theorem dX11_between_56 : decode MX11_between.2.1 56 = .ok (.iload_n 2, 1) := by decide +kernel
theorem dX11_between_57 : decode MX11_between.2.1 57 = .ok (.invokestatic 137, 3) := by decide +kernel
theorem dX11_between_60 : decode MX11_between.2.1 60 = .ok (.iaload, 1) := by decide +kernel
theorem dX11_between_61 : decode MX11_between.2.1 61 = .ok (.ireturn, 1) := by decide +kernel
theorem dX11_between_62 : decode MX11_between.2.1 62 = .ok (.aload_n 0, 1) := by decide +kernel
theorem dX11_between_63 : decode MX11_between.2.1 63 = .ok (.getfield 91, 3) := by decide +kernel
theorem dX11_between_66 : decode MX11_between.2.1 66 = .ok (.aload_n 0, 1) := by decide +kernel
theorem dX11_between_67 : decode MX11_between.2.1 67 = .ok (.getfield 26, 3) := by decide +kernel
theorem dX11_between_70 : decode MX11_between.2.1 70 = .ok (.iload_n 1, 1) := by decide +kernel
theorem dX11_between_71 : decode MX11_between.2.1 71 = .ok (.iload_n 2, 1) := by decide +kernel
theorem dX11_between_72 : decode MX11_between.2.1 72 = .ok (.invokevirtual 176, 3) := by decide +kernel
theorem dX11_between_75 : decode MX11_between.2.1 75 = .ok (.ireturn, 1) := by decide +kernel
theorem dX11_between_76 : decode MX11_between.2.1 76 = .ok (.aload_n 0, 1) := by decide +kernel
theorem dX11_between_77 : decode MX11_between.2.1 77 = .ok (.getfield 26, 3) := by decide +kernel
theorem dX11_between_80 : decode MX11_between.2.1 80 = .ok (.getfield 180, 3) := by decide +kernel
theorem dX11_between_83 : decode MX11_between.2.1 83 = .ok (.iload_n 1, 1) := by decide +kernel
theorem dX11_between_84 : decode MX11_between.2.1 84 = .ok (.iload_n 2, 1) := by decide +kernel
theorem dX11_between_85 : decode MX11_between.2.1 85 = .ok (.invokestatic 137, 3) := by decide +kernel
theorem dX11_between_88 : decode MX11_between.2.1 88 = .ok (.iaload, 1) := by decide +kernel
theorem dX11_between_89 : decode MX11_between.2.1 89 = .ok (.ireturn, 1) := by decide +kernel
theorem dX11_between_90 : decode MX11_between.2.1 90 = .ok (.new 151, 3) := by decide +kernel
theorem dX11_between_93 : decode MX11_between.2.1 93 = .ok (.dup, 1) := by decide +kernel
theorem dX11_between_94 : decode MX11_between.2.1 94 = .ok (.invokespecial 153, 3) := by decide +kernel
theorem dX11_between_97 : decode MX11_between.2.1 97 = .ok (.athrow, 1) := by decide +kernel
theorem dX11_sheet_0 : decode MX11_sheet.2.1 0 = .ok (.iload_n 1, 1) := by decide +kernel
theorem dX11_sheet_1 : decode MX11_sheet.2.1 1 = .ok (.ifCond .lt 14, 3) := by decide +kernel
theorem dX11_sheet_4 : decode MX11_sheet.2.1 4 = .ok (.iload_n 1, 1) := by decide +kernel
theorem dX11_sheet_5 : decode MX11_sheet.2.1 5 = .ok (.iconst 3, 1) := by decide +kernel
theorem dX11_sheet_6 : decode MX11_sheet.2.1 6 = .ok (.if_icmp .gt 9, 3) := by decide +kernel
theorem dX11_sheet_9 : decode MX11_sheet.2.1 9 = .ok (.iload_n 2, 1) := by decide +kernel
theorem dX11_sheet_10 : decode MX11_sheet.2.1 10 = .ok (.bipush 6, 2) := by decide +kernel
theorem dX11_sheet_12 : decode MX11_sheet.2.1 12 = .ok (.if_icmp .le 5, 3) := by decide +kernel
theorem dX11_sheet_15 : decode MX11_sheet.2.1 15 = .ok (.iconst (-1), 1) := by decide +kernel
theorem dX11_sheet_16 : decode MX11_sheet.2.1 16 = .ok (.ireturn, 1) := by decide +kernel
theorem dX11_sheet_17 : decode MX11_sheet.2.1 17 = .ok (.iload_n 1, 1) := by decide +kernel
theorem dX11_sheet_18 : decode MX11_sheet.2.1 18 = .ok (.iconst 3, 1) := by decide +kernel
theorem dX11_sheet_19 : decode MX11_sheet.2.1 19 = .ok (.if_icmp .ne 7, 3) := by decide +kernel
theorem dX11_sheet_22 : decode MX11_sheet.2.1 22 = .ok (.iconst 1, 1) := by decide +kernel
theorem dX11_sheet_23 : decode MX11_sheet.2.1 23 = .ok (.goto 4, 3) := by decide +kernel
theorem dX11_sheet_26 : decode MX11_sheet.2.1 26 = .ok (.iconst 0, 1) := by decide +kernel
theorem dX11_sheet_27 : decode MX11_sheet.2.1 27 = .ok (.istore 5, 2) := by decide +kernel
theorem dX11_sheet_29 : decode MX11_sheet.2.1 29 = .ok (.iload 5, 2) := by decide +kernel
theorem dX11_sheet_31 : decode MX11_sheet.2.1 31 = .ok (.ifCond .ne 10, 3) := by decide +kernel
theorem dX11_sheet_34 : decode MX11_sheet.2.1 34 = .ok (.iload_n 2, 1) := by decide +kernel
theorem dX11_sheet_35 : decode MX11_sheet.2.1 35 = .ok (.ifCond .ge 6, 3) := by decide +kernel
theorem dX11_sheet_38 : decode MX11_sheet.2.1 38 = .ok (.bipush (-2), 2) := by decide +kernel
theorem dX11_sheet_40 : decode MX11_sheet.2.1 40 = .ok (.ireturn, 1) := by decide +kernel
theorem dX11_sheet_41 : decode MX11_sheet.2.1 41 = .ok (.iconst 0, 1) := by decide +kernel
theorem dX11_sheet_42 : decode MX11_sheet.2.1 42 = .ok (.istore 6, 2) := by decide +kernel
theorem dX11_sheet_44 : decode MX11_sheet.2.1 44 = .ok (.iload 6, 2) := by decide +kernel
theorem dX11_sheet_46 : decode MX11_sheet.2.1 46 = .ok (.aload_n 0, 1) := by decide +kernel
theorem dX11_sheet_47 : decode MX11_sheet.2.1 47 = .ok (.getfield 26, 3) := by decide +kernel
theorem dX11_sheet_50 : decode MX11_sheet.2.1 50 = .ok (.getfield 110, 3) := by decide +kernel
theorem dX11_sheet_53 : decode MX11_sheet.2.1 53 = .ok (.if_icmp .ge 62, 3) := by decide +kernel
theorem dX11_sheet_56 : decode MX11_sheet.2.1 56 = .ok (.iload 5, 2) := by decide +kernel
theorem dX11_sheet_58 : decode MX11_sheet.2.1 58 = .ok (.ifCond .ne 13, 3) := by decide +kernel
theorem dX11_sheet_61 : decode MX11_sheet.2.1 61 = .ok (.iload 6, 2) := by decide +kernel
theorem dX11_sheet_63 : decode MX11_sheet.2.1 63 = .ok (.iload_n 2, 1) := by decide +kernel
theorem dX11_sheet_64 : decode MX11_sheet.2.1 64 = .ok (.if_icmp .ge 7, 3) := by decide +kernel
theorem dX11_sheet_67 : decode MX11_sheet.2.1 67 = .ok (.iconst 1, 1) := by decide +kernel
theorem dX11_sheet_68 : decode MX11_sheet.2.1 68 = .ok (.goto 4, 3) := by decide +kernel
theorem dX11_sheet_71 : decode MX11_sheet.2.1 71 = .ok (.iconst 0, 1) := by decide +kernel
theorem dX11_sheet_72 : decode MX11_sheet.2.1 72 = .ok (.istore 7, 2) := by decide +kernel
theorem dX11_sheet_74 : decode MX11_sheet.2.1 74 = .ok (.aload_n 0, 1) := by decide +kernel
theorem dX11_sheet_75 : decode MX11_sheet.2.1 75 = .ok (.getfield 26, 3) := by decide +kernel
theorem dX11_sheet_78 : decode MX11_sheet.2.1 78 = .ok (.getfield 141, 3) := by decide +kernel
theorem dX11_sheet_81 : decode MX11_sheet.2.1 81 = .ok (.iload 6, 2) := by decide +kernel
theorem dX11_sheet_83 : decode MX11_sheet.2.1 83 = .ok (.iload 7, 2) := by decide +kernel
theorem dX11_sheet_85 : decode MX11_sheet.2.1 85 = .ok (.ifCond .eq 22, 3) := by decide +kernel
theorem dX11_sheet_88 : decode MX11_sheet.2.1 88 = .ok (.iload_n 1, 1) := by decide +kernel
theorem dX11_sheet_89 : decode MX11_sheet.2.1 89 = .ok (.iload_n 3, 1) := by decide +kernel
theorem dX11_sheet_90 : decode MX11_sheet.2.1 90 = .ok (.iload 6, 2) := by decide +kernel
theorem dX11_sheet_92 : decode MX11_sheet.2.1 92 = .ok (.iload 4, 2) := by decide +kernel
theorem dX11_sheet_94 : decode MX11_sheet.2.1 94 = .ok (.imul, 1) := by decide +kernel
theorem dX11_sheet_95 : decode MX11_sheet.2.1 95 = .ok (.iadd, 1) := by decide +kernel
theorem dX11_sheet_96 : decode MX11_sheet.2.1 96 = .ok (.invokestatic 183, 3) := by decide +kernel
theorem dX11_sheet_99 : decode MX11_sheet.2.1 99 = .ok (.bipush 99, 2) := by decide +kernel
theorem dX11_sheet_101 : decode MX11_sheet.2.1 101 = .ok (.invokestatic 186, 3) := by decide +kernel
theorem dX11_sheet_104 : decode MX11_sheet.2.1 104 = .ok (.goto 4, 3) := by decide +kernel
theorem dX11_sheet_107 : decode MX11_sheet.2.1 107 = .ok (.iconst 0, 1) := by decide +kernel
theorem dX11_sheet_108 : decode MX11_sheet.2.1 108 = .ok (.iastore, 1) := by decide +kernel
theorem dX11_sheet_109 : decode MX11_sheet.2.1 109 = .ok (.iinc 6 1, 3) := by decide +kernel
theorem dX11_sheet_112 : decode MX11_sheet.2.1 112 = .ok (.goto (-68), 3) := by decide +kernel
theorem dX11_sheet_115 : decode MX11_sheet.2.1 115 = .ok (.iload 5, 2) := by decide +kernel
theorem dX11_sheet_117 : decode MX11_sheet.2.1 117 = .ok (.ifCond .eq 8, 3) := by decide +kernel
theorem dX11_sheet_120 : decode MX11_sheet.2.1 120 = .ok (.bipush (-3), 2) := by decide +kernel
theorem dX11_sheet_122 : decode MX11_sheet.2.1 122 = .ok (.goto 17, 3) := by decide +kernel
theorem dX11_sheet_125 : decode MX11_sheet.2.1 125 = .ok (.aload_n 0, 1) := by decide +kernel
theorem dX11_sheet_126 : decode MX11_sheet.2.1 126 = .ok (.getfield 26, 3) := by decide +kernel
theorem dX11_sheet_129 : decode MX11_sheet.2.1 129 = .ok (.aload_n 0, 1) := by decide +kernel
theorem dX11_sheet_130 : decode MX11_sheet.2.1 130 = .ok (.getfield 26, 3) := by decide +kernel
theorem dX11_sheet_133 : decode MX11_sheet.2.1 133 = .ok (.getfield 141, 3) := by decide +kernel
theorem dX11_sheet_136 : decode MX11_sheet.2.1 136 = .ok (.invokevirtual 189, 3) := by decide +kernel
theorem dX11_sheet_139 : decode MX11_sheet.2.1 139 = .ok (.ireturn, 1) := by decide +kernel
theorem dX11_entry_0 : decode MX11_entry.2.1 0 = .ok (.iload_n 0, 1) := by decide +kernel
theorem dX11_entry_1 : decode MX11_entry.2.1 1 = .ok (.ifCond .ne 6, 3) := by decide +kernel
theorem dX11_entry_4 : decode MX11_entry.2.1 4 = .ok (.iload_n 1, 1) := by decide +kernel
theorem dX11_entry_5 : decode MX11_entry.2.1 5 = .ok (.i2b, 1) := by decide +kernel
theorem dX11_entry_6 : decode MX11_entry.2.1 6 = .ok (.ireturn, 1) := by decide +kernel
theorem dX11_entry_7 : decode MX11_entry.2.1 7 = .ok (.iload_n 0, 1) := by decide +kernel
theorem dX11_entry_8 : decode MX11_entry.2.1 8 = .ok (.iconst 1, 1) := by decide +kernel
theorem dX11_entry_9 : decode MX11_entry.2.1 9 = .ok (.if_icmp .ne 8, 3) := by decide +kernel
theorem dX11_entry_12 : decode MX11_entry.2.1 12 = .ok (.iload_n 1, 1) := by decide +kernel
theorem dX11_entry_13 : decode MX11_entry.2.1 13 = .ok (.i2s, 1) := by decide +kernel
theorem dX11_entry_14 : decode MX11_entry.2.1 14 = .ok (.goto 4, 3) := by decide +kernel
theorem dX11_entry_17 : decode MX11_entry.2.1 17 = .ok (.iload_n 1, 1) := by decide +kernel
theorem dX11_entry_18 : decode MX11_entry.2.1 18 = .ok (.ireturn, 1) := by decide +kernel
theorem dX11_hours_0 : decode MX11_hours.2.1 0 = .ok (.iload_n 1, 1) := by decide +kernel
theorem dX11_hours_1 : decode MX11_hours.2.1 1 = .ok (.ifCond .lt 9, 3) := by decide +kernel
theorem dX11_hours_4 : decode MX11_hours.2.1 4 = .ok (.iload_n 1, 1) := by decide +kernel
theorem dX11_hours_5 : decode MX11_hours.2.1 5 = .ok (.bipush 60, 2) := by decide +kernel
theorem dX11_hours_7 : decode MX11_hours.2.1 7 = .ok (.if_icmp .le 5, 3) := by decide +kernel
theorem dX11_hours_10 : decode MX11_hours.2.1 10 = .ok (.iconst (-1), 1) := by decide +kernel
theorem dX11_hours_11 : decode MX11_hours.2.1 11 = .ok (.ireturn, 1) := by decide +kernel
theorem dX11_hours_12 : decode MX11_hours.2.1 12 = .ok (.aload_n 0, 1) := by decide +kernel
theorem dX11_hours_13 : decode MX11_hours.2.1 13 = .ok (.getfield 43, 3) := by decide +kernel
theorem dX11_hours_16 : decode MX11_hours.2.1 16 = .ok (.aload_n 0, 1) := by decide +kernel
theorem dX11_hours_17 : decode MX11_hours.2.1 17 = .ok (.getfield 26, 3) := by decide +kernel
theorem dX11_hours_20 : decode MX11_hours.2.1 20 = .ok (.invokevirtual 193, 3) := by decide +kernel
theorem dX11_hours_23 : decode MX11_hours.2.1 23 = .ok (.aload_n 0, 1) := by decide +kernel
theorem dX11_hours_24 : decode MX11_hours.2.1 24 = .ok (.getfield 26, 3) := by decide +kernel
theorem dX11_hours_27 : decode MX11_hours.2.1 27 = .ok (.aload_n 0, 1) := by decide +kernel
theorem dX11_hours_28 : decode MX11_hours.2.1 28 = .ok (.getfield 26, 3) := by decide +kernel
theorem dX11_hours_31 : decode MX11_hours.2.1 31 = .ok (.getfield 154, 3) := by decide +kernel
theorem dX11_hours_34 : decode MX11_hours.2.1 34 = .ok (.invokevirtual 189, 3) := by decide +kernel
theorem dX11_hours_37 : decode MX11_hours.2.1 37 = .ok (.istore_n 2, 1) := by decide +kernel
theorem dX11_hours_38 : decode MX11_hours.2.1 38 = .ok (.aload_n 0, 1) := by decide +kernel
theorem dX11_hours_39 : decode MX11_hours.2.1 39 = .ok (.getfield 36, 3) := by decide +kernel
theorem dX11_hours_42 : decode MX11_hours.2.1 42 = .ok (.aload_n 0, 1) := by decide +kernel
theorem dX11_hours_43 : decode MX11_hours.2.1 43 = .ok (.getfield 26, 3) := by decide +kernel
theorem dX11_hours_46 : decode MX11_hours.2.1 46 = .ok (.aload_n 0, 1) := by decide +kernel
theorem dX11_hours_47 : decode MX11_hours.2.1 47 = .ok (.getfield 91, 3) := by decide +kernel
theorem dX11_hours_50 : decode MX11_hours.2.1 50 = .ok (.iload_n 1, 1) := by decide +kernel
theorem dX11_hours_51 : decode MX11_hours.2.1 51 = .ok (.invokevirtual 197, 3) := by decide +kernel
theorem dX11_hours_54 : decode MX11_hours.2.1 54 = .ok (.istore_n 3, 1) := by decide +kernel
theorem dX11_hours_55 : decode MX11_hours.2.1 55 = .ok (.iload_n 1, 1) := by decide +kernel
theorem dX11_hours_56 : decode MX11_hours.2.1 56 = .ok (.ifCond .le 10, 3) := by decide +kernel
theorem dX11_hours_59 : decode MX11_hours.2.1 59 = .ok (.aload_n 0, 1) := by decide +kernel
theorem dX11_hours_60 : decode MX11_hours.2.1 60 = .ok (.getfield 43, 3) := by decide +kernel
theorem dX11_hours_63 : decode MX11_hours.2.1 63 = .ok (.invokevirtual 201, 3) := by decide +kernel
theorem dX11_hours_66 : decode MX11_hours.2.1 66 = .ok (.aload_n 0, 1) := by decide +kernel
theorem dX11_hours_67 : decode MX11_hours.2.1 67 = .ok (.getfield 19, 3) := by decide +kernel
theorem dX11_hours_70 : decode MX11_hours.2.1 70 = .ok (.aload_n 0, 1) := by decide +kernel
theorem dX11_hours_71 : decode MX11_hours.2.1 71 = .ok (.getfield 26, 3) := by decide +kernel
theorem dX11_hours_74 : decode MX11_hours.2.1 74 = .ok (.aload_n 0, 1) := by decide +kernel
theorem dX11_hours_75 : decode MX11_hours.2.1 75 = .ok (.getfield 26, 3) := by decide +kernel
theorem dX11_hours_78 : decode MX11_hours.2.1 78 = .ok (.getfield 154, 3) := by decide +kernel
theorem dX11_hours_81 : decode MX11_hours.2.1 81 = .ok (.invokevirtual 189, 3) := by decide +kernel
theorem dX11_hours_84 : decode MX11_hours.2.1 84 = .ok (.iload_n 2, 1) := by decide +kernel
theorem dX11_hours_85 : decode MX11_hours.2.1 85 = .ok (.isub, 1) := by decide +kernel
theorem dX11_hours_86 : decode MX11_hours.2.1 86 = .ok (.i2l, 1) := by decide +kernel
theorem dX11_hours_87 : decode MX11_hours.2.1 87 = .ok (.iload_n 3, 1) := by decide +kernel
theorem dX11_hours_88 : decode MX11_hours.2.1 88 = .ok (.i2l, 1) := by decide +kernel
theorem dX11_hours_89 : decode MX11_hours.2.1 89 = .ok (.invokevirtual 204, 3) := by decide +kernel
theorem dX11_hours_92 : decode MX11_hours.2.1 92 = .ok (.aload_n 0, 1) := by decide +kernel
theorem dX11_hours_93 : decode MX11_hours.2.1 93 = .ok (.getfield 26, 3) := by decide +kernel
theorem dX11_hours_96 : decode MX11_hours.2.1 96 = .ok (.invokevirtual 208, 3) := by decide +kernel
theorem dX11_hours_99 : decode MX11_hours.2.1 99 = .ok (.ireturn, 1) := by decide +kernel
theorem dX11_dies_0 : decode MX11_dies.2.1 0 = .ok (.aload_n 0, 1) := by decide +kernel
theorem dX11_dies_1 : decode MX11_dies.2.1 1 = .ok (.getfield 43, 3) := by decide +kernel
theorem dX11_dies_4 : decode MX11_dies.2.1 4 = .ok (.aload_n 0, 1) := by decide +kernel
theorem dX11_dies_5 : decode MX11_dies.2.1 5 = .ok (.getfield 26, 3) := by decide +kernel
theorem dX11_dies_8 : decode MX11_dies.2.1 8 = .ok (.invokevirtual 193, 3) := by decide +kernel
theorem dX11_dies_11 : decode MX11_dies.2.1 11 = .ok (.aload_n 0, 1) := by decide +kernel
theorem dX11_dies_12 : decode MX11_dies.2.1 12 = .ok (.aload_n 0, 1) := by decide +kernel
theorem dX11_dies_13 : decode MX11_dies.2.1 13 = .ok (.getfield 26, 3) := by decide +kernel
theorem dX11_dies_16 : decode MX11_dies.2.1 16 = .ok (.iload_n 1, 1) := by decide +kernel
theorem dX11_dies_17 : decode MX11_dies.2.1 17 = .ok (.iload_n 2, 1) := by decide +kernel
theorem dX11_dies_18 : decode MX11_dies.2.1 18 = .ok (.invokevirtual 211, 3) := by decide +kernel
theorem dX11_dies_21 : decode MX11_dies.2.1 21 = .ok (.invokevirtual 214, 3) := by decide +kernel
theorem dX11_dies_24 : decode MX11_dies.2.1 24 = .ok (.ireturn, 1) := by decide +kernel
theorem dX11_coughs_0 : decode MX11_coughs.2.1 0 = .ok (.aload_n 0, 1) := by decide +kernel
theorem dX11_coughs_1 : decode MX11_coughs.2.1 1 = .ok (.getfield 43, 3) := by decide +kernel
theorem dX11_coughs_4 : decode MX11_coughs.2.1 4 = .ok (.aload_n 0, 1) := by decide +kernel
theorem dX11_coughs_5 : decode MX11_coughs.2.1 5 = .ok (.getfield 26, 3) := by decide +kernel
theorem dX11_coughs_8 : decode MX11_coughs.2.1 8 = .ok (.invokevirtual 193, 3) := by decide +kernel
theorem dX11_coughs_11 : decode MX11_coughs.2.1 11 = .ok (.aload_n 0, 1) := by decide +kernel
theorem dX11_coughs_12 : decode MX11_coughs.2.1 12 = .ok (.aload_n 0, 1) := by decide +kernel
theorem dX11_coughs_13 : decode MX11_coughs.2.1 13 = .ok (.getfield 26, 3) := by decide +kernel
theorem dX11_coughs_16 : decode MX11_coughs.2.1 16 = .ok (.iload_n 1, 1) := by decide +kernel
theorem dX11_coughs_17 : decode MX11_coughs.2.1 17 = .ok (.invokevirtual 217, 3) := by decide +kernel
theorem dX11_coughs_20 : decode MX11_coughs.2.1 20 = .ok (.invokevirtual 214, 3) := by decide +kernel
theorem dX11_coughs_23 : decode MX11_coughs.2.1 23 = .ok (.ireturn, 1) := by decide +kernel
theorem dX11_lends_0 : decode MX11_lends.2.1 0 = .ok (.aload_n 0, 1) := by decide +kernel
theorem dX11_lends_1 : decode MX11_lends.2.1 1 = .ok (.getfield 43, 3) := by decide +kernel
theorem dX11_lends_4 : decode MX11_lends.2.1 4 = .ok (.aload_n 0, 1) := by decide +kernel
theorem dX11_lends_5 : decode MX11_lends.2.1 5 = .ok (.getfield 26, 3) := by decide +kernel
theorem dX11_lends_8 : decode MX11_lends.2.1 8 = .ok (.invokevirtual 193, 3) := by decide +kernel
theorem dX11_lends_11 : decode MX11_lends.2.1 11 = .ok (.aload_n 0, 1) := by decide +kernel
theorem dX11_lends_12 : decode MX11_lends.2.1 12 = .ok (.aload_n 0, 1) := by decide +kernel
theorem dX11_lends_13 : decode MX11_lends.2.1 13 = .ok (.getfield 26, 3) := by decide +kernel
theorem dX11_lends_16 : decode MX11_lends.2.1 16 = .ok (.iload_n 1, 1) := by decide +kernel
theorem dX11_lends_17 : decode MX11_lends.2.1 17 = .ok (.iload_n 2, 1) := by decide +kernel
theorem dX11_lends_18 : decode MX11_lends.2.1 18 = .ok (.iload_n 3, 1) := by decide +kernel
theorem dX11_lends_19 : decode MX11_lends.2.1 19 = .ok (.invokevirtual 220, 3) := by decide +kernel
theorem dX11_lends_22 : decode MX11_lends.2.1 22 = .ok (.invokevirtual 214, 3) := by decide +kernel
theorem dX11_lends_25 : decode MX11_lends.2.1 25 = .ok (.ireturn, 1) := by decide +kernel
theorem dX11_pays_0 : decode MX11_pays.2.1 0 = .ok (.aload_n 0, 1) := by decide +kernel
theorem dX11_pays_1 : decode MX11_pays.2.1 1 = .ok (.getfield 43, 3) := by decide +kernel
theorem dX11_pays_4 : decode MX11_pays.2.1 4 = .ok (.aload_n 0, 1) := by decide +kernel
theorem dX11_pays_5 : decode MX11_pays.2.1 5 = .ok (.getfield 26, 3) := by decide +kernel
theorem dX11_pays_8 : decode MX11_pays.2.1 8 = .ok (.invokevirtual 193, 3) := by decide +kernel
theorem dX11_pays_11 : decode MX11_pays.2.1 11 = .ok (.aload_n 0, 1) := by decide +kernel
theorem dX11_pays_12 : decode MX11_pays.2.1 12 = .ok (.aload_n 0, 1) := by decide +kernel
theorem dX11_pays_13 : decode MX11_pays.2.1 13 = .ok (.getfield 26, 3) := by decide +kernel
theorem dX11_pays_16 : decode MX11_pays.2.1 16 = .ok (.iload_n 1, 1) := by decide +kernel
theorem dX11_pays_17 : decode MX11_pays.2.1 17 = .ok (.iload_n 2, 1) := by decide +kernel
theorem dX11_pays_18 : decode MX11_pays.2.1 18 = .ok (.iload_n 3, 1) := by decide +kernel
theorem dX11_pays_19 : decode MX11_pays.2.1 19 = .ok (.invokevirtual 224, 3) := by decide +kernel
theorem dX11_pays_22 : decode MX11_pays.2.1 22 = .ok (.invokevirtual 214, 3) := by decide +kernel
theorem dX11_pays_25 : decode MX11_pays.2.1 25 = .ok (.ireturn, 1) := by decide +kernel
theorem dX11_keptIfDone_0 : decode MX11_keptIfDone.2.1 0 = .ok (.iload_n 1, 1) := by decide +kernel
theorem dX11_keptIfDone_1 : decode MX11_keptIfDone.2.1 1 = .ok (.ifCond .lt 10, 3) := by decide +kernel
theorem dX11_keptIfDone_4 : decode MX11_keptIfDone.2.1 4 = .ok (.aload_n 0, 1) := by decide +kernel
theorem dX11_keptIfDone_5 : decode MX11_keptIfDone.2.1 5 = .ok (.getfield 43, 3) := by decide +kernel
theorem dX11_keptIfDone_8 : decode MX11_keptIfDone.2.1 8 = .ok (.invokevirtual 201, 3) := by decide +kernel
theorem dX11_keptIfDone_11 : decode MX11_keptIfDone.2.1 11 = .ok (.iload_n 1, 1) := by decide +kernel
theorem dX11_keptIfDone_12 : decode MX11_keptIfDone.2.1 12 = .ok (.ireturn, 1) := by decide +kernel
theorem dX11_afternoon_0 : decode MX11_afternoon.2.1 0 = .ok (.aload_n 0, 1) := by decide +kernel
theorem dX11_afternoon_1 : decode MX11_afternoon.2.1 1 = .ok (.invokevirtual 227, 3) := by decide +kernel
theorem dX11_afternoon_4 : decode MX11_afternoon.2.1 4 = .ok (.istore_n 1, 1) := by decide +kernel
theorem dX11_afternoon_5 : decode MX11_afternoon.2.1 5 = .ok (.iload_n 1, 1) := by decide +kernel
theorem dX11_afternoon_6 : decode MX11_afternoon.2.1 6 = .ok (.iconst (-1), 1) := by decide +kernel
theorem dX11_afternoon_7 : decode MX11_afternoon.2.1 7 = .ok (.if_icmp .eq 14, 3) := by decide +kernel
theorem dX11_afternoon_10 : decode MX11_afternoon.2.1 10 = .ok (.aload_n 0, 1) := by decide +kernel
theorem dX11_afternoon_11 : decode MX11_afternoon.2.1 11 = .ok (.getfield 12, 3) := by decide +kernel
theorem dX11_afternoon_14 : decode MX11_afternoon.2.1 14 = .ok (.invokevirtual 124, 3) := by decide +kernel
theorem dX11_afternoon_17 : decode MX11_afternoon.2.1 17 = .ok (.iconst (-1), 1) := by decide +kernel
theorem dX11_afternoon_18 : decode MX11_afternoon.2.1 18 = .ok (.iload_n 1, 1) := by decide +kernel
theorem dX11_afternoon_19 : decode MX11_afternoon.2.1 19 = .ok (.isub, 1) := by decide +kernel
theorem dX11_afternoon_20 : decode MX11_afternoon.2.1 20 = .ok (.ireturn, 1) := by decide +kernel
theorem dX11_afternoon_21 : decode MX11_afternoon.2.1 21 = .ok (.aload_n 0, 1) := by decide +kernel
theorem dX11_afternoon_22 : decode MX11_afternoon.2.1 22 = .ok (.getfield 43, 3) := by decide +kernel
theorem dX11_afternoon_25 : decode MX11_afternoon.2.1 25 = .ok (.aload_n 0, 1) := by decide +kernel
theorem dX11_afternoon_26 : decode MX11_afternoon.2.1 26 = .ok (.getfield 26, 3) := by decide +kernel
theorem dX11_afternoon_29 : decode MX11_afternoon.2.1 29 = .ok (.invokevirtual 193, 3) := by decide +kernel
theorem dX11_afternoon_32 : decode MX11_afternoon.2.1 32 = .ok (.iconst 0, 1) := by decide +kernel
theorem dX11_afternoon_33 : decode MX11_afternoon.2.1 33 = .ok (.istore_n 2, 1) := by decide +kernel
theorem dX11_afternoon_34 : decode MX11_afternoon.2.1 34 = .ok (.iconst 0, 1) := by decide +kernel
theorem dX11_afternoon_35 : decode MX11_afternoon.2.1 35 = .ok (.istore_n 3, 1) := by decide +kernel
theorem dX11_afternoon_36 : decode MX11_afternoon.2.1 36 = .ok (.iconst 0, 1) := by decide +kernel
theorem dX11_afternoon_37 : decode MX11_afternoon.2.1 37 = .ok (.istore 4, 2) := by decide +kernel
theorem dX11_afternoon_39 : decode MX11_afternoon.2.1 39 = .ok (.iconst 0, 1) := by decide +kernel
theorem dX11_afternoon_40 : decode MX11_afternoon.2.1 40 = .ok (.istore 5, 2) := by decide +kernel
theorem dX11_afternoon_42 : decode MX11_afternoon.2.1 42 = .ok (.iload 5, 2) := by decide +kernel
theorem dX11_afternoon_44 : decode MX11_afternoon.2.1 44 = .ok (.bipush 60, 2) := by decide +kernel
theorem dX11_afternoon_46 : decode MX11_afternoon.2.1 46 = .ok (.if_icmp .ge 64, 3) := by decide +kernel
theorem dX11_afternoon_49 : decode MX11_afternoon.2.1 49 = .ok (.iload_n 3, 1) := by decide +kernel
theorem dX11_afternoon_50 : decode MX11_afternoon.2.1 50 = .ok (.aload_n 0, 1) := by decide +kernel
theorem dX11_afternoon_51 : decode MX11_afternoon.2.1 51 = .ok (.getfield 12, 3) := by decide +kernel
theorem dX11_afternoon_54 : decode MX11_afternoon.2.1 54 = .ok (.invokevirtual 106, 3) := by decide +kernel
theorem dX11_afternoon_57 : decode MX11_afternoon.2.1 57 = .ok (.if_icmp .ge 53, 3) := by decide +kernel
theorem dX11_afternoon_60 : decode MX11_afternoon.2.1 60 = .ok (.iload 4, 2) := by decide +kernel
theorem dX11_afternoon_62 : decode MX11_afternoon.2.1 62 = .ok (.ifCond .ne 48, 3) := by decide +kernel
theorem dX11_afternoon_65 : decode MX11_afternoon.2.1 65 = .ok (.aload_n 0, 1) := by decide +kernel
theorem dX11_afternoon_66 : decode MX11_afternoon.2.1 66 = .ok (.iload_n 3, 1) := by decide +kernel
theorem dX11_afternoon_67 : decode MX11_afternoon.2.1 67 = .ok (.invokevirtual 230, 3) := by decide +kernel
theorem dX11_afternoon_70 : decode MX11_afternoon.2.1 70 = .ok (.ifCond .ge 7, 3) := by decide +kernel
theorem dX11_afternoon_73 : decode MX11_afternoon.2.1 73 = .ok (.iconst 1, 1) := by decide +kernel
theorem dX11_afternoon_74 : decode MX11_afternoon.2.1 74 = .ok (.goto 4, 3) := by decide +kernel
theorem dX11_afternoon_77 : decode MX11_afternoon.2.1 77 = .ok (.iconst 0, 1) := by decide +kernel
theorem dX11_afternoon_78 : decode MX11_afternoon.2.1 78 = .ok (.istore 4, 2) := by decide +kernel
theorem dX11_afternoon_80 : decode MX11_afternoon.2.1 80 = .ok (.iload 4, 2) := by decide +kernel
theorem dX11_afternoon_82 : decode MX11_afternoon.2.1 82 = .ok (.ifCond .ne 22, 3) := by decide +kernel
theorem dX11_afternoon_85 : decode MX11_afternoon.2.1 85 = .ok (.iinc 2 1, 3) := by decide +kernel
theorem dX11_afternoon_88 : decode MX11_afternoon.2.1 88 = .ok (.iload_n 3, 1) := by decide +kernel
theorem dX11_afternoon_89 : decode MX11_afternoon.2.1 89 = .ok (.iconst 1, 1) := by decide +kernel
theorem dX11_afternoon_90 : decode MX11_afternoon.2.1 90 = .ok (.aload_n 0, 1) := by decide +kernel
theorem dX11_afternoon_91 : decode MX11_afternoon.2.1 91 = .ok (.getfield 12, 3) := by decide +kernel
theorem dX11_afternoon_94 : decode MX11_afternoon.2.1 94 = .ok (.iload_n 3, 1) := by decide +kernel
theorem dX11_afternoon_95 : decode MX11_afternoon.2.1 95 = .ok (.invokevirtual 127, 3) := by decide +kernel
theorem dX11_afternoon_98 : decode MX11_afternoon.2.1 98 = .ok (.invokestatic 233, 3) := by decide +kernel
theorem dX11_afternoon_101 : decode MX11_afternoon.2.1 101 = .ok (.iadd, 1) := by decide +kernel
theorem dX11_afternoon_102 : decode MX11_afternoon.2.1 102 = .ok (.iadd, 1) := by decide +kernel
theorem dX11_afternoon_103 : decode MX11_afternoon.2.1 103 = .ok (.istore_n 3, 1) := by decide +kernel
theorem dX11_afternoon_104 : decode MX11_afternoon.2.1 104 = .ok (.iinc 5 1, 3) := by decide +kernel
theorem dX11_afternoon_107 : decode MX11_afternoon.2.1 107 = .ok (.goto (-65), 3) := by decide +kernel
theorem dX11_afternoon_110 : decode MX11_afternoon.2.1 110 = .ok (.aload_n 0, 1) := by decide +kernel
theorem dX11_afternoon_111 : decode MX11_afternoon.2.1 111 = .ok (.getfield 12, 3) := by decide +kernel
theorem dX11_afternoon_114 : decode MX11_afternoon.2.1 114 = .ok (.invokevirtual 124, 3) := by decide +kernel
theorem dX11_afternoon_117 : decode MX11_afternoon.2.1 117 = .ok (.iload_n 2, 1) := by decide +kernel
theorem dX11_afternoon_118 : decode MX11_afternoon.2.1 118 = .ok (.ifCond .le 10, 3) := by decide +kernel
theorem dX11_afternoon_121 : decode MX11_afternoon.2.1 121 = .ok (.aload_n 0, 1) := by decide +kernel
theorem dX11_afternoon_122 : decode MX11_afternoon.2.1 122 = .ok (.getfield 43, 3) := by decide +kernel
theorem dX11_afternoon_125 : decode MX11_afternoon.2.1 125 = .ok (.invokevirtual 201, 3) := by decide +kernel
theorem dX11_afternoon_128 : decode MX11_afternoon.2.1 128 = .ok (.aload_n 0, 1) := by decide +kernel
theorem dX11_afternoon_129 : decode MX11_afternoon.2.1 129 = .ok (.getfield 19, 3) := by decide +kernel
theorem dX11_afternoon_132 : decode MX11_afternoon.2.1 132 = .ok (.iload 4, 2) := by decide +kernel
theorem dX11_afternoon_134 : decode MX11_afternoon.2.1 134 = .ok (.ifCond .eq 7, 3) := by decide +kernel
theorem dX11_afternoon_137 : decode MX11_afternoon.2.1 137 = .ok (.lconst 1, 1) := by decide +kernel
theorem dX11_afternoon_138 : decode MX11_afternoon.2.1 138 = .ok (.goto 4, 3) := by decide +kernel
theorem dX11_afternoon_141 : decode MX11_afternoon.2.1 141 = .ok (.lconst 0, 1) := by decide +kernel
theorem dX11_afternoon_142 : decode MX11_afternoon.2.1 142 = .ok (.aload_n 0, 1) := by decide +kernel
theorem dX11_afternoon_143 : decode MX11_afternoon.2.1 143 = .ok (.getfield 26, 3) := by decide +kernel
theorem dX11_afternoon_146 : decode MX11_afternoon.2.1 146 = .ok (.aload_n 0, 1) := by decide +kernel
theorem dX11_afternoon_147 : decode MX11_afternoon.2.1 147 = .ok (.getfield 26, 3) := by decide +kernel
theorem dX11_afternoon_150 : decode MX11_afternoon.2.1 150 = .ok (.getfield 154, 3) := by decide +kernel
theorem dX11_afternoon_153 : decode MX11_afternoon.2.1 153 = .ok (.invokevirtual 189, 3) := by decide +kernel
theorem dX11_afternoon_156 : decode MX11_afternoon.2.1 156 = .ok (.i2l, 1) := by decide +kernel
theorem dX11_afternoon_157 : decode MX11_afternoon.2.1 157 = .ok (.invokevirtual 204, 3) := by decide +kernel
theorem dX11_afternoon_160 : decode MX11_afternoon.2.1 160 = .ok (.iload_n 2, 1) := by decide +kernel
theorem dX11_afternoon_161 : decode MX11_afternoon.2.1 161 = .ok (.ireturn, 1) := by decide +kernel
theorem dX11_wrongInActs_0 : decode MX11_wrongInActs.2.1 0 = .ok (.aload_n 0, 1) := by decide +kernel
theorem dX11_wrongInActs_1 : decode MX11_wrongInActs.2.1 1 = .ok (.getfield 12, 3) := by decide +kernel
theorem dX11_wrongInActs_4 : decode MX11_wrongInActs.2.1 4 = .ok (.invokevirtual 106, 3) := by decide +kernel
theorem dX11_wrongInActs_7 : decode MX11_wrongInActs.2.1 7 = .ok (.istore_n 1, 1) := by decide +kernel
theorem dX11_wrongInActs_8 : decode MX11_wrongInActs.2.1 8 = .ok (.iconst 0, 1) := by decide +kernel
theorem dX11_wrongInActs_9 : decode MX11_wrongInActs.2.1 9 = .ok (.istore_n 2, 1) := by decide +kernel
theorem dX11_wrongInActs_10 : decode MX11_wrongInActs.2.1 10 = .ok (.iconst 0, 1) := by decide +kernel
theorem dX11_wrongInActs_11 : decode MX11_wrongInActs.2.1 11 = .ok (.istore_n 3, 1) := by decide +kernel
theorem dX11_wrongInActs_12 : decode MX11_wrongInActs.2.1 12 = .ok (.iconst 0, 1) := by decide +kernel
theorem dX11_wrongInActs_13 : decode MX11_wrongInActs.2.1 13 = .ok (.istore 4, 2) := by decide +kernel
theorem dX11_wrongInActs_15 : decode MX11_wrongInActs.2.1 15 = .ok (.iload 4, 2) := by decide +kernel
theorem dX11_wrongInActs_17 : decode MX11_wrongInActs.2.1 17 = .ok (.bipush 60, 2) := by decide +kernel
theorem dX11_wrongInActs_19 : decode MX11_wrongInActs.2.1 19 = .ok (.if_icmp .ge 95, 3) := by decide +kernel
theorem dX11_wrongInActs_22 : decode MX11_wrongInActs.2.1 22 = .ok (.iload 4, 2) := by decide +kernel
theorem dX11_wrongInActs_24 : decode MX11_wrongInActs.2.1 24 = .ok (.iload_n 1, 1) := by decide +kernel
theorem dX11_wrongInActs_25 : decode MX11_wrongInActs.2.1 25 = .ok (.if_icmp .ge 89, 3) := by decide +kernel
theorem dX11_wrongInActs_28 : decode MX11_wrongInActs.2.1 28 = .ok (.aload_n 0, 1) := by decide +kernel
theorem dX11_wrongInActs_29 : decode MX11_wrongInActs.2.1 29 = .ok (.getfield 12, 3) := by decide +kernel
theorem dX11_wrongInActs_32 : decode MX11_wrongInActs.2.1 32 = .ok (.iload 4, 2) := by decide +kernel
theorem dX11_wrongInActs_34 : decode MX11_wrongInActs.2.1 34 = .ok (.invokevirtual 127, 3) := by decide +kernel
theorem dX11_wrongInActs_37 : decode MX11_wrongInActs.2.1 37 = .ok (.istore 5, 2) := by decide +kernel
theorem dX11_wrongInActs_39 : decode MX11_wrongInActs.2.1 39 = .ok (.iload_n 2, 1) := by decide +kernel
theorem dX11_wrongInActs_40 : decode MX11_wrongInActs.2.1 40 = .ok (.ifCond .ne 18, 3) := by decide +kernel
theorem dX11_wrongInActs_43 : decode MX11_wrongInActs.2.1 43 = .ok (.iload 5, 2) := by decide +kernel
theorem dX11_wrongInActs_45 : decode MX11_wrongInActs.2.1 45 = .ok (.istore_n 3, 1) := by decide +kernel
theorem dX11_wrongInActs_46 : decode MX11_wrongInActs.2.1 46 = .ok (.iload_n 3, 1) := by decide +kernel
theorem dX11_wrongInActs_47 : decode MX11_wrongInActs.2.1 47 = .ok (.invokestatic 233, 3) := by decide +kernel
theorem dX11_wrongInActs_50 : decode MX11_wrongInActs.2.1 50 = .ok (.istore_n 2, 1) := by decide +kernel
theorem dX11_wrongInActs_51 : decode MX11_wrongInActs.2.1 51 = .ok (.iload_n 2, 1) := by decide +kernel
theorem dX11_wrongInActs_52 : decode MX11_wrongInActs.2.1 52 = .ok (.ifCond .ne 56, 3) := by decide +kernel
theorem dX11_wrongInActs_55 : decode MX11_wrongInActs.2.1 55 = .ok (.iload 4, 2) := by decide +kernel
theorem dX11_wrongInActs_57 : decode MX11_wrongInActs.2.1 57 = .ok (.ireturn, 1) := by decide +kernel
theorem dX11_wrongInActs_58 : decode MX11_wrongInActs.2.1 58 = .ok (.iload_n 2, 1) := by decide +kernel
theorem dX11_wrongInActs_59 : decode MX11_wrongInActs.2.1 59 = .ok (.iconst 1, 1) := by decide +kernel
theorem dX11_wrongInActs_60 : decode MX11_wrongInActs.2.1 60 = .ok (.if_icmp .gt 15, 3) := by decide +kernel
theorem dX11_wrongInActs_63 : decode MX11_wrongInActs.2.1 63 = .ok (.iload_n 3, 1) := by decide +kernel
theorem dX11_wrongInActs_64 : decode MX11_wrongInActs.2.1 64 = .ok (.bipush 104, 2) := by decide +kernel
theorem dX11_wrongInActs_66 : decode MX11_wrongInActs.2.1 66 = .ok (.if_icmp .eq 9, 3) := by decide +kernel
theorem dX11_wrongInActs_69 : decode MX11_wrongInActs.2.1 69 = .ok (.iload_n 3, 1) := by decide +kernel
theorem dX11_wrongInActs_70 : decode MX11_wrongInActs.2.1 70 = .ok (.bipush 99, 2) := by decide +kernel
theorem dX11_wrongInActs_72 : decode MX11_wrongInActs.2.1 72 = .ok (.if_icmp .ne 7, 3) := by decide +kernel
theorem dX11_wrongInActs_75 : decode MX11_wrongInActs.2.1 75 = .ok (.iconst 1, 1) := by decide +kernel
theorem dX11_wrongInActs_76 : decode MX11_wrongInActs.2.1 76 = .ok (.goto 4, 3) := by decide +kernel
theorem dX11_wrongInActs_79 : decode MX11_wrongInActs.2.1 79 = .ok (.iconst 0, 1) := by decide +kernel
theorem dX11_wrongInActs_80 : decode MX11_wrongInActs.2.1 80 = .ok (.istore 6, 2) := by decide +kernel
theorem dX11_wrongInActs_82 : decode MX11_wrongInActs.2.1 82 = .ok (.iload 5, 2) := by decide +kernel
theorem dX11_wrongInActs_84 : decode MX11_wrongInActs.2.1 84 = .ok (.invokestatic 130, 3) := by decide +kernel
theorem dX11_wrongInActs_87 : decode MX11_wrongInActs.2.1 87 = .ok (.ifCond .eq 15, 3) := by decide +kernel
theorem dX11_wrongInActs_90 : decode MX11_wrongInActs.2.1 90 = .ok (.iload 5, 2) := by decide +kernel
theorem dX11_wrongInActs_92 : decode MX11_wrongInActs.2.1 92 = .ok (.bipush 48, 2) := by decide +kernel
theorem dX11_wrongInActs_94 : decode MX11_wrongInActs.2.1 94 = .ok (.if_icmp .ne 11, 3) := by decide +kernel
theorem dX11_wrongInActs_97 : decode MX11_wrongInActs.2.1 97 = .ok (.iload 6, 2) := by decide +kernel
theorem dX11_wrongInActs_99 : decode MX11_wrongInActs.2.1 99 = .ok (.ifCond .ne 6, 3) := by decide +kernel
theorem dX11_wrongInActs_102 : decode MX11_wrongInActs.2.1 102 = .ok (.iload 4, 2) := by decide +kernel
theorem dX11_wrongInActs_104 : decode MX11_wrongInActs.2.1 104 = .ok (.ireturn, 1) := by decide +kernel
theorem dX11_wrongInActs_105 : decode MX11_wrongInActs.2.1 105 = .ok (.iinc 2 (-1), 3) := by decide +kernel
theorem dX11_wrongInActs_108 : decode MX11_wrongInActs.2.1 108 = .ok (.iinc 4 1, 3) := by decide +kernel
theorem dX11_wrongInActs_111 : decode MX11_wrongInActs.2.1 111 = .ok (.goto (-96), 3) := by decide +kernel
theorem dX11_wrongInActs_114 : decode MX11_wrongInActs.2.1 114 = .ok (.iload_n 1, 1) := by decide +kernel
theorem dX11_wrongInActs_115 : decode MX11_wrongInActs.2.1 115 = .ok (.bipush 60, 2) := by decide +kernel
theorem dX11_wrongInActs_117 : decode MX11_wrongInActs.2.1 117 = .ok (.if_icmp .le 6, 3) := by decide +kernel
theorem dX11_wrongInActs_120 : decode MX11_wrongInActs.2.1 120 = .ok (.bipush 60, 2) := by decide +kernel
theorem dX11_wrongInActs_122 : decode MX11_wrongInActs.2.1 122 = .ok (.ireturn, 1) := by decide +kernel
theorem dX11_wrongInActs_123 : decode MX11_wrongInActs.2.1 123 = .ok (.iload_n 2, 1) := by decide +kernel
theorem dX11_wrongInActs_124 : decode MX11_wrongInActs.2.1 124 = .ok (.ifCond .ne 7, 3) := by decide +kernel
theorem dX11_wrongInActs_127 : decode MX11_wrongInActs.2.1 127 = .ok (.iconst (-1), 1) := by decide +kernel
theorem dX11_wrongInActs_128 : decode MX11_wrongInActs.2.1 128 = .ok (.goto 4, 3) := by decide +kernel
theorem dX11_wrongInActs_131 : decode MX11_wrongInActs.2.1 131 = .ok (.iload_n 1, 1) := by decide +kernel
theorem dX11_wrongInActs_132 : decode MX11_wrongInActs.2.1 132 = .ok (.ireturn, 1) := by decide +kernel
theorem dX11_digitsOfAct_0 : decode MX11_digitsOfAct.2.1 0 = .ok (.iload_n 0, 1) := by decide +kernel
theorem dX11_digitsOfAct_1 : decode MX11_digitsOfAct.2.1 1 = .ok (.tableswitch 77 99 112 #[71, 73, 77, 77, 77, 71, 77, 77, 77, 75, 77, 77, 77, 75], 71) := by decide +kernel
theorem dX11_digitsOfAct_72 : decode MX11_digitsOfAct.2.1 72 = .ok (.iconst 1, 1) := by decide +kernel
theorem dX11_digitsOfAct_73 : decode MX11_digitsOfAct.2.1 73 = .ok (.ireturn, 1) := by decide +kernel
theorem dX11_digitsOfAct_74 : decode MX11_digitsOfAct.2.1 74 = .ok (.iconst 2, 1) := by decide +kernel
theorem dX11_digitsOfAct_75 : decode MX11_digitsOfAct.2.1 75 = .ok (.ireturn, 1) := by decide +kernel
theorem dX11_digitsOfAct_76 : decode MX11_digitsOfAct.2.1 76 = .ok (.iconst 3, 1) := by decide +kernel
theorem dX11_digitsOfAct_77 : decode MX11_digitsOfAct.2.1 77 = .ok (.ireturn, 1) := by decide +kernel
theorem dX11_digitsOfAct_78 : decode MX11_digitsOfAct.2.1 78 = .ok (.iconst 0, 1) := by decide +kernel
theorem dX11_digitsOfAct_79 : decode MX11_digitsOfAct.2.1 79 = .ok (.ireturn, 1) := by decide +kernel
theorem dX11_act_0 : decode MX11_act.2.1 0 = .ok (.aload_n 0, 1) := by decide +kernel
theorem dX11_act_1 : decode MX11_act.2.1 1 = .ok (.getfield 12, 3) := by decide +kernel
theorem dX11_act_4 : decode MX11_act.2.1 4 = .ok (.iload_n 1, 1) := by decide +kernel
theorem dX11_act_5 : decode MX11_act.2.1 5 = .ok (.iconst 1, 1) := by decide +kernel
theorem dX11_act_6 : decode MX11_act.2.1 6 = .ok (.iadd, 1) := by decide +kernel
theorem dX11_act_7 : decode MX11_act.2.1 7 = .ok (.invokevirtual 127, 3) := by decide +kernel
theorem dX11_act_10 : decode MX11_act.2.1 10 = .ok (.bipush 48, 2) := by decide +kernel
theorem dX11_act_12 : decode MX11_act.2.1 12 = .ok (.isub, 1) := by decide +kernel
theorem dX11_act_13 : decode MX11_act.2.1 13 = .ok (.istore_n 2, 1) := by decide +kernel
theorem dX11_act_14 : decode MX11_act.2.1 14 = .ok (.aload_n 0, 1) := by decide +kernel
theorem dX11_act_15 : decode MX11_act.2.1 15 = .ok (.getfield 12, 3) := by decide +kernel
theorem dX11_act_18 : decode MX11_act.2.1 18 = .ok (.iload_n 1, 1) := by decide +kernel
theorem dX11_act_19 : decode MX11_act.2.1 19 = .ok (.iconst 2, 1) := by decide +kernel
theorem dX11_act_20 : decode MX11_act.2.1 20 = .ok (.iadd, 1) := by decide +kernel
theorem dX11_act_21 : decode MX11_act.2.1 21 = .ok (.invokevirtual 127, 3) := by decide +kernel
theorem dX11_act_24 : decode MX11_act.2.1 24 = .ok (.bipush 48, 2) := by decide +kernel
theorem dX11_act_26 : decode MX11_act.2.1 26 = .ok (.isub, 1) := by decide +kernel
theorem dX11_act_27 : decode MX11_act.2.1 27 = .ok (.istore_n 3, 1) := by decide +kernel
theorem dX11_act_28 : decode MX11_act.2.1 28 = .ok (.aload_n 0, 1) := by decide +kernel
theorem dX11_act_29 : decode MX11_act.2.1 29 = .ok (.getfield 12, 3) := by decide +kernel
theorem dX11_act_32 : decode MX11_act.2.1 32 = .ok (.iload_n 1, 1) := by decide +kernel
theorem dX11_act_33 : decode MX11_act.2.1 33 = .ok (.iconst 3, 1) := by decide +kernel
theorem dX11_act_34 : decode MX11_act.2.1 34 = .ok (.iadd, 1) := by decide +kernel
theorem dX11_act_35 : decode MX11_act.2.1 35 = .ok (.invokevirtual 127, 3) := by decide +kernel
theorem dX11_act_38 : decode MX11_act.2.1 38 = .ok (.bipush 48, 2) := by decide +kernel
theorem dX11_act_40 : decode MX11_act.2.1 40 = .ok (.isub, 1) := by decide +kernel
theorem dX11_act_41 : decode MX11_act.2.1 41 = .ok (.istore 4, 2) := by decide +kernel
theorem dX11_act_43 : decode MX11_act.2.1 43 = .ok (.aload_n 0, 1) := by decide +kernel
theorem dX11_act_44 : decode MX11_act.2.1 44 = .ok (.getfield 12, 3) := by decide +kernel
theorem dX11_act_47 : decode MX11_act.2.1 47 = .ok (.iload_n 1, 1) := by decide +kernel
theorem dX11_act_48 : decode MX11_act.2.1 48 = .ok (.invokevirtual 127, 3) := by decide +kernel
theorem dX11_act_51 : decode MX11_act.2.1 51 = .ok (.tableswitch 129 99 112 #[96, 86, 129, 129, 129, 69, 129, 129, 129, 105, 129, 129, 129, 117], 69) := by decide +kernel
theorem dX11_act_120 : decode MX11_act.2.1 120 = .ok (.aload_n 0, 1) := by decide +kernel
theorem dX11_act_121 : decode MX11_act.2.1 121 = .ok (.getfield 36, 3) := by decide +kernel
theorem dX11_act_124 : decode MX11_act.2.1 124 = .ok (.aload_n 0, 1) := by decide +kernel
theorem dX11_act_125 : decode MX11_act.2.1 125 = .ok (.getfield 26, 3) := by decide +kernel
theorem dX11_act_128 : decode MX11_act.2.1 128 = .ok (.aload_n 0, 1) := by decide +kernel
theorem dX11_act_129 : decode MX11_act.2.1 129 = .ok (.getfield 91, 3) := by decide +kernel
theorem dX11_act_132 : decode MX11_act.2.1 132 = .ok (.iload_n 2, 1) := by decide +kernel
theorem dX11_act_133 : decode MX11_act.2.1 133 = .ok (.invokevirtual 197, 3) := by decide +kernel
theorem dX11_act_136 : decode MX11_act.2.1 136 = .ok (.ireturn, 1) := by decide +kernel
theorem dX11_act_137 : decode MX11_act.2.1 137 = .ok (.aload_n 0, 1) := by decide +kernel
theorem dX11_act_138 : decode MX11_act.2.1 138 = .ok (.getfield 26, 3) := by decide +kernel
theorem dX11_act_141 : decode MX11_act.2.1 141 = .ok (.iload_n 2, 1) := by decide +kernel
theorem dX11_act_142 : decode MX11_act.2.1 142 = .ok (.iload_n 3, 1) := by decide +kernel
theorem dX11_act_143 : decode MX11_act.2.1 143 = .ok (.invokevirtual 211, 3) := by decide +kernel
theorem dX11_act_146 : decode MX11_act.2.1 146 = .ok (.ireturn, 1) := by decide +kernel
theorem dX11_act_147 : decode MX11_act.2.1 147 = .ok (.aload_n 0, 1) := by decide +kernel
theorem dX11_act_148 : decode MX11_act.2.1 148 = .ok (.getfield 26, 3) := by decide +kernel
theorem dX11_act_151 : decode MX11_act.2.1 151 = .ok (.iload_n 2, 1) := by decide +kernel
theorem dX11_act_152 : decode MX11_act.2.1 152 = .ok (.invokevirtual 217, 3) := by decide +kernel
theorem dX11_act_155 : decode MX11_act.2.1 155 = .ok (.ireturn, 1) := by decide +kernel
theorem dX11_act_156 : decode MX11_act.2.1 156 = .ok (.aload_n 0, 1) := by decide +kernel
theorem dX11_act_157 : decode MX11_act.2.1 157 = .ok (.getfield 26, 3) := by decide +kernel
theorem dX11_act_160 : decode MX11_act.2.1 160 = .ok (.iload_n 2, 1) := by decide +kernel
theorem dX11_act_161 : decode MX11_act.2.1 161 = .ok (.iload_n 3, 1) := by decide +kernel
theorem dX11_act_162 : decode MX11_act.2.1 162 = .ok (.iload 4, 2) := by decide +kernel
theorem dX11_act_164 : decode MX11_act.2.1 164 = .ok (.invokevirtual 220, 3) := by decide +kernel
theorem dX11_act_167 : decode MX11_act.2.1 167 = .ok (.ireturn, 1) := by decide +kernel
theorem dX11_act_168 : decode MX11_act.2.1 168 = .ok (.aload_n 0, 1) := by decide +kernel
theorem dX11_act_169 : decode MX11_act.2.1 169 = .ok (.getfield 26, 3) := by decide +kernel
theorem dX11_act_172 : decode MX11_act.2.1 172 = .ok (.iload_n 2, 1) := by decide +kernel
theorem dX11_act_173 : decode MX11_act.2.1 173 = .ok (.iload_n 3, 1) := by decide +kernel
theorem dX11_act_174 : decode MX11_act.2.1 174 = .ok (.iload 4, 2) := by decide +kernel
theorem dX11_act_176 : decode MX11_act.2.1 176 = .ok (.invokevirtual 224, 3) := by decide +kernel
theorem dX11_act_179 : decode MX11_act.2.1 179 = .ok (.ireturn, 1) := by decide +kernel
theorem dX11_act_180 : decode MX11_act.2.1 180 = .ok (.iconst (-1), 1) := by decide +kernel
theorem dX11_act_181 : decode MX11_act.2.1 181 = .ok (.ireturn, 1) := by decide +kernel
theorem dX11_undo_0 : decode MX11_undo.2.1 0 = .ok (.aload_n 0, 1) := by decide +kernel
theorem dX11_undo_1 : decode MX11_undo.2.1 1 = .ok (.getfield 43, 3) := by decide +kernel
theorem dX11_undo_4 : decode MX11_undo.2.1 4 = .ok (.aload_n 0, 1) := by decide +kernel
theorem dX11_undo_5 : decode MX11_undo.2.1 5 = .ok (.getfield 26, 3) := by decide +kernel
theorem dX11_undo_8 : decode MX11_undo.2.1 8 = .ok (.invokevirtual 236, 3) := by decide +kernel
theorem dX11_undo_11 : decode MX11_undo.2.1 11 = .ok (.ifCond .eq 13, 3) := by decide +kernel
theorem dX11_undo_14 : decode MX11_undo.2.1 14 = .ok (.aload_n 0, 1) := by decide +kernel
theorem dX11_undo_15 : decode MX11_undo.2.1 15 = .ok (.getfield 43, 3) := by decide +kernel
theorem dX11_undo_18 : decode MX11_undo.2.1 18 = .ok (.invokevirtual 240, 3) := by decide +kernel
theorem dX11_undo_21 : decode MX11_undo.2.1 21 = .ok (.goto 4, 3) := by decide +kernel
theorem dX11_undo_24 : decode MX11_undo.2.1 24 = .ok (.iconst (-1), 1) := by decide +kernel
theorem dX11_undo_25 : decode MX11_undo.2.1 25 = .ok (.ireturn, 1) := by decide +kernel
theorem dX11_said_0 : decode MX11_said.2.1 0 = .ok (.aload_n 0, 1) := by decide +kernel
theorem dX11_said_1 : decode MX11_said.2.1 1 = .ok (.getfield 26, 3) := by decide +kernel
theorem dX11_said_4 : decode MX11_said.2.1 4 = .ok (.iload_n 1, 1) := by decide +kernel
theorem dX11_said_5 : decode MX11_said.2.1 5 = .ok (.invokevirtual 148, 3) := by decide +kernel
theorem dX11_said_8 : decode MX11_said.2.1 8 = .ok (.ifCond .ne 5, 3) := by decide +kernel
theorem dX11_said_11 : decode MX11_said.2.1 11 = .ok (.iconst (-1), 1) := by decide +kernel
theorem dX11_said_12 : decode MX11_said.2.1 12 = .ok (.ireturn, 1) := by decide +kernel
theorem dX11_said_13 : decode MX11_said.2.1 13 = .ok (.aload_n 0, 1) := by decide +kernel
theorem dX11_said_14 : decode MX11_said.2.1 14 = .ok (.getfield 19, 3) := by decide +kernel
theorem dX11_said_17 : decode MX11_said.2.1 17 = .ok (.invokevirtual 243, 3) := by decide +kernel
theorem dX11_said_20 : decode MX11_said.2.1 20 = .ok (.iconst 0, 1) := by decide +kernel
theorem dX11_said_21 : decode MX11_said.2.1 21 = .ok (.istore_n 2, 1) := by decide +kernel
theorem dX11_said_22 : decode MX11_said.2.1 22 = .ok (.iconst 0, 1) := by decide +kernel
theorem dX11_said_23 : decode MX11_said.2.1 23 = .ok (.istore_n 3, 1) := by decide +kernel
theorem dX11_said_24 : decode MX11_said.2.1 24 = .ok (.iload_n 3, 1) := by decide +kernel
theorem dX11_said_25 : decode MX11_said.2.1 25 = .ok (.aload_n 0, 1) := by decide +kernel
theorem dX11_said_26 : decode MX11_said.2.1 26 = .ok (.getfield 26, 3) := by decide +kernel
theorem dX11_said_29 : decode MX11_said.2.1 29 = .ok (.getfield 110, 3) := by decide +kernel
theorem dX11_said_32 : decode MX11_said.2.1 32 = .ok (.if_icmp .ge 55, 3) := by decide +kernel
theorem dX11_said_35 : decode MX11_said.2.1 35 = .ok (.iload_n 3, 1) := by decide +kernel
theorem dX11_said_36 : decode MX11_said.2.1 36 = .ok (.iload_n 1, 1) := by decide +kernel
theorem dX11_said_37 : decode MX11_said.2.1 37 = .ok (.if_icmp .eq 44, 3) := by decide +kernel
theorem dX11_said_40 : decode MX11_said.2.1 40 = .ok (.aload_n 0, 1) := by decide +kernel
theorem dX11_said_41 : decode MX11_said.2.1 41 = .ok (.getfield 26, 3) := by decide +kernel
theorem dX11_said_44 : decode MX11_said.2.1 44 = .ok (.iload_n 3, 1) := by decide +kernel
theorem dX11_said_45 : decode MX11_said.2.1 45 = .ok (.invokevirtual 244, 3) := by decide +kernel
theorem dX11_said_48 : decode MX11_said.2.1 48 = .ok (.ifCond .eq 33, 3) := by decide +kernel
theorem dX11_said_51 : decode MX11_said.2.1 51 = .ok (.aload_n 0, 1) := by decide +kernel
theorem dX11_said_52 : decode MX11_said.2.1 52 = .ok (.getfield 91, 3) := by decide +kernel
theorem dX11_said_55 : decode MX11_said.2.1 55 = .ok (.aload_n 0, 1) := by decide +kernel
theorem dX11_said_56 : decode MX11_said.2.1 56 = .ok (.getfield 26, 3) := by decide +kernel
theorem dX11_said_59 : decode MX11_said.2.1 59 = .ok (.iload_n 3, 1) := by decide +kernel
theorem dX11_said_60 : decode MX11_said.2.1 60 = .ok (.iload_n 1, 1) := by decide +kernel
theorem dX11_said_61 : decode MX11_said.2.1 61 = .ok (.invokevirtual 176, 3) := by decide +kernel
theorem dX11_said_64 : decode MX11_said.2.1 64 = .ok (.istore 4, 2) := by decide +kernel
theorem dX11_said_66 : decode MX11_said.2.1 66 = .ok (.aload_n 0, 1) := by decide +kernel
theorem dX11_said_67 : decode MX11_said.2.1 67 = .ok (.getfield 19, 3) := by decide +kernel
theorem dX11_said_70 : decode MX11_said.2.1 70 = .ok (.iload 4, 2) := by decide +kernel
theorem dX11_said_72 : decode MX11_said.2.1 72 = .ok (.i2l, 1) := by decide +kernel
theorem dX11_said_73 : decode MX11_said.2.1 73 = .ok (.invokevirtual 247, 3) := by decide +kernel
theorem dX11_said_76 : decode MX11_said.2.1 76 = .ok (.iload_n 2, 1) := by decide +kernel
theorem dX11_said_77 : decode MX11_said.2.1 77 = .ok (.iload 4, 2) := by decide +kernel
theorem dX11_said_79 : decode MX11_said.2.1 79 = .ok (.iadd, 1) := by decide +kernel
theorem dX11_said_80 : decode MX11_said.2.1 80 = .ok (.istore_n 2, 1) := by decide +kernel
theorem dX11_said_81 : decode MX11_said.2.1 81 = .ok (.iinc 3 1, 3) := by decide +kernel
theorem dX11_said_84 : decode MX11_said.2.1 84 = .ok (.goto (-60), 3) := by decide +kernel
theorem dX11_said_87 : decode MX11_said.2.1 87 = .ok (.iload_n 2, 1) := by decide +kernel
theorem dX11_said_88 : decode MX11_said.2.1 88 = .ok (.ireturn, 1) := by decide +kernel
theorem dX11_lookAhead_0 : decode MX11_lookAhead.2.1 0 = .ok (.aload_n 0, 1) := by decide +kernel
theorem dX11_lookAhead_1 : decode MX11_lookAhead.2.1 1 = .ok (.getfield 30, 3) := by decide +kernel
theorem dX11_lookAhead_4 : decode MX11_lookAhead.2.1 4 = .ok (.aload_n 0, 1) := by decide +kernel
theorem dX11_lookAhead_5 : decode MX11_lookAhead.2.1 5 = .ok (.getfield 26, 3) := by decide +kernel
theorem dX11_lookAhead_8 : decode MX11_lookAhead.2.1 8 = .ok (.invokevirtual 250, 3) := by decide +kernel
theorem dX11_lookAhead_11 : decode MX11_lookAhead.2.1 11 = .ok (.aload_n 0, 1) := by decide +kernel
theorem dX11_lookAhead_12 : decode MX11_lookAhead.2.1 12 = .ok (.getfield 36, 3) := by decide +kernel
theorem dX11_lookAhead_15 : decode MX11_lookAhead.2.1 15 = .ok (.aload_n 0, 1) := by decide +kernel
theorem dX11_lookAhead_16 : decode MX11_lookAhead.2.1 16 = .ok (.getfield 30, 3) := by decide +kernel
theorem dX11_lookAhead_19 : decode MX11_lookAhead.2.1 19 = .ok (.aload_n 0, 1) := by decide +kernel
theorem dX11_lookAhead_20 : decode MX11_lookAhead.2.1 20 = .ok (.getfield 91, 3) := by decide +kernel
theorem dX11_lookAhead_23 : decode MX11_lookAhead.2.1 23 = .ok (.iload_n 1, 1) := by decide +kernel
theorem dX11_lookAhead_24 : decode MX11_lookAhead.2.1 24 = .ok (.invokevirtual 197, 3) := by decide +kernel
theorem dX11_lookAhead_27 : decode MX11_lookAhead.2.1 27 = .ok (.pop, 1) := by decide +kernel
theorem dX11_lookAhead_28 : decode MX11_lookAhead.2.1 28 = .ok (.return_, 1) := by decide +kernel
theorem dX11_lookAheadWithDeath_0 : decode MX11_lookAheadWithDeath.2.1 0 = .ok (.aload_n 0, 1) := by decide +kernel
theorem dX11_lookAheadWithDeath_1 : decode MX11_lookAheadWithDeath.2.1 1 = .ok (.getfield 30, 3) := by decide +kernel
theorem dX11_lookAheadWithDeath_4 : decode MX11_lookAheadWithDeath.2.1 4 = .ok (.aload_n 0, 1) := by decide +kernel
theorem dX11_lookAheadWithDeath_5 : decode MX11_lookAheadWithDeath.2.1 5 = .ok (.getfield 26, 3) := by decide +kernel
theorem dX11_lookAheadWithDeath_8 : decode MX11_lookAheadWithDeath.2.1 8 = .ok (.invokevirtual 250, 3) := by decide +kernel
theorem dX11_lookAheadWithDeath_11 : decode MX11_lookAheadWithDeath.2.1 11 = .ok (.aload_n 0, 1) := by decide +kernel
theorem dX11_lookAheadWithDeath_12 : decode MX11_lookAheadWithDeath.2.1 12 = .ok (.getfield 30, 3) := by decide +kernel
theorem dX11_lookAheadWithDeath_15 : decode MX11_lookAheadWithDeath.2.1 15 = .ok (.iload_n 1, 1) := by decide +kernel
theorem dX11_lookAheadWithDeath_16 : decode MX11_lookAheadWithDeath.2.1 16 = .ok (.iload_n 2, 1) := by decide +kernel
theorem dX11_lookAheadWithDeath_17 : decode MX11_lookAheadWithDeath.2.1 17 = .ok (.invokevirtual 211, 3) := by decide +kernel
theorem dX11_lookAheadWithDeath_20 : decode MX11_lookAheadWithDeath.2.1 20 = .ok (.pop, 1) := by decide +kernel
theorem dX11_lookAheadWithDeath_21 : decode MX11_lookAheadWithDeath.2.1 21 = .ok (.aload_n 0, 1) := by decide +kernel
theorem dX11_lookAheadWithDeath_22 : decode MX11_lookAheadWithDeath.2.1 22 = .ok (.getfield 36, 3) := by decide +kernel
theorem dX11_lookAheadWithDeath_25 : decode MX11_lookAheadWithDeath.2.1 25 = .ok (.aload_n 0, 1) := by decide +kernel
theorem dX11_lookAheadWithDeath_26 : decode MX11_lookAheadWithDeath.2.1 26 = .ok (.getfield 30, 3) := by decide +kernel
theorem dX11_lookAheadWithDeath_29 : decode MX11_lookAheadWithDeath.2.1 29 = .ok (.aload_n 0, 1) := by decide +kernel
theorem dX11_lookAheadWithDeath_30 : decode MX11_lookAheadWithDeath.2.1 30 = .ok (.getfield 91, 3) := by decide +kernel
theorem dX11_lookAheadWithDeath_33 : decode MX11_lookAheadWithDeath.2.1 33 = .ok (.iload_n 3, 1) := by decide +kernel
theorem dX11_lookAheadWithDeath_34 : decode MX11_lookAheadWithDeath.2.1 34 = .ok (.invokevirtual 197, 3) := by decide +kernel
theorem dX11_lookAheadWithDeath_37 : decode MX11_lookAheadWithDeath.2.1 37 = .ok (.pop, 1) := by decide +kernel
theorem dX11_lookAheadWithDeath_38 : decode MX11_lookAheadWithDeath.2.1 38 = .ok (.return_, 1) := by decide +kernel
theorem dX11_isAhead_0 : decode MX11_isAhead.2.1 0 = .ok (.iload_n 0, 1) := by decide +kernel
theorem dX11_isAhead_1 : decode MX11_isAhead.2.1 1 = .ok (.ifCond .lt 13, 3) := by decide +kernel
theorem dX11_isAhead_4 : decode MX11_isAhead.2.1 4 = .ok (.iload_n 0, 1) := by decide +kernel
theorem dX11_isAhead_5 : decode MX11_isAhead.2.1 5 = .ok (.bipush 99, 2) := by decide +kernel
theorem dX11_isAhead_7 : decode MX11_isAhead.2.1 7 = .ok (.if_icmp .gt 7, 3) := by decide +kernel
theorem dX11_isAhead_10 : decode MX11_isAhead.2.1 10 = .ok (.iconst 1, 1) := by decide +kernel
theorem dX11_isAhead_11 : decode MX11_isAhead.2.1 11 = .ok (.goto 4, 3) := by decide +kernel
theorem dX11_isAhead_14 : decode MX11_isAhead.2.1 14 = .ok (.iconst 0, 1) := by decide +kernel
theorem dX11_isAhead_15 : decode MX11_isAhead.2.1 15 = .ok (.ireturn, 1) := by decide +kernel
theorem dX11_isDeath_0 : decode MX11_isDeath.2.1 0 = .ok (.iload_n 0, 1) := by decide +kernel
theorem dX11_isDeath_1 : decode MX11_isDeath.2.1 1 = .ok (.iconst 1, 1) := by decide +kernel
theorem dX11_isDeath_2 : decode MX11_isDeath.2.1 2 = .ok (.if_icmp .lt 13, 3) := by decide +kernel
theorem dX11_isDeath_5 : decode MX11_isDeath.2.1 5 = .ok (.iload_n 0, 1) := by decide +kernel
theorem dX11_isDeath_6 : decode MX11_isDeath.2.1 6 = .ok (.bipush 9, 2) := by decide +kernel
theorem dX11_isDeath_8 : decode MX11_isDeath.2.1 8 = .ok (.if_icmp .gt 7, 3) := by decide +kernel
theorem dX11_isDeath_11 : decode MX11_isDeath.2.1 11 = .ok (.iconst 1, 1) := by decide +kernel
theorem dX11_isDeath_12 : decode MX11_isDeath.2.1 12 = .ok (.goto 4, 3) := by decide +kernel
theorem dX11_isDeath_15 : decode MX11_isDeath.2.1 15 = .ok (.iconst 0, 1) := by decide +kernel
theorem dX11_isDeath_16 : decode MX11_isDeath.2.1 16 = .ok (.ireturn, 1) := by decide +kernel
theorem dX11_later_0 : decode MX11_later.2.1 0 = .ok (.aload_n 0, 1) := by decide +kernel
theorem dX11_later_1 : decode MX11_later.2.1 1 = .ok (.getfield 26, 3) := by decide +kernel
theorem dX11_later_4 : decode MX11_later.2.1 4 = .ok (.iload_n 1, 1) := by decide +kernel
theorem dX11_later_5 : decode MX11_later.2.1 5 = .ok (.invokevirtual 148, 3) := by decide +kernel
theorem dX11_later_8 : decode MX11_later.2.1 8 = .ok (.ifCond .eq 10, 3) := by decide +kernel
theorem dX11_later_11 : decode MX11_later.2.1 11 = .ok (.iload_n 2, 1) := by decide +kernel
theorem dX11_later_12 : decode MX11_later.2.1 12 = .ok (.invokestatic 253, 3) := by decide +kernel
theorem dX11_later_15 : decode MX11_later.2.1 15 = .ok (.ifCond .ne 5, 3) := by decide +kernel
theorem dX11_later_18 : decode MX11_later.2.1 18 = .ok (.iconst (-1), 1) := by decide +kernel
theorem dX11_later_19 : decode MX11_later.2.1 19 = .ok (.ireturn, 1) := by decide +kernel
theorem dX11_later_20 : decode MX11_later.2.1 20 = .ok (.aload_n 0, 1) := by decide +kernel
theorem dX11_later_21 : decode MX11_later.2.1 21 = .ok (.iload_n 2, 1) := by decide +kernel
theorem dX11_later_22 : decode MX11_later.2.1 22 = .ok (.invokevirtual 256, 3) := by decide +kernel
theorem dX11_later_25 : decode MX11_later.2.1 25 = .ok (.aload_n 0, 1) := by decide +kernel
theorem dX11_later_26 : decode MX11_later.2.1 26 = .ok (.getfield 19, 3) := by decide +kernel
theorem dX11_later_29 : decode MX11_later.2.1 29 = .ok (.invokevirtual 243, 3) := by decide +kernel
theorem dX11_later_32 : decode MX11_later.2.1 32 = .ok (.iconst 0, 1) := by decide +kernel
theorem dX11_later_33 : decode MX11_later.2.1 33 = .ok (.istore_n 3, 1) := by decide +kernel
theorem dX11_later_34 : decode MX11_later.2.1 34 = .ok (.iload_n 3, 1) := by decide +kernel
theorem dX11_later_35 : decode MX11_later.2.1 35 = .ok (.aload_n 0, 1) := by decide +kernel
theorem dX11_later_36 : decode MX11_later.2.1 36 = .ok (.getfield 30, 3) := by decide +kernel
theorem dX11_later_39 : decode MX11_later.2.1 39 = .ok (.getfield 110, 3) := by decide +kernel
theorem dX11_later_42 : decode MX11_later.2.1 42 = .ok (.if_icmp .ge 26, 3) := by decide +kernel
theorem dX11_later_45 : decode MX11_later.2.1 45 = .ok (.aload_n 0, 1) := by decide +kernel
theorem dX11_later_46 : decode MX11_later.2.1 46 = .ok (.getfield 19, 3) := by decide +kernel
theorem dX11_later_49 : decode MX11_later.2.1 49 = .ok (.aload_n 0, 1) := by decide +kernel
theorem dX11_later_50 : decode MX11_later.2.1 50 = .ok (.getfield 30, 3) := by decide +kernel
theorem dX11_later_53 : decode MX11_later.2.1 53 = .ok (.getfield 154, 3) := by decide +kernel
theorem dX11_later_56 : decode MX11_later.2.1 56 = .ok (.iload_n 3, 1) := by decide +kernel
theorem dX11_later_57 : decode MX11_later.2.1 57 = .ok (.iaload, 1) := by decide +kernel
theorem dX11_later_58 : decode MX11_later.2.1 58 = .ok (.i2l, 1) := by decide +kernel
theorem dX11_later_59 : decode MX11_later.2.1 59 = .ok (.invokevirtual 247, 3) := by decide +kernel
theorem dX11_later_62 : decode MX11_later.2.1 62 = .ok (.iinc 3 1, 3) := by decide +kernel
theorem dX11_later_65 : decode MX11_later.2.1 65 = .ok (.goto (-31), 3) := by decide +kernel
theorem dX11_later_68 : decode MX11_later.2.1 68 = .ok (.aload_n 0, 1) := by decide +kernel
theorem dX11_later_69 : decode MX11_later.2.1 69 = .ok (.getfield 30, 3) := by decide +kernel
theorem dX11_later_72 : decode MX11_later.2.1 72 = .ok (.getfield 154, 3) := by decide +kernel
theorem dX11_later_75 : decode MX11_later.2.1 75 = .ok (.iload_n 1, 1) := by decide +kernel
theorem dX11_later_76 : decode MX11_later.2.1 76 = .ok (.iaload, 1) := by decide +kernel
theorem dX11_later_77 : decode MX11_later.2.1 77 = .ok (.ireturn, 1) := by decide +kernel
theorem dX11_most_0 : decode MX11_most.2.1 0 = .ok (.iload_n 1, 1) := by decide +kernel
theorem dX11_most_1 : decode MX11_most.2.1 1 = .ok (.invokestatic 253, 3) := by decide +kernel
theorem dX11_most_4 : decode MX11_most.2.1 4 = .ok (.ifCond .ne 5, 3) := by decide +kernel
theorem dX11_most_7 : decode MX11_most.2.1 7 = .ok (.iconst (-1), 1) := by decide +kernel
theorem dX11_most_8 : decode MX11_most.2.1 8 = .ok (.ireturn, 1) := by decide +kernel
theorem dX11_most_9 : decode MX11_most.2.1 9 = .ok (.aload_n 0, 1) := by decide +kernel
theorem dX11_most_10 : decode MX11_most.2.1 10 = .ok (.getfield 26, 3) := by decide +kernel
theorem dX11_most_13 : decode MX11_most.2.1 13 = .ok (.getfield 110, 3) := by decide +kernel
theorem dX11_most_16 : decode MX11_most.2.1 16 = .ok (.ifCond .ne 6, 3) := by decide +kernel
theorem dX11_most_19 : decode MX11_most.2.1 19 = .ok (.bipush (-2), 2) := by decide +kernel
theorem dX11_most_21 : decode MX11_most.2.1 21 = .ok (.ireturn, 1) := by decide +kernel
theorem dX11_most_22 : decode MX11_most.2.1 22 = .ok (.aload_n 0, 1) := by decide +kernel
theorem dX11_most_23 : decode MX11_most.2.1 23 = .ok (.iload_n 1, 1) := by decide +kernel
theorem dX11_most_24 : decode MX11_most.2.1 24 = .ok (.invokevirtual 256, 3) := by decide +kernel
theorem dX11_most_27 : decode MX11_most.2.1 27 = .ok (.iconst 0, 1) := by decide +kernel
theorem dX11_most_28 : decode MX11_most.2.1 28 = .ok (.istore_n 2, 1) := by decide +kernel
theorem dX11_most_29 : decode MX11_most.2.1 29 = .ok (.iconst 0, 1) := by decide +kernel
theorem dX11_most_30 : decode MX11_most.2.1 30 = .ok (.istore_n 3, 1) := by decide +kernel
theorem dX11_most_31 : decode MX11_most.2.1 31 = .ok (.iconst 1, 1) := by decide +kernel
theorem dX11_most_32 : decode MX11_most.2.1 32 = .ok (.istore 4, 2) := by decide +kernel
theorem dX11_most_34 : decode MX11_most.2.1 34 = .ok (.iload 4, 2) := by decide +kernel
theorem dX11_most_36 : decode MX11_most.2.1 36 = .ok (.aload_n 0, 1) := by decide +kernel
theorem dX11_most_37 : decode MX11_most.2.1 37 = .ok (.getfield 30, 3) := by decide +kernel
theorem dX11_most_40 : decode MX11_most.2.1 40 = .ok (.getfield 110, 3) := by decide +kernel
theorem dX11_most_43 : decode MX11_most.2.1 43 = .ok (.if_icmp .ge 59, 3) := by decide +kernel
theorem dX11_most_46 : decode MX11_most.2.1 46 = .ok (.aload_n 0, 1) := by decide +kernel
theorem dX11_most_47 : decode MX11_most.2.1 47 = .ok (.getfield 30, 3) := by decide +kernel
theorem dX11_most_50 : decode MX11_most.2.1 50 = .ok (.getfield 154, 3) := by decide +kernel
theorem dX11_most_53 : decode MX11_most.2.1 53 = .ok (.iload 4, 2) := by decide +kernel
theorem dX11_most_55 : decode MX11_most.2.1 55 = .ok (.iaload, 1) := by decide +kernel
theorem dX11_most_56 : decode MX11_most.2.1 56 = .ok (.aload_n 0, 1) := by decide +kernel
theorem dX11_most_57 : decode MX11_most.2.1 57 = .ok (.getfield 30, 3) := by decide +kernel
theorem dX11_most_60 : decode MX11_most.2.1 60 = .ok (.getfield 154, 3) := by decide +kernel
theorem dX11_most_63 : decode MX11_most.2.1 63 = .ok (.iload_n 2, 1) := by decide +kernel
theorem dX11_most_64 : decode MX11_most.2.1 64 = .ok (.iaload, 1) := by decide +kernel
theorem dX11_most_65 : decode MX11_most.2.1 65 = .ok (.if_icmp .le 6, 3) := by decide +kernel
theorem dX11_most_68 : decode MX11_most.2.1 68 = .ok (.iload 4, 2) := by decide +kernel
theorem dX11_most_70 : decode MX11_most.2.1 70 = .ok (.istore_n 2, 1) := by decide +kernel
theorem dX11_most_71 : decode MX11_most.2.1 71 = .ok (.aload_n 0, 1) := by decide +kernel
theorem dX11_most_72 : decode MX11_most.2.1 72 = .ok (.getfield 30, 3) := by decide +kernel
theorem dX11_most_75 : decode MX11_most.2.1 75 = .ok (.getfield 154, 3) := by decide +kernel
theorem dX11_most_78 : decode MX11_most.2.1 78 = .ok (.iload 4, 2) := by decide +kernel
theorem dX11_most_80 : decode MX11_most.2.1 80 = .ok (.iaload, 1) := by decide +kernel
theorem dX11_most_81 : decode MX11_most.2.1 81 = .ok (.aload_n 0, 1) := by decide +kernel
theorem dX11_most_82 : decode MX11_most.2.1 82 = .ok (.getfield 30, 3) := by decide +kernel
theorem dX11_most_85 : decode MX11_most.2.1 85 = .ok (.getfield 154, 3) := by decide +kernel
theorem dX11_most_88 : decode MX11_most.2.1 88 = .ok (.iload_n 3, 1) := by decide +kernel
theorem dX11_most_89 : decode MX11_most.2.1 89 = .ok (.iaload, 1) := by decide +kernel
theorem dX11_most_90 : decode MX11_most.2.1 90 = .ok (.if_icmp .ge 6, 3) := by decide +kernel
theorem dX11_most_93 : decode MX11_most.2.1 93 = .ok (.iload 4, 2) := by decide +kernel
theorem dX11_most_95 : decode MX11_most.2.1 95 = .ok (.istore_n 3, 1) := by decide +kernel
theorem dX11_most_96 : decode MX11_most.2.1 96 = .ok (.iinc 4 1, 3) := by decide +kernel
theorem dX11_most_99 : decode MX11_most.2.1 99 = .ok (.goto (-65), 3) := by decide +kernel
theorem dX11_most_102 : decode MX11_most.2.1 102 = .ok (.aload_n 0, 1) := by decide +kernel
theorem dX11_most_103 : decode MX11_most.2.1 103 = .ok (.getfield 19, 3) := by decide +kernel
theorem dX11_most_106 : decode MX11_most.2.1 106 = .ok (.aload_n 0, 1) := by decide +kernel
theorem dX11_most_107 : decode MX11_most.2.1 107 = .ok (.getfield 30, 3) := by decide +kernel
theorem dX11_most_110 : decode MX11_most.2.1 110 = .ok (.getfield 154, 3) := by decide +kernel
theorem dX11_most_113 : decode MX11_most.2.1 113 = .ok (.iload_n 2, 1) := by decide +kernel
theorem dX11_most_114 : decode MX11_most.2.1 114 = .ok (.iaload, 1) := by decide +kernel
theorem dX11_most_115 : decode MX11_most.2.1 115 = .ok (.i2l, 1) := by decide +kernel
theorem dX11_most_116 : decode MX11_most.2.1 116 = .ok (.iload_n 3, 1) := by decide +kernel
theorem dX11_most_117 : decode MX11_most.2.1 117 = .ok (.i2l, 1) := by decide +kernel
theorem dX11_most_118 : decode MX11_most.2.1 118 = .ok (.invokevirtual 204, 3) := by decide +kernel
theorem dX11_most_121 : decode MX11_most.2.1 121 = .ok (.iload_n 2, 1) := by decide +kernel
theorem dX11_most_122 : decode MX11_most.2.1 122 = .ok (.ireturn, 1) := by decide +kernel
theorem dX11_longest_0 : decode MX11_longest.2.1 0 = .ok (.aload_n 0, 1) := by decide +kernel
theorem dX11_longest_1 : decode MX11_longest.2.1 1 = .ok (.getfield 26, 3) := by decide +kernel
theorem dX11_longest_4 : decode MX11_longest.2.1 4 = .ok (.iload_n 1, 1) := by decide +kernel
theorem dX11_longest_5 : decode MX11_longest.2.1 5 = .ok (.invokevirtual 148, 3) := by decide +kernel
theorem dX11_longest_8 : decode MX11_longest.2.1 8 = .ok (.ifCond .ne 5, 3) := by decide +kernel
theorem dX11_longest_11 : decode MX11_longest.2.1 11 = .ok (.iconst (-1), 1) := by decide +kernel
theorem dX11_longest_12 : decode MX11_longest.2.1 12 = .ok (.ireturn, 1) := by decide +kernel
theorem dX11_longest_13 : decode MX11_longest.2.1 13 = .ok (.aload_n 0, 1) := by decide +kernel
theorem dX11_longest_14 : decode MX11_longest.2.1 14 = .ok (.getfield 26, 3) := by decide +kernel
theorem dX11_longest_17 : decode MX11_longest.2.1 17 = .ok (.iload_n 1, 1) := by decide +kernel
theorem dX11_longest_18 : decode MX11_longest.2.1 18 = .ok (.invokevirtual 244, 3) := by decide +kernel
theorem dX11_longest_21 : decode MX11_longest.2.1 21 = .ok (.ifCond .ne 6, 3) := by decide +kernel
theorem dX11_longest_24 : decode MX11_longest.2.1 24 = .ok (.bipush (-2), 2) := by decide +kernel
theorem dX11_longest_26 : decode MX11_longest.2.1 26 = .ok (.ireturn, 1) := by decide +kernel
theorem dX11_longest_27 : decode MX11_longest.2.1 27 = .ok (.iconst 0, 1) := by decide +kernel
theorem dX11_longest_28 : decode MX11_longest.2.1 28 = .ok (.istore_n 2, 1) := by decide +kernel
theorem dX11_longest_29 : decode MX11_longest.2.1 29 = .ok (.iconst (-1), 1) := by decide +kernel
theorem dX11_longest_30 : decode MX11_longest.2.1 30 = .ok (.istore_n 3, 1) := by decide +kernel
theorem dX11_longest_31 : decode MX11_longest.2.1 31 = .ok (.iconst 1, 1) := by decide +kernel
theorem dX11_longest_32 : decode MX11_longest.2.1 32 = .ok (.istore 4, 2) := by decide +kernel
theorem dX11_longest_34 : decode MX11_longest.2.1 34 = .ok (.iload 4, 2) := by decide +kernel
theorem dX11_longest_36 : decode MX11_longest.2.1 36 = .ok (.bipush 9, 2) := by decide +kernel
theorem dX11_longest_38 : decode MX11_longest.2.1 38 = .ok (.if_icmp .gt 44, 3) := by decide +kernel
theorem dX11_longest_41 : decode MX11_longest.2.1 41 = .ok (.aload_n 0, 1) := by decide +kernel
theorem dX11_longest_42 : decode MX11_longest.2.1 42 = .ok (.iload_n 1, 1) := by decide +kernel
theorem dX11_longest_43 : decode MX11_longest.2.1 43 = .ok (.iload 4, 2) := by decide +kernel
theorem dX11_longest_45 : decode MX11_longest.2.1 45 = .ok (.bipush 12, 2) := by decide +kernel
theorem dX11_longest_47 : decode MX11_longest.2.1 47 = .ok (.invokevirtual 259, 3) := by decide +kernel
theorem dX11_longest_50 : decode MX11_longest.2.1 50 = .ok (.aload_n 0, 1) := by decide +kernel
theorem dX11_longest_51 : decode MX11_longest.2.1 51 = .ok (.getfield 30, 3) := by decide +kernel
theorem dX11_longest_54 : decode MX11_longest.2.1 54 = .ok (.getfield 154, 3) := by decide +kernel
theorem dX11_longest_57 : decode MX11_longest.2.1 57 = .ok (.iload_n 1, 1) := by decide +kernel
theorem dX11_longest_58 : decode MX11_longest.2.1 58 = .ok (.iaload, 1) := by decide +kernel
theorem dX11_longest_59 : decode MX11_longest.2.1 59 = .ok (.iload_n 3, 1) := by decide +kernel
theorem dX11_longest_60 : decode MX11_longest.2.1 60 = .ok (.if_icmp .le 16, 3) := by decide +kernel
theorem dX11_longest_63 : decode MX11_longest.2.1 63 = .ok (.iload 4, 2) := by decide +kernel
theorem dX11_longest_65 : decode MX11_longest.2.1 65 = .ok (.istore_n 2, 1) := by decide +kernel
theorem dX11_longest_66 : decode MX11_longest.2.1 66 = .ok (.aload_n 0, 1) := by decide +kernel
theorem dX11_longest_67 : decode MX11_longest.2.1 67 = .ok (.getfield 30, 3) := by decide +kernel
theorem dX11_longest_70 : decode MX11_longest.2.1 70 = .ok (.getfield 154, 3) := by decide +kernel
theorem dX11_longest_73 : decode MX11_longest.2.1 73 = .ok (.iload_n 1, 1) := by decide +kernel
theorem dX11_longest_74 : decode MX11_longest.2.1 74 = .ok (.iaload, 1) := by decide +kernel
theorem dX11_longest_75 : decode MX11_longest.2.1 75 = .ok (.istore_n 3, 1) := by decide +kernel
theorem dX11_longest_76 : decode MX11_longest.2.1 76 = .ok (.iinc 4 1, 3) := by decide +kernel
theorem dX11_longest_79 : decode MX11_longest.2.1 79 = .ok (.goto (-45), 3) := by decide +kernel
theorem dX11_longest_82 : decode MX11_longest.2.1 82 = .ok (.aload_n 0, 1) := by decide +kernel
theorem dX11_longest_83 : decode MX11_longest.2.1 83 = .ok (.bipush 12, 2) := by decide +kernel
theorem dX11_longest_85 : decode MX11_longest.2.1 85 = .ok (.invokevirtual 256, 3) := by decide +kernel
theorem dX11_longest_88 : decode MX11_longest.2.1 88 = .ok (.aload_n 0, 1) := by decide +kernel
theorem dX11_longest_89 : decode MX11_longest.2.1 89 = .ok (.getfield 19, 3) := by decide +kernel
theorem dX11_longest_92 : decode MX11_longest.2.1 92 = .ok (.iload_n 3, 1) := by decide +kernel
theorem dX11_longest_93 : decode MX11_longest.2.1 93 = .ok (.i2l, 1) := by decide +kernel
theorem dX11_longest_94 : decode MX11_longest.2.1 94 = .ok (.aload_n 0, 1) := by decide +kernel
theorem dX11_longest_95 : decode MX11_longest.2.1 95 = .ok (.getfield 30, 3) := by decide +kernel
theorem dX11_longest_98 : decode MX11_longest.2.1 98 = .ok (.getfield 154, 3) := by decide +kernel
theorem dX11_longest_101 : decode MX11_longest.2.1 101 = .ok (.iload_n 1, 1) := by decide +kernel
theorem dX11_longest_102 : decode MX11_longest.2.1 102 = .ok (.iaload, 1) := by decide +kernel
theorem dX11_longest_103 : decode MX11_longest.2.1 103 = .ok (.i2l, 1) := by decide +kernel
theorem dX11_longest_104 : decode MX11_longest.2.1 104 = .ok (.invokevirtual 204, 3) := by decide +kernel
theorem dX11_longest_107 : decode MX11_longest.2.1 107 = .ok (.iload_n 2, 1) := by decide +kernel
theorem dX11_longest_108 : decode MX11_longest.2.1 108 = .ok (.ireturn, 1) := by decide +kernel
theorem dX11_together_0 : decode MX11_together.2.1 0 = .ok (.iload_n 1, 1) := by decide +kernel
theorem dX11_together_1 : decode MX11_together.2.1 1 = .ok (.invokestatic 263, 3) := by decide +kernel
theorem dX11_together_4 : decode MX11_together.2.1 4 = .ok (.ifCond .ne 5, 3) := by decide +kernel
theorem dX11_together_7 : decode MX11_together.2.1 7 = .ok (.iconst (-1), 1) := by decide +kernel
theorem dX11_together_8 : decode MX11_together.2.1 8 = .ok (.ireturn, 1) := by decide +kernel
theorem dX11_together_9 : decode MX11_together.2.1 9 = .ok (.aload_n 0, 1) := by decide +kernel
theorem dX11_together_10 : decode MX11_together.2.1 10 = .ok (.getfield 26, 3) := by decide +kernel
theorem dX11_together_13 : decode MX11_together.2.1 13 = .ok (.invokevirtual 266, 3) := by decide +kernel
theorem dX11_together_16 : decode MX11_together.2.1 16 = .ok (.istore_n 2, 1) := by decide +kernel
theorem dX11_together_17 : decode MX11_together.2.1 17 = .ok (.iconst (-1), 1) := by decide +kernel
theorem dX11_together_18 : decode MX11_together.2.1 18 = .ok (.istore_n 3, 1) := by decide +kernel
theorem dX11_together_19 : decode MX11_together.2.1 19 = .ok (.iconst 0, 1) := by decide +kernel
theorem dX11_together_20 : decode MX11_together.2.1 20 = .ok (.istore 4, 2) := by decide +kernel
theorem dX11_together_22 : decode MX11_together.2.1 22 = .ok (.iconst 0, 1) := by decide +kernel
theorem dX11_together_23 : decode MX11_together.2.1 23 = .ok (.istore 5, 2) := by decide +kernel
theorem dX11_together_25 : decode MX11_together.2.1 25 = .ok (.iload 5, 2) := by decide +kernel
theorem dX11_together_27 : decode MX11_together.2.1 27 = .ok (.iload_n 2, 1) := by decide +kernel
theorem dX11_together_28 : decode MX11_together.2.1 28 = .ok (.if_icmp .gt 40, 3) := by decide +kernel
theorem dX11_together_31 : decode MX11_together.2.1 31 = .ok (.iload 5, 2) := by decide +kernel
theorem dX11_together_33 : decode MX11_together.2.1 33 = .ok (.iload_n 2, 1) := by decide +kernel
theorem dX11_together_34 : decode MX11_together.2.1 34 = .ok (.iconst (-1), 1) := by decide +kernel
theorem dX11_together_35 : decode MX11_together.2.1 35 = .ok (.ixor, 1) := by decide +kernel
theorem dX11_together_36 : decode MX11_together.2.1 36 = .ok (.iand, 1) := by decide +kernel
theorem dX11_together_37 : decode MX11_together.2.1 37 = .ok (.ifCond .ne 25, 3) := by decide +kernel
theorem dX11_together_40 : decode MX11_together.2.1 40 = .ok (.aload_n 0, 1) := by decide +kernel
theorem dX11_together_41 : decode MX11_together.2.1 41 = .ok (.iload 5, 2) := by decide +kernel
theorem dX11_together_43 : decode MX11_together.2.1 43 = .ok (.iload_n 1, 1) := by decide +kernel
theorem dX11_together_44 : decode MX11_together.2.1 44 = .ok (.invokevirtual 269, 3) := by decide +kernel
theorem dX11_together_47 : decode MX11_together.2.1 47 = .ok (.istore 6, 2) := by decide +kernel
theorem dX11_together_49 : decode MX11_together.2.1 49 = .ok (.iload 6, 2) := by decide +kernel
theorem dX11_together_51 : decode MX11_together.2.1 51 = .ok (.iload_n 3, 1) := by decide +kernel
theorem dX11_together_52 : decode MX11_together.2.1 52 = .ok (.if_icmp .le 10, 3) := by decide +kernel
theorem dX11_together_55 : decode MX11_together.2.1 55 = .ok (.iload 6, 2) := by decide +kernel
theorem dX11_together_57 : decode MX11_together.2.1 57 = .ok (.istore_n 3, 1) := by decide +kernel
theorem dX11_together_58 : decode MX11_together.2.1 58 = .ok (.iload 5, 2) := by decide +kernel
theorem dX11_together_60 : decode MX11_together.2.1 60 = .ok (.istore 4, 2) := by decide +kernel
theorem dX11_together_62 : decode MX11_together.2.1 62 = .ok (.iinc 5 1, 3) := by decide +kernel
theorem dX11_together_65 : decode MX11_together.2.1 65 = .ok (.goto (-40), 3) := by decide +kernel
theorem dX11_together_68 : decode MX11_together.2.1 68 = .ok (.aload_n 0, 1) := by decide +kernel
theorem dX11_together_69 : decode MX11_together.2.1 69 = .ok (.getfield 19, 3) := by decide +kernel
theorem dX11_together_72 : decode MX11_together.2.1 72 = .ok (.iload 4, 2) := by decide +kernel
theorem dX11_together_74 : decode MX11_together.2.1 74 = .ok (.i2l, 1) := by decide +kernel
theorem dX11_together_75 : decode MX11_together.2.1 75 = .ok (.invokevirtual 272, 3) := by decide +kernel
theorem dX11_together_78 : decode MX11_together.2.1 78 = .ok (.iload_n 3, 1) := by decide +kernel
theorem dX11_together_79 : decode MX11_together.2.1 79 = .ok (.ireturn, 1) := by decide +kernel
theorem dX11_honourIfDead_0 : decode MX11_honourIfDead.2.1 0 = .ok (.aload_n 0, 1) := by decide +kernel
theorem dX11_honourIfDead_1 : decode MX11_honourIfDead.2.1 1 = .ok (.getfield 30, 3) := by decide +kernel
theorem dX11_honourIfDead_4 : decode MX11_honourIfDead.2.1 4 = .ok (.aload_n 0, 1) := by decide +kernel
theorem dX11_honourIfDead_5 : decode MX11_honourIfDead.2.1 5 = .ok (.getfield 26, 3) := by decide +kernel
theorem dX11_honourIfDead_8 : decode MX11_honourIfDead.2.1 8 = .ok (.invokevirtual 250, 3) := by decide +kernel
theorem dX11_honourIfDead_11 : decode MX11_honourIfDead.2.1 11 = .ok (.iconst 0, 1) := by decide +kernel
theorem dX11_honourIfDead_12 : decode MX11_honourIfDead.2.1 12 = .ok (.istore_n 3, 1) := by decide +kernel
theorem dX11_honourIfDead_13 : decode MX11_honourIfDead.2.1 13 = .ok (.iload_n 3, 1) := by decide +kernel
theorem dX11_honourIfDead_14 : decode MX11_honourIfDead.2.1 14 = .ok (.aload_n 0, 1) := by decide +kernel
theorem dX11_honourIfDead_15 : decode MX11_honourIfDead.2.1 15 = .ok (.getfield 30, 3) := by decide +kernel
theorem dX11_honourIfDead_18 : decode MX11_honourIfDead.2.1 18 = .ok (.getfield 110, 3) := by decide +kernel
theorem dX11_honourIfDead_21 : decode MX11_honourIfDead.2.1 21 = .ok (.if_icmp .ge 27, 3) := by decide +kernel
theorem dX11_honourIfDead_24 : decode MX11_honourIfDead.2.1 24 = .ok (.iload_n 3, 1) := by decide +kernel
theorem dX11_honourIfDead_25 : decode MX11_honourIfDead.2.1 25 = .ok (.iload_n 1, 1) := by decide +kernel
theorem dX11_honourIfDead_26 : decode MX11_honourIfDead.2.1 26 = .ok (.invokestatic 274, 3) := by decide +kernel
theorem dX11_honourIfDead_29 : decode MX11_honourIfDead.2.1 29 = .ok (.ifCond .eq 13, 3) := by decide +kernel
theorem dX11_honourIfDead_32 : decode MX11_honourIfDead.2.1 32 = .ok (.aload_n 0, 1) := by decide +kernel
theorem dX11_honourIfDead_33 : decode MX11_honourIfDead.2.1 33 = .ok (.getfield 30, 3) := by decide +kernel
theorem dX11_honourIfDead_36 : decode MX11_honourIfDead.2.1 36 = .ok (.iload_n 3, 1) := by decide +kernel
theorem dX11_honourIfDead_37 : decode MX11_honourIfDead.2.1 37 = .ok (.iload_n 2, 1) := by decide +kernel
theorem dX11_honourIfDead_38 : decode MX11_honourIfDead.2.1 38 = .ok (.invokevirtual 211, 3) := by decide +kernel
theorem dX11_honourIfDead_41 : decode MX11_honourIfDead.2.1 41 = .ok (.pop, 1) := by decide +kernel
theorem dX11_honourIfDead_42 : decode MX11_honourIfDead.2.1 42 = .ok (.iinc 3 1, 3) := by decide +kernel
theorem dX11_honourIfDead_45 : decode MX11_honourIfDead.2.1 45 = .ok (.goto (-32), 3) := by decide +kernel
theorem dX11_honourIfDead_48 : decode MX11_honourIfDead.2.1 48 = .ok (.aload_n 0, 1) := by decide +kernel
theorem dX11_honourIfDead_49 : decode MX11_honourIfDead.2.1 49 = .ok (.getfield 36, 3) := by decide +kernel
theorem dX11_honourIfDead_52 : decode MX11_honourIfDead.2.1 52 = .ok (.aload_n 0, 1) := by decide +kernel
theorem dX11_honourIfDead_53 : decode MX11_honourIfDead.2.1 53 = .ok (.getfield 30, 3) := by decide +kernel
theorem dX11_honourIfDead_56 : decode MX11_honourIfDead.2.1 56 = .ok (.aload_n 0, 1) := by decide +kernel
theorem dX11_honourIfDead_57 : decode MX11_honourIfDead.2.1 57 = .ok (.getfield 91, 3) := by decide +kernel
theorem dX11_honourIfDead_60 : decode MX11_honourIfDead.2.1 60 = .ok (.iload_n 2, 1) := by decide +kernel
theorem dX11_honourIfDead_61 : decode MX11_honourIfDead.2.1 61 = .ok (.invokevirtual 197, 3) := by decide +kernel
theorem dX11_honourIfDead_64 : decode MX11_honourIfDead.2.1 64 = .ok (.pop, 1) := by decide +kernel
theorem dX11_honourIfDead_65 : decode MX11_honourIfDead.2.1 65 = .ok (.aload_n 0, 1) := by decide +kernel
theorem dX11_honourIfDead_66 : decode MX11_honourIfDead.2.1 66 = .ok (.getfield 30, 3) := by decide +kernel
theorem dX11_honourIfDead_69 : decode MX11_honourIfDead.2.1 69 = .ok (.aload_n 0, 1) := by decide +kernel
theorem dX11_honourIfDead_70 : decode MX11_honourIfDead.2.1 70 = .ok (.getfield 30, 3) := by decide +kernel
theorem dX11_honourIfDead_73 : decode MX11_honourIfDead.2.1 73 = .ok (.getfield 154, 3) := by decide +kernel
theorem dX11_honourIfDead_76 : decode MX11_honourIfDead.2.1 76 = .ok (.invokevirtual 189, 3) := by decide +kernel
theorem dX11_honourIfDead_79 : decode MX11_honourIfDead.2.1 79 = .ok (.ireturn, 1) := by decide +kernel
theorem dX11_heir_0 : decode MX11_heir.2.1 0 = .ok (.aload_n 0, 1) := by decide +kernel
theorem dX11_heir_1 : decode MX11_heir.2.1 1 = .ok (.getfield 26, 3) := by decide +kernel
theorem dX11_heir_4 : decode MX11_heir.2.1 4 = .ok (.iload_n 1, 1) := by decide +kernel
theorem dX11_heir_5 : decode MX11_heir.2.1 5 = .ok (.invokevirtual 148, 3) := by decide +kernel
theorem dX11_heir_8 : decode MX11_heir.2.1 8 = .ok (.ifCond .eq 10, 3) := by decide +kernel
theorem dX11_heir_11 : decode MX11_heir.2.1 11 = .ok (.iload_n 2, 1) := by decide +kernel
theorem dX11_heir_12 : decode MX11_heir.2.1 12 = .ok (.invokestatic 263, 3) := by decide +kernel
theorem dX11_heir_15 : decode MX11_heir.2.1 15 = .ok (.ifCond .ne 5, 3) := by decide +kernel
theorem dX11_heir_18 : decode MX11_heir.2.1 18 = .ok (.iconst (-1), 1) := by decide +kernel
theorem dX11_heir_19 : decode MX11_heir.2.1 19 = .ok (.ireturn, 1) := by decide +kernel
theorem dX11_heir_20 : decode MX11_heir.2.1 20 = .ok (.iconst (-1), 1) := by decide +kernel
theorem dX11_heir_21 : decode MX11_heir.2.1 21 = .ok (.istore_n 3, 1) := by decide +kernel
theorem dX11_heir_22 : decode MX11_heir.2.1 22 = .ok (.iconst 0, 1) := by decide +kernel
theorem dX11_heir_23 : decode MX11_heir.2.1 23 = .ok (.istore 4, 2) := by decide +kernel
theorem dX11_heir_25 : decode MX11_heir.2.1 25 = .ok (.iconst 0, 1) := by decide +kernel
theorem dX11_heir_26 : decode MX11_heir.2.1 26 = .ok (.istore 5, 2) := by decide +kernel
theorem dX11_heir_28 : decode MX11_heir.2.1 28 = .ok (.iload 5, 2) := by decide +kernel
theorem dX11_heir_30 : decode MX11_heir.2.1 30 = .ok (.aload_n 0, 1) := by decide +kernel
theorem dX11_heir_31 : decode MX11_heir.2.1 31 = .ok (.getfield 26, 3) := by decide +kernel
theorem dX11_heir_34 : decode MX11_heir.2.1 34 = .ok (.getfield 110, 3) := by decide +kernel
theorem dX11_heir_37 : decode MX11_heir.2.1 37 = .ok (.if_icmp .ge 64, 3) := by decide +kernel
theorem dX11_heir_40 : decode MX11_heir.2.1 40 = .ok (.iload 5, 2) := by decide +kernel
theorem dX11_heir_42 : decode MX11_heir.2.1 42 = .ok (.iload_n 1, 1) := by decide +kernel
theorem dX11_heir_43 : decode MX11_heir.2.1 43 = .ok (.if_icmp .eq 52, 3) := by decide +kernel
theorem dX11_heir_46 : decode MX11_heir.2.1 46 = .ok (.aload_n 0, 1) := by decide +kernel
theorem dX11_heir_47 : decode MX11_heir.2.1 47 = .ok (.getfield 26, 3) := by decide +kernel
theorem dX11_heir_50 : decode MX11_heir.2.1 50 = .ok (.iload 5, 2) := by decide +kernel
theorem dX11_heir_52 : decode MX11_heir.2.1 52 = .ok (.invokevirtual 244, 3) := by decide +kernel
theorem dX11_heir_55 : decode MX11_heir.2.1 55 = .ok (.ifCond .eq 40, 3) := by decide +kernel
theorem dX11_heir_58 : decode MX11_heir.2.1 58 = .ok (.aload_n 0, 1) := by decide +kernel
theorem dX11_heir_59 : decode MX11_heir.2.1 59 = .ok (.iload 5, 2) := by decide +kernel
theorem dX11_heir_61 : decode MX11_heir.2.1 61 = .ok (.iload_n 2, 1) := by decide +kernel
theorem dX11_heir_62 : decode MX11_heir.2.1 62 = .ok (.iload_n 2, 1) := by decide +kernel
theorem dX11_heir_63 : decode MX11_heir.2.1 63 = .ok (.invokevirtual 259, 3) := by decide +kernel
theorem dX11_heir_66 : decode MX11_heir.2.1 66 = .ok (.aload_n 0, 1) := by decide +kernel
theorem dX11_heir_67 : decode MX11_heir.2.1 67 = .ok (.getfield 30, 3) := by decide +kernel
theorem dX11_heir_70 : decode MX11_heir.2.1 70 = .ok (.iload_n 1, 1) := by decide +kernel
theorem dX11_heir_71 : decode MX11_heir.2.1 71 = .ok (.invokevirtual 277, 3) := by decide +kernel
theorem dX11_heir_74 : decode MX11_heir.2.1 74 = .ok (.istore 6, 2) := by decide +kernel
theorem dX11_heir_76 : decode MX11_heir.2.1 76 = .ok (.iload_n 3, 1) := by decide +kernel
theorem dX11_heir_77 : decode MX11_heir.2.1 77 = .ok (.iconst (-1), 1) := by decide +kernel
theorem dX11_heir_78 : decode MX11_heir.2.1 78 = .ok (.if_icmp .eq 10, 3) := by decide +kernel
theorem dX11_heir_81 : decode MX11_heir.2.1 81 = .ok (.iload 6, 2) := by decide +kernel
theorem dX11_heir_83 : decode MX11_heir.2.1 83 = .ok (.iload 4, 2) := by decide +kernel
theorem dX11_heir_85 : decode MX11_heir.2.1 85 = .ok (.if_icmp .le 10, 3) := by decide +kernel
theorem dX11_heir_88 : decode MX11_heir.2.1 88 = .ok (.iload 5, 2) := by decide +kernel
theorem dX11_heir_90 : decode MX11_heir.2.1 90 = .ok (.istore_n 3, 1) := by decide +kernel
theorem dX11_heir_91 : decode MX11_heir.2.1 91 = .ok (.iload 6, 2) := by decide +kernel
theorem dX11_heir_93 : decode MX11_heir.2.1 93 = .ok (.istore 4, 2) := by decide +kernel
theorem dX11_heir_95 : decode MX11_heir.2.1 95 = .ok (.iinc 5 1, 3) := by decide +kernel
theorem dX11_heir_98 : decode MX11_heir.2.1 98 = .ok (.goto (-70), 3) := by decide +kernel
theorem dX11_heir_101 : decode MX11_heir.2.1 101 = .ok (.iload_n 3, 1) := by decide +kernel
theorem dX11_heir_102 : decode MX11_heir.2.1 102 = .ok (.iconst (-1), 1) := by decide +kernel
theorem dX11_heir_103 : decode MX11_heir.2.1 103 = .ok (.if_icmp .ne 6, 3) := by decide +kernel
theorem dX11_heir_106 : decode MX11_heir.2.1 106 = .ok (.bipush (-2), 2) := by decide +kernel
theorem dX11_heir_108 : decode MX11_heir.2.1 108 = .ok (.ireturn, 1) := by decide +kernel
theorem dX11_heir_109 : decode MX11_heir.2.1 109 = .ok (.aload_n 0, 1) := by decide +kernel
theorem dX11_heir_110 : decode MX11_heir.2.1 110 = .ok (.iload_n 2, 1) := by decide +kernel
theorem dX11_heir_111 : decode MX11_heir.2.1 111 = .ok (.invokevirtual 256, 3) := by decide +kernel
theorem dX11_heir_114 : decode MX11_heir.2.1 114 = .ok (.aload_n 0, 1) := by decide +kernel
theorem dX11_heir_115 : decode MX11_heir.2.1 115 = .ok (.getfield 19, 3) := by decide +kernel
theorem dX11_heir_118 : decode MX11_heir.2.1 118 = .ok (.sipush 1000, 3) := by decide +kernel
theorem dX11_heir_121 : decode MX11_heir.2.1 121 = .ok (.iload 4, 2) := by decide +kernel
theorem dX11_heir_123 : decode MX11_heir.2.1 123 = .ok (.iadd, 1) := by decide +kernel
theorem dX11_heir_124 : decode MX11_heir.2.1 124 = .ok (.i2l, 1) := by decide +kernel
theorem dX11_heir_125 : decode MX11_heir.2.1 125 = .ok (.sipush 1000, 3) := by decide +kernel
theorem dX11_heir_128 : decode MX11_heir.2.1 128 = .ok (.aload_n 0, 1) := by decide +kernel
theorem dX11_heir_129 : decode MX11_heir.2.1 129 = .ok (.getfield 30, 3) := by decide +kernel
theorem dX11_heir_132 : decode MX11_heir.2.1 132 = .ok (.iload_n 1, 1) := by decide +kernel
theorem dX11_heir_133 : decode MX11_heir.2.1 133 = .ok (.invokevirtual 277, 3) := by decide +kernel
theorem dX11_heir_136 : decode MX11_heir.2.1 136 = .ok (.iadd, 1) := by decide +kernel
theorem dX11_heir_137 : decode MX11_heir.2.1 137 = .ok (.i2l, 1) := by decide +kernel
theorem dX11_heir_138 : decode MX11_heir.2.1 138 = .ok (.invokevirtual 204, 3) := by decide +kernel
theorem dX11_heir_141 : decode MX11_heir.2.1 141 = .ok (.iload_n 3, 1) := by decide +kernel
theorem dX11_heir_142 : decode MX11_heir.2.1 142 = .ok (.ireturn, 1) := by decide +kernel
theorem dX11_thinks_0 : decode MX11_thinks.2.1 0 = .ok (.aload_n 0, 1) := by decide +kernel
theorem dX11_thinks_1 : decode MX11_thinks.2.1 1 = .ok (.getfield 26, 3) := by decide +kernel
theorem dX11_thinks_4 : decode MX11_thinks.2.1 4 = .ok (.iload_n 1, 1) := by decide +kernel
theorem dX11_thinks_5 : decode MX11_thinks.2.1 5 = .ok (.iload_n 2, 1) := by decide +kernel
theorem dX11_thinks_6 : decode MX11_thinks.2.1 6 = .ok (.invokevirtual 172, 3) := by decide +kernel
theorem dX11_thinks_9 : decode MX11_thinks.2.1 9 = .ok (.ifCond .eq 10, 3) := by decide +kernel
theorem dX11_thinks_12 : decode MX11_thinks.2.1 12 = .ok (.iload_n 3, 1) := by decide +kernel
theorem dX11_thinks_13 : decode MX11_thinks.2.1 13 = .ok (.invokestatic 253, 3) := by decide +kernel
theorem dX11_thinks_16 : decode MX11_thinks.2.1 16 = .ok (.ifCond .ne 5, 3) := by decide +kernel
theorem dX11_thinks_19 : decode MX11_thinks.2.1 19 = .ok (.iconst (-1), 1) := by decide +kernel
theorem dX11_thinks_20 : decode MX11_thinks.2.1 20 = .ok (.ireturn, 1) := by decide +kernel
theorem dX11_thinks_21 : decode MX11_thinks.2.1 21 = .ok (.aload_n 0, 1) := by decide +kernel
theorem dX11_thinks_22 : decode MX11_thinks.2.1 22 = .ok (.getfield 30, 3) := by decide +kernel
theorem dX11_thinks_25 : decode MX11_thinks.2.1 25 = .ok (.aload_n 0, 1) := by decide +kernel
theorem dX11_thinks_26 : decode MX11_thinks.2.1 26 = .ok (.getfield 26, 3) := by decide +kernel
theorem dX11_thinks_29 : decode MX11_thinks.2.1 29 = .ok (.invokevirtual 250, 3) := by decide +kernel
theorem dX11_thinks_32 : decode MX11_thinks.2.1 32 = .ok (.aload_n 0, 1) := by decide +kernel
theorem dX11_thinks_33 : decode MX11_thinks.2.1 33 = .ok (.aload_n 0, 1) := by decide +kernel
theorem dX11_thinks_34 : decode MX11_thinks.2.1 34 = .ok (.getfield 30, 3) := by decide +kernel
theorem dX11_thinks_37 : decode MX11_thinks.2.1 37 = .ok (.getfield 133, 3) := by decide +kernel
theorem dX11_thinks_40 : decode MX11_thinks.2.1 40 = .ok (.iload_n 1, 1) := by decide +kernel
theorem dX11_thinks_41 : decode MX11_thinks.2.1 41 = .ok (.iload_n 2, 1) := by decide +kernel
theorem dX11_thinks_42 : decode MX11_thinks.2.1 42 = .ok (.invokestatic 137, 3) := by decide +kernel
theorem dX11_thinks_45 : decode MX11_thinks.2.1 45 = .ok (.iload_n 3, 1) := by decide +kernel
theorem dX11_thinks_46 : decode MX11_thinks.2.1 46 = .ok (.invokevirtual 280, 3) := by decide +kernel
theorem dX11_thinks_49 : decode MX11_thinks.2.1 49 = .ok (.ireturn, 1) := by decide +kernel
theorem dX11_watch_0 : decode MX11_watch.2.1 0 = .ok (.iload_n 2, 1) := by decide +kernel
theorem dX11_watch_1 : decode MX11_watch.2.1 1 = .ok (.ifCond .lt 9, 3) := by decide +kernel
theorem dX11_watch_4 : decode MX11_watch.2.1 4 = .ok (.iload_n 2, 1) := by decide +kernel
theorem dX11_watch_5 : decode MX11_watch.2.1 5 = .ok (.aload_n 1, 1) := by decide +kernel
theorem dX11_watch_6 : decode MX11_watch.2.1 6 = .ok (.arraylength, 1) := by decide +kernel
theorem dX11_watch_7 : decode MX11_watch.2.1 7 = .ok (.if_icmp .lt 5, 3) := by decide +kernel
theorem dX11_watch_10 : decode MX11_watch.2.1 10 = .ok (.iconst (-1), 1) := by decide +kernel
theorem dX11_watch_11 : decode MX11_watch.2.1 11 = .ok (.ireturn, 1) := by decide +kernel
theorem dX11_watch_12 : decode MX11_watch.2.1 12 = .ok (.iconst 0, 1) := by decide +kernel
theorem dX11_watch_13 : decode MX11_watch.2.1 13 = .ok (.istore 4, 2) := by decide +kernel
theorem dX11_watch_15 : decode MX11_watch.2.1 15 = .ok (.iconst 0, 1) := by decide +kernel
theorem dX11_watch_16 : decode MX11_watch.2.1 16 = .ok (.istore 5, 2) := by decide +kernel
theorem dX11_watch_18 : decode MX11_watch.2.1 18 = .ok (.iload 5, 2) := by decide +kernel
theorem dX11_watch_20 : decode MX11_watch.2.1 20 = .ok (.iload_n 3, 1) := by decide +kernel
theorem dX11_watch_21 : decode MX11_watch.2.1 21 = .ok (.if_icmp .ge 42, 3) := by decide +kernel
theorem dX11_watch_24 : decode MX11_watch.2.1 24 = .ok (.aload_n 1, 1) := by decide +kernel
theorem dX11_watch_25 : decode MX11_watch.2.1 25 = .ok (.iload_n 2, 1) := by decide +kernel
theorem dX11_watch_26 : decode MX11_watch.2.1 26 = .ok (.iaload, 1) := by decide +kernel
theorem dX11_watch_27 : decode MX11_watch.2.1 27 = .ok (.istore 6, 2) := by decide +kernel
theorem dX11_watch_29 : decode MX11_watch.2.1 29 = .ok (.aload_n 0, 1) := by decide +kernel
theorem dX11_watch_30 : decode MX11_watch.2.1 30 = .ok (.getfield 36, 3) := by decide +kernel
theorem dX11_watch_33 : decode MX11_watch.2.1 33 = .ok (.aload_n 0, 1) := by decide +kernel
theorem dX11_watch_34 : decode MX11_watch.2.1 34 = .ok (.getfield 30, 3) := by decide +kernel
theorem dX11_watch_37 : decode MX11_watch.2.1 37 = .ok (.aload_n 0, 1) := by decide +kernel
theorem dX11_watch_38 : decode MX11_watch.2.1 38 = .ok (.getfield 91, 3) := by decide +kernel
theorem dX11_watch_41 : decode MX11_watch.2.1 41 = .ok (.iconst 1, 1) := by decide +kernel
theorem dX11_watch_42 : decode MX11_watch.2.1 42 = .ok (.invokevirtual 197, 3) := by decide +kernel
theorem dX11_watch_45 : decode MX11_watch.2.1 45 = .ok (.pop, 1) := by decide +kernel
theorem dX11_watch_46 : decode MX11_watch.2.1 46 = .ok (.aload_n 1, 1) := by decide +kernel
theorem dX11_watch_47 : decode MX11_watch.2.1 47 = .ok (.iload_n 2, 1) := by decide +kernel
theorem dX11_watch_48 : decode MX11_watch.2.1 48 = .ok (.iaload, 1) := by decide +kernel
theorem dX11_watch_49 : decode MX11_watch.2.1 49 = .ok (.iload 6, 2) := by decide +kernel
theorem dX11_watch_51 : decode MX11_watch.2.1 51 = .ok (.if_icmp .eq 6, 3) := by decide +kernel
theorem dX11_watch_54 : decode MX11_watch.2.1 54 = .ok (.iinc 4 1, 3) := by decide +kernel
theorem dX11_watch_57 : decode MX11_watch.2.1 57 = .ok (.iinc 5 1, 3) := by decide +kernel
theorem dX11_watch_60 : decode MX11_watch.2.1 60 = .ok (.goto (-42), 3) := by decide +kernel
theorem dX11_watch_63 : decode MX11_watch.2.1 63 = .ok (.aload_n 0, 1) := by decide +kernel
theorem dX11_watch_64 : decode MX11_watch.2.1 64 = .ok (.getfield 19, 3) := by decide +kernel
theorem dX11_watch_67 : decode MX11_watch.2.1 67 = .ok (.iload 4, 2) := by decide +kernel
theorem dX11_watch_69 : decode MX11_watch.2.1 69 = .ok (.i2l, 1) := by decide +kernel
theorem dX11_watch_70 : decode MX11_watch.2.1 70 = .ok (.invokevirtual 272, 3) := by decide +kernel
theorem dX11_watch_73 : decode MX11_watch.2.1 73 = .ok (.aload_n 1, 1) := by decide +kernel
theorem dX11_watch_74 : decode MX11_watch.2.1 74 = .ok (.iload_n 2, 1) := by decide +kernel
theorem dX11_watch_75 : decode MX11_watch.2.1 75 = .ok (.iaload, 1) := by decide +kernel
theorem dX11_watch_76 : decode MX11_watch.2.1 76 = .ok (.ireturn, 1) := by decide +kernel
theorem dX11_flattery_0 : decode MX11_flattery.2.1 0 = .ok (.aload_n 0, 1) := by decide +kernel
theorem dX11_flattery_1 : decode MX11_flattery.2.1 1 = .ok (.getfield 26, 3) := by decide +kernel
theorem dX11_flattery_4 : decode MX11_flattery.2.1 4 = .ok (.getfield 110, 3) := by decide +kernel
theorem dX11_flattery_7 : decode MX11_flattery.2.1 7 = .ok (.iconst 2, 1) := by decide +kernel
theorem dX11_flattery_8 : decode MX11_flattery.2.1 8 = .ok (.if_icmp .ge 6, 3) := by decide +kernel
theorem dX11_flattery_11 : decode MX11_flattery.2.1 11 = .ok (.bipush (-2), 2) := by decide +kernel
theorem dX11_flattery_13 : decode MX11_flattery.2.1 13 = .ok (.ireturn, 1) := by decide +kernel
theorem dX11_flattery_14 : decode MX11_flattery.2.1 14 = .ok (.iconst (-1), 1) := by decide +kernel
theorem dX11_flattery_15 : decode MX11_flattery.2.1 15 = .ok (.istore_n 1, 1) := by decide +kernel
theorem dX11_flattery_16 : decode MX11_flattery.2.1 16 = .ok (.aload_n 0, 1) := by decide +kernel
theorem dX11_flattery_17 : decode MX11_flattery.2.1 17 = .ok (.getfield 19, 3) := by decide +kernel
theorem dX11_flattery_20 : decode MX11_flattery.2.1 20 = .ok (.invokevirtual 243, 3) := by decide +kernel
theorem dX11_flattery_23 : decode MX11_flattery.2.1 23 = .ok (.iconst 0, 1) := by decide +kernel
theorem dX11_flattery_24 : decode MX11_flattery.2.1 24 = .ok (.istore_n 2, 1) := by decide +kernel
theorem dX11_flattery_25 : decode MX11_flattery.2.1 25 = .ok (.iload_n 2, 1) := by decide +kernel
theorem dX11_flattery_26 : decode MX11_flattery.2.1 26 = .ok (.aload_n 0, 1) := by decide +kernel
theorem dX11_flattery_27 : decode MX11_flattery.2.1 27 = .ok (.getfield 26, 3) := by decide +kernel
theorem dX11_flattery_30 : decode MX11_flattery.2.1 30 = .ok (.getfield 110, 3) := by decide +kernel
theorem dX11_flattery_33 : decode MX11_flattery.2.1 33 = .ok (.if_icmp .ge 107, 3) := by decide +kernel
theorem dX11_flattery_36 : decode MX11_flattery.2.1 36 = .ok (.iconst 0, 1) := by decide +kernel
theorem dX11_flattery_37 : decode MX11_flattery.2.1 37 = .ok (.istore_n 3, 1) := by decide +kernel
theorem dX11_flattery_38 : decode MX11_flattery.2.1 38 = .ok (.iload_n 3, 1) := by decide +kernel
theorem dX11_flattery_39 : decode MX11_flattery.2.1 39 = .ok (.aload_n 0, 1) := by decide +kernel
theorem dX11_flattery_40 : decode MX11_flattery.2.1 40 = .ok (.getfield 26, 3) := by decide +kernel
theorem dX11_flattery_43 : decode MX11_flattery.2.1 43 = .ok (.getfield 110, 3) := by decide +kernel
theorem dX11_flattery_46 : decode MX11_flattery.2.1 46 = .ok (.if_icmp .ge 88, 3) := by decide +kernel
theorem dX11_flattery_49 : decode MX11_flattery.2.1 49 = .ok (.iload_n 2, 1) := by decide +kernel
theorem dX11_flattery_50 : decode MX11_flattery.2.1 50 = .ok (.iload_n 3, 1) := by decide +kernel
theorem dX11_flattery_51 : decode MX11_flattery.2.1 51 = .ok (.if_icmp .ne 7, 3) := by decide +kernel
theorem dX11_flattery_54 : decode MX11_flattery.2.1 54 = .ok (.iconst 0, 1) := by decide +kernel
theorem dX11_flattery_55 : decode MX11_flattery.2.1 55 = .ok (.goto 30, 3) := by decide +kernel
theorem dX11_flattery_58 : decode MX11_flattery.2.1 58 = .ok (.aload_n 0, 1) := by decide +kernel
theorem dX11_flattery_59 : decode MX11_flattery.2.1 59 = .ok (.getfield 91, 3) := by decide +kernel
theorem dX11_flattery_62 : decode MX11_flattery.2.1 62 = .ok (.aload_n 0, 1) := by decide +kernel
theorem dX11_flattery_63 : decode MX11_flattery.2.1 63 = .ok (.getfield 26, 3) := by decide +kernel
theorem dX11_flattery_66 : decode MX11_flattery.2.1 66 = .ok (.iload_n 2, 1) := by decide +kernel
theorem dX11_flattery_67 : decode MX11_flattery.2.1 67 = .ok (.iload_n 3, 1) := by decide +kernel
theorem dX11_flattery_68 : decode MX11_flattery.2.1 68 = .ok (.invokevirtual 176, 3) := by decide +kernel
theorem dX11_flattery_71 : decode MX11_flattery.2.1 71 = .ok (.aload_n 0, 1) := by decide +kernel
theorem dX11_flattery_72 : decode MX11_flattery.2.1 72 = .ok (.getfield 26, 3) := by decide +kernel
theorem dX11_flattery_75 : decode MX11_flattery.2.1 75 = .ok (.getfield 133, 3) := by decide +kernel
theorem dX11_flattery_78 : decode MX11_flattery.2.1 78 = .ok (.iload_n 2, 1) := by decide +kernel
theorem dX11_flattery_79 : decode MX11_flattery.2.1 79 = .ok (.iload_n 3, 1) := by decide +kernel
theorem dX11_flattery_80 : decode MX11_flattery.2.1 80 = .ok (.invokestatic 137, 3) := by decide +kernel
theorem dX11_flattery_83 : decode MX11_flattery.2.1 83 = .ok (.iaload, 1) := by decide +kernel
theorem dX11_flattery_84 : decode MX11_flattery.2.1 84 = .ok (.isub, 1) := by decide +kernel
theorem dX11_flattery_85 : decode MX11_flattery.2.1 85 = .ok (.istore 4, 2) := by decide +kernel
theorem dX11_flattery_87 : decode MX11_flattery.2.1 87 = .ok (.iload_n 2, 1) := by decide +kernel
theorem dX11_flattery_88 : decode MX11_flattery.2.1 88 = .ok (.iload_n 3, 1) := by decide +kernel
theorem dX11_flattery_89 : decode MX11_flattery.2.1 89 = .ok (.if_icmp .eq 39, 3) := by decide +kernel
theorem dX11_flattery_92 : decode MX11_flattery.2.1 92 = .ok (.iload 4, 2) := by decide +kernel
theorem dX11_flattery_94 : decode MX11_flattery.2.1 94 = .ok (.invokestatic 284, 3) := by decide +kernel
theorem dX11_flattery_97 : decode MX11_flattery.2.1 97 = .ok (.iload_n 1, 1) := by decide +kernel
theorem dX11_flattery_98 : decode MX11_flattery.2.1 98 = .ok (.if_icmp .le 30, 3) := by decide +kernel
theorem dX11_flattery_101 : decode MX11_flattery.2.1 101 = .ok (.iload 4, 2) := by decide +kernel
theorem dX11_flattery_103 : decode MX11_flattery.2.1 103 = .ok (.invokestatic 284, 3) := by decide +kernel
theorem dX11_flattery_106 : decode MX11_flattery.2.1 106 = .ok (.istore_n 1, 1) := by decide +kernel
theorem dX11_flattery_107 : decode MX11_flattery.2.1 107 = .ok (.aload_n 0, 1) := by decide +kernel
theorem dX11_flattery_108 : decode MX11_flattery.2.1 108 = .ok (.getfield 19, 3) := by decide +kernel
theorem dX11_flattery_111 : decode MX11_flattery.2.1 111 = .ok (.iload_n 2, 1) := by decide +kernel
theorem dX11_flattery_112 : decode MX11_flattery.2.1 112 = .ok (.i2l, 1) := by decide +kernel
theorem dX11_flattery_113 : decode MX11_flattery.2.1 113 = .ok (.iload_n 3, 1) := by decide +kernel
theorem dX11_flattery_114 : decode MX11_flattery.2.1 114 = .ok (.i2l, 1) := by decide +kernel
theorem dX11_flattery_115 : decode MX11_flattery.2.1 115 = .ok (.iload 4, 2) := by decide +kernel
theorem dX11_flattery_117 : decode MX11_flattery.2.1 117 = .ok (.ifCond .le 7, 3) := by decide +kernel
theorem dX11_flattery_120 : decode MX11_flattery.2.1 120 = .ok (.lconst 1, 1) := by decide +kernel
theorem dX11_flattery_121 : decode MX11_flattery.2.1 121 = .ok (.goto 4, 3) := by decide +kernel
theorem dX11_flattery_124 : decode MX11_flattery.2.1 124 = .ok (.lconst 0, 1) := by decide +kernel
theorem dX11_flattery_125 : decode MX11_flattery.2.1 125 = .ok (.invokevirtual 289, 3) := by decide +kernel
theorem dX11_flattery_128 : decode MX11_flattery.2.1 128 = .ok (.iinc 3 1, 3) := by decide +kernel
theorem dX11_flattery_131 : decode MX11_flattery.2.1 131 = .ok (.goto (-93), 3) := by decide +kernel
theorem dX11_flattery_134 : decode MX11_flattery.2.1 134 = .ok (.iinc 2 1, 3) := by decide +kernel
theorem dX11_flattery_137 : decode MX11_flattery.2.1 137 = .ok (.goto (-112), 3) := by decide +kernel
theorem dX11_flattery_140 : decode MX11_flattery.2.1 140 = .ok (.iload_n 1, 1) := by decide +kernel
theorem dX11_flattery_141 : decode MX11_flattery.2.1 141 = .ok (.ireturn, 1) := by decide +kernel
theorem dX11_wakes_0 : decode MX11_wakes.2.1 0 = .ok (.iconst (-1), 1) := by decide +kernel
theorem dX11_wakes_1 : decode MX11_wakes.2.1 1 = .ok (.istore_n 1, 1) := by decide +kernel
theorem dX11_wakes_2 : decode MX11_wakes.2.1 2 = .ok (.iconst 0, 1) := by decide +kernel
theorem dX11_wakes_3 : decode MX11_wakes.2.1 3 = .ok (.istore_n 2, 1) := by decide +kernel
theorem dX11_wakes_4 : decode MX11_wakes.2.1 4 = .ok (.iload_n 2, 1) := by decide +kernel
theorem dX11_wakes_5 : decode MX11_wakes.2.1 5 = .ok (.aload_n 0, 1) := by decide +kernel
theorem dX11_wakes_6 : decode MX11_wakes.2.1 6 = .ok (.getfield 26, 3) := by decide +kernel
theorem dX11_wakes_9 : decode MX11_wakes.2.1 9 = .ok (.getfield 110, 3) := by decide +kernel
theorem dX11_wakes_12 : decode MX11_wakes.2.1 12 = .ok (.if_icmp .ge 48, 3) := by decide +kernel
theorem dX11_wakes_15 : decode MX11_wakes.2.1 15 = .ok (.aload_n 0, 1) := by decide +kernel
theorem dX11_wakes_16 : decode MX11_wakes.2.1 16 = .ok (.getfield 26, 3) := by decide +kernel
theorem dX11_wakes_19 : decode MX11_wakes.2.1 19 = .ok (.iload_n 2, 1) := by decide +kernel
theorem dX11_wakes_20 : decode MX11_wakes.2.1 20 = .ok (.invokevirtual 244, 3) := by decide +kernel
theorem dX11_wakes_23 : decode MX11_wakes.2.1 23 = .ok (.ifCond .ne 31, 3) := by decide +kernel
theorem dX11_wakes_26 : decode MX11_wakes.2.1 26 = .ok (.iload_n 1, 1) := by decide +kernel
theorem dX11_wakes_27 : decode MX11_wakes.2.1 27 = .ok (.iconst (-1), 1) := by decide +kernel
theorem dX11_wakes_28 : decode MX11_wakes.2.1 28 = .ok (.if_icmp .eq 24, 3) := by decide +kernel
theorem dX11_wakes_31 : decode MX11_wakes.2.1 31 = .ok (.aload_n 0, 1) := by decide +kernel
theorem dX11_wakes_32 : decode MX11_wakes.2.1 32 = .ok (.getfield 26, 3) := by decide +kernel
theorem dX11_wakes_35 : decode MX11_wakes.2.1 35 = .ok (.getfield 160, 3) := by decide +kernel
theorem dX11_wakes_38 : decode MX11_wakes.2.1 38 = .ok (.iload_n 2, 1) := by decide +kernel
theorem dX11_wakes_39 : decode MX11_wakes.2.1 39 = .ok (.iaload, 1) := by decide +kernel
theorem dX11_wakes_40 : decode MX11_wakes.2.1 40 = .ok (.aload_n 0, 1) := by decide +kernel
theorem dX11_wakes_41 : decode MX11_wakes.2.1 41 = .ok (.getfield 26, 3) := by decide +kernel
theorem dX11_wakes_44 : decode MX11_wakes.2.1 44 = .ok (.getfield 160, 3) := by decide +kernel
theorem dX11_wakes_47 : decode MX11_wakes.2.1 47 = .ok (.iload_n 1, 1) := by decide +kernel
theorem dX11_wakes_48 : decode MX11_wakes.2.1 48 = .ok (.iaload, 1) := by decide +kernel
theorem dX11_wakes_49 : decode MX11_wakes.2.1 49 = .ok (.if_icmp .ge 5, 3) := by decide +kernel
theorem dX11_wakes_52 : decode MX11_wakes.2.1 52 = .ok (.iload_n 2, 1) := by decide +kernel
theorem dX11_wakes_53 : decode MX11_wakes.2.1 53 = .ok (.istore_n 1, 1) := by decide +kernel
theorem dX11_wakes_54 : decode MX11_wakes.2.1 54 = .ok (.iinc 2 1, 3) := by decide +kernel
theorem dX11_wakes_57 : decode MX11_wakes.2.1 57 = .ok (.goto (-53), 3) := by decide +kernel
theorem dX11_wakes_60 : decode MX11_wakes.2.1 60 = .ok (.iload_n 1, 1) := by decide +kernel
theorem dX11_wakes_61 : decode MX11_wakes.2.1 61 = .ok (.iconst (-1), 1) := by decide +kernel
theorem dX11_wakes_62 : decode MX11_wakes.2.1 62 = .ok (.if_icmp .ne 6, 3) := by decide +kernel
theorem dX11_wakes_65 : decode MX11_wakes.2.1 65 = .ok (.bipush (-2), 2) := by decide +kernel
theorem dX11_wakes_67 : decode MX11_wakes.2.1 67 = .ok (.ireturn, 1) := by decide +kernel
theorem dX11_wakes_68 : decode MX11_wakes.2.1 68 = .ok (.aload_n 0, 1) := by decide +kernel
theorem dX11_wakes_69 : decode MX11_wakes.2.1 69 = .ok (.getfield 26, 3) := by decide +kernel
theorem dX11_wakes_72 : decode MX11_wakes.2.1 72 = .ok (.getfield 160, 3) := by decide +kernel
theorem dX11_wakes_75 : decode MX11_wakes.2.1 75 = .ok (.iload_n 1, 1) := by decide +kernel
theorem dX11_wakes_76 : decode MX11_wakes.2.1 76 = .ok (.iaload, 1) := by decide +kernel
theorem dX11_wakes_77 : decode MX11_wakes.2.1 77 = .ok (.istore_n 2, 1) := by decide +kernel
theorem dX11_wakes_78 : decode MX11_wakes.2.1 78 = .ok (.aload_n 0, 1) := by decide +kernel
theorem dX11_wakes_79 : decode MX11_wakes.2.1 79 = .ok (.iload_n 2, 1) := by decide +kernel
theorem dX11_wakes_80 : decode MX11_wakes.2.1 80 = .ok (.invokevirtual 256, 3) := by decide +kernel
theorem dX11_wakes_83 : decode MX11_wakes.2.1 83 = .ok (.aload_n 0, 1) := by decide +kernel
theorem dX11_wakes_84 : decode MX11_wakes.2.1 84 = .ok (.getfield 19, 3) := by decide +kernel
theorem dX11_wakes_87 : decode MX11_wakes.2.1 87 = .ok (.iload_n 2, 1) := by decide +kernel
theorem dX11_wakes_88 : decode MX11_wakes.2.1 88 = .ok (.i2l, 1) := by decide +kernel
theorem dX11_wakes_89 : decode MX11_wakes.2.1 89 = .ok (.aload_n 0, 1) := by decide +kernel
theorem dX11_wakes_90 : decode MX11_wakes.2.1 90 = .ok (.getfield 30, 3) := by decide +kernel
theorem dX11_wakes_93 : decode MX11_wakes.2.1 93 = .ok (.getfield 154, 3) := by decide +kernel
theorem dX11_wakes_96 : decode MX11_wakes.2.1 96 = .ok (.iload_n 1, 1) := by decide +kernel
theorem dX11_wakes_97 : decode MX11_wakes.2.1 97 = .ok (.iaload, 1) := by decide +kernel
theorem dX11_wakes_98 : decode MX11_wakes.2.1 98 = .ok (.i2l, 1) := by decide +kernel
theorem dX11_wakes_99 : decode MX11_wakes.2.1 99 = .ok (.invokevirtual 204, 3) := by decide +kernel
theorem dX11_wakes_102 : decode MX11_wakes.2.1 102 = .ok (.iload_n 1, 1) := by decide +kernel
theorem dX11_wakes_103 : decode MX11_wakes.2.1 103 = .ok (.ireturn, 1) := by decide +kernel
theorem dX11_echo_0 : decode MX11_echo.2.1 0 = .ok (.aload_n 0, 1) := by decide +kernel
theorem dX11_echo_1 : decode MX11_echo.2.1 1 = .ok (.getfield 26, 3) := by decide +kernel
theorem dX11_echo_4 : decode MX11_echo.2.1 4 = .ok (.iload_n 1, 1) := by decide +kernel
theorem dX11_echo_5 : decode MX11_echo.2.1 5 = .ok (.invokevirtual 148, 3) := by decide +kernel
theorem dX11_echo_8 : decode MX11_echo.2.1 8 = .ok (.ifCond .ne 5, 3) := by decide +kernel
theorem dX11_echo_11 : decode MX11_echo.2.1 11 = .ok (.iconst (-1), 1) := by decide +kernel
theorem dX11_echo_12 : decode MX11_echo.2.1 12 = .ok (.ireturn, 1) := by decide +kernel
theorem dX11_echo_13 : decode MX11_echo.2.1 13 = .ok (.iconst 0, 1) := by decide +kernel
theorem dX11_echo_14 : decode MX11_echo.2.1 14 = .ok (.istore_n 2, 1) := by decide +kernel
theorem dX11_echo_15 : decode MX11_echo.2.1 15 = .ok (.iconst 0, 1) := by decide +kernel
theorem dX11_echo_16 : decode MX11_echo.2.1 16 = .ok (.istore_n 3, 1) := by decide +kernel
theorem dX11_echo_17 : decode MX11_echo.2.1 17 = .ok (.iload_n 3, 1) := by decide +kernel
theorem dX11_echo_18 : decode MX11_echo.2.1 18 = .ok (.aload_n 0, 1) := by decide +kernel
theorem dX11_echo_19 : decode MX11_echo.2.1 19 = .ok (.getfield 26, 3) := by decide +kernel
theorem dX11_echo_22 : decode MX11_echo.2.1 22 = .ok (.getfield 110, 3) := by decide +kernel
theorem dX11_echo_25 : decode MX11_echo.2.1 25 = .ok (.if_icmp .ge 31, 3) := by decide +kernel
theorem dX11_echo_28 : decode MX11_echo.2.1 28 = .ok (.iload_n 1, 1) := by decide +kernel
theorem dX11_echo_29 : decode MX11_echo.2.1 29 = .ok (.aload_n 0, 1) := by decide +kernel
theorem dX11_echo_30 : decode MX11_echo.2.1 30 = .ok (.getfield 26, 3) := by decide +kernel
theorem dX11_echo_33 : decode MX11_echo.2.1 33 = .ok (.getfield 163, 3) := by decide +kernel
theorem dX11_echo_36 : decode MX11_echo.2.1 36 = .ok (.iload_n 3, 1) := by decide +kernel
theorem dX11_echo_37 : decode MX11_echo.2.1 37 = .ok (.iaload, 1) := by decide +kernel
theorem dX11_echo_38 : decode MX11_echo.2.1 38 = .ok (.invokestatic 274, 3) := by decide +kernel
theorem dX11_echo_41 : decode MX11_echo.2.1 41 = .ok (.ifCond .eq 9, 3) := by decide +kernel
theorem dX11_echo_44 : decode MX11_echo.2.1 44 = .ok (.iload_n 2, 1) := by decide +kernel
theorem dX11_echo_45 : decode MX11_echo.2.1 45 = .ok (.iconst 1, 1) := by decide +kernel
theorem dX11_echo_46 : decode MX11_echo.2.1 46 = .ok (.iload_n 3, 1) := by decide +kernel
theorem dX11_echo_47 : decode MX11_echo.2.1 47 = .ok (.ishl, 1) := by decide +kernel
theorem dX11_echo_48 : decode MX11_echo.2.1 48 = .ok (.ior, 1) := by decide +kernel
theorem dX11_echo_49 : decode MX11_echo.2.1 49 = .ok (.istore_n 2, 1) := by decide +kernel
theorem dX11_echo_50 : decode MX11_echo.2.1 50 = .ok (.iinc 3 1, 3) := by decide +kernel
theorem dX11_echo_53 : decode MX11_echo.2.1 53 = .ok (.goto (-36), 3) := by decide +kernel
theorem dX11_echo_56 : decode MX11_echo.2.1 56 = .ok (.aload_n 0, 1) := by decide +kernel
theorem dX11_echo_57 : decode MX11_echo.2.1 57 = .ok (.getfield 19, 3) := by decide +kernel
theorem dX11_echo_60 : decode MX11_echo.2.1 60 = .ok (.iload_n 2, 1) := by decide +kernel
theorem dX11_echo_61 : decode MX11_echo.2.1 61 = .ok (.invokestatic 292, 3) := by decide +kernel
theorem dX11_echo_64 : decode MX11_echo.2.1 64 = .ok (.i2l, 1) := by decide +kernel
theorem dX11_echo_65 : decode MX11_echo.2.1 65 = .ok (.aload_n 0, 1) := by decide +kernel
theorem dX11_echo_66 : decode MX11_echo.2.1 66 = .ok (.getfield 26, 3) := by decide +kernel
theorem dX11_echo_69 : decode MX11_echo.2.1 69 = .ok (.getfield 163, 3) := by decide +kernel
theorem dX11_echo_72 : decode MX11_echo.2.1 72 = .ok (.iload_n 1, 1) := by decide +kernel
theorem dX11_echo_73 : decode MX11_echo.2.1 73 = .ok (.iaload, 1) := by decide +kernel
theorem dX11_echo_74 : decode MX11_echo.2.1 74 = .ok (.iload_n 2, 1) := by decide +kernel
theorem dX11_echo_75 : decode MX11_echo.2.1 75 = .ok (.iand, 1) := by decide +kernel
theorem dX11_echo_76 : decode MX11_echo.2.1 76 = .ok (.i2l, 1) := by decide +kernel
theorem dX11_echo_77 : decode MX11_echo.2.1 77 = .ok (.invokevirtual 204, 3) := by decide +kernel
theorem dX11_echo_80 : decode MX11_echo.2.1 80 = .ok (.iload_n 2, 1) := by decide +kernel
theorem dX11_echo_81 : decode MX11_echo.2.1 81 = .ok (.ireturn, 1) := by decide +kernel
theorem dX11_owes_0 : decode MX11_owes.2.1 0 = .ok (.aload_n 0, 1) := by decide +kernel
theorem dX11_owes_1 : decode MX11_owes.2.1 1 = .ok (.getfield 26, 3) := by decide +kernel
theorem dX11_owes_4 : decode MX11_owes.2.1 4 = .ok (.iload_n 1, 1) := by decide +kernel
theorem dX11_owes_5 : decode MX11_owes.2.1 5 = .ok (.iload_n 2, 1) := by decide +kernel
theorem dX11_owes_6 : decode MX11_owes.2.1 6 = .ok (.invokevirtual 172, 3) := by decide +kernel
theorem dX11_owes_9 : decode MX11_owes.2.1 9 = .ok (.ifCond .eq 10, 3) := by decide +kernel
theorem dX11_owes_12 : decode MX11_owes.2.1 12 = .ok (.iload_n 3, 1) := by decide +kernel
theorem dX11_owes_13 : decode MX11_owes.2.1 13 = .ok (.invokestatic 253, 3) := by decide +kernel
theorem dX11_owes_16 : decode MX11_owes.2.1 16 = .ok (.ifCond .ne 5, 3) := by decide +kernel
theorem dX11_owes_19 : decode MX11_owes.2.1 19 = .ok (.iconst (-1), 1) := by decide +kernel
theorem dX11_owes_20 : decode MX11_owes.2.1 20 = .ok (.ireturn, 1) := by decide +kernel
theorem dX11_owes_21 : decode MX11_owes.2.1 21 = .ok (.aload_n 0, 1) := by decide +kernel
theorem dX11_owes_22 : decode MX11_owes.2.1 22 = .ok (.getfield 30, 3) := by decide +kernel
theorem dX11_owes_25 : decode MX11_owes.2.1 25 = .ok (.aload_n 0, 1) := by decide +kernel
theorem dX11_owes_26 : decode MX11_owes.2.1 26 = .ok (.getfield 26, 3) := by decide +kernel
theorem dX11_owes_29 : decode MX11_owes.2.1 29 = .ok (.invokevirtual 250, 3) := by decide +kernel
theorem dX11_owes_32 : decode MX11_owes.2.1 32 = .ok (.aload_n 0, 1) := by decide +kernel
theorem dX11_owes_33 : decode MX11_owes.2.1 33 = .ok (.aload_n 0, 1) := by decide +kernel
theorem dX11_owes_34 : decode MX11_owes.2.1 34 = .ok (.getfield 30, 3) := by decide +kernel
theorem dX11_owes_37 : decode MX11_owes.2.1 37 = .ok (.getfield 180, 3) := by decide +kernel
theorem dX11_owes_40 : decode MX11_owes.2.1 40 = .ok (.iload_n 1, 1) := by decide +kernel
theorem dX11_owes_41 : decode MX11_owes.2.1 41 = .ok (.iload_n 2, 1) := by decide +kernel
theorem dX11_owes_42 : decode MX11_owes.2.1 42 = .ok (.invokestatic 137, 3) := by decide +kernel
theorem dX11_owes_45 : decode MX11_owes.2.1 45 = .ok (.iload_n 3, 1) := by decide +kernel
theorem dX11_owes_46 : decode MX11_owes.2.1 46 = .ok (.invokevirtual 280, 3) := by decide +kernel
theorem dX11_owes_49 : decode MX11_owes.2.1 49 = .ok (.ireturn, 1) := by decide +kernel
theorem dX11_settles_0 : decode MX11_settles.2.1 0 = .ok (.aload_n 0, 1) := by decide +kernel
theorem dX11_settles_1 : decode MX11_settles.2.1 1 = .ok (.getfield 19, 3) := by decide +kernel
theorem dX11_settles_4 : decode MX11_settles.2.1 4 = .ok (.invokevirtual 243, 3) := by decide +kernel
theorem dX11_settles_7 : decode MX11_settles.2.1 7 = .ok (.iconst 0, 1) := by decide +kernel
theorem dX11_settles_8 : decode MX11_settles.2.1 8 = .ok (.istore_n 1, 1) := by decide +kernel
theorem dX11_settles_9 : decode MX11_settles.2.1 9 = .ok (.iload_n 1, 1) := by decide +kernel
theorem dX11_settles_10 : decode MX11_settles.2.1 10 = .ok (.aload_n 0, 1) := by decide +kernel
theorem dX11_settles_11 : decode MX11_settles.2.1 11 = .ok (.getfield 26, 3) := by decide +kernel
theorem dX11_settles_14 : decode MX11_settles.2.1 14 = .ok (.getfield 110, 3) := by decide +kernel
theorem dX11_settles_17 : decode MX11_settles.2.1 17 = .ok (.if_icmp .ge 29, 3) := by decide +kernel
theorem dX11_settles_20 : decode MX11_settles.2.1 20 = .ok (.aload_n 0, 1) := by decide +kernel
theorem dX11_settles_21 : decode MX11_settles.2.1 21 = .ok (.getfield 19, 3) := by decide +kernel
theorem dX11_settles_24 : decode MX11_settles.2.1 24 = .ok (.sipush 1000, 3) := by decide +kernel
theorem dX11_settles_27 : decode MX11_settles.2.1 27 = .ok (.aload_n 0, 1) := by decide +kernel
theorem dX11_settles_28 : decode MX11_settles.2.1 28 = .ok (.getfield 26, 3) := by decide +kernel
theorem dX11_settles_31 : decode MX11_settles.2.1 31 = .ok (.iload_n 1, 1) := by decide +kernel
theorem dX11_settles_32 : decode MX11_settles.2.1 32 = .ok (.invokevirtual 297, 3) := by decide +kernel
theorem dX11_settles_35 : decode MX11_settles.2.1 35 = .ok (.iadd, 1) := by decide +kernel
theorem dX11_settles_36 : decode MX11_settles.2.1 36 = .ok (.i2l, 1) := by decide +kernel
theorem dX11_settles_37 : decode MX11_settles.2.1 37 = .ok (.invokevirtual 247, 3) := by decide +kernel
theorem dX11_settles_40 : decode MX11_settles.2.1 40 = .ok (.iinc 1 1, 3) := by decide +kernel
theorem dX11_settles_43 : decode MX11_settles.2.1 43 = .ok (.goto (-34), 3) := by decide +kernel
theorem dX11_settles_46 : decode MX11_settles.2.1 46 = .ok (.aload_n 0, 1) := by decide +kernel
theorem dX11_settles_47 : decode MX11_settles.2.1 47 = .ok (.getfield 26, 3) := by decide +kernel
theorem dX11_settles_50 : decode MX11_settles.2.1 50 = .ok (.getfield 110, 3) := by decide +kernel
theorem dX11_settles_53 : decode MX11_settles.2.1 53 = .ok (.aload_n 0, 1) := by decide +kernel
theorem dX11_settles_54 : decode MX11_settles.2.1 54 = .ok (.getfield 77, 3) := by decide +kernel
theorem dX11_settles_57 : decode MX11_settles.2.1 57 = .ok (.aload_n 0, 1) := by decide +kernel
theorem dX11_settles_58 : decode MX11_settles.2.1 58 = .ok (.getfield 26, 3) := by decide +kernel
theorem dX11_settles_61 : decode MX11_settles.2.1 61 = .ok (.invokevirtual 300, 3) := by decide +kernel
theorem dX11_settles_64 : decode MX11_settles.2.1 64 = .ok (.isub, 1) := by decide +kernel
theorem dX11_settles_65 : decode MX11_settles.2.1 65 = .ok (.ireturn, 1) := by decide +kernel
theorem dX11_groups_0 : decode MX11_groups.2.1 0 = .ok (.aload_n 0, 1) := by decide +kernel
theorem dX11_groups_1 : decode MX11_groups.2.1 1 = .ok (.getfield 77, 3) := by decide +kernel
theorem dX11_groups_4 : decode MX11_groups.2.1 4 = .ok (.aload_n 0, 1) := by decide +kernel
theorem dX11_groups_5 : decode MX11_groups.2.1 5 = .ok (.getfield 26, 3) := by decide +kernel
theorem dX11_groups_8 : decode MX11_groups.2.1 8 = .ok (.invokevirtual 300, 3) := by decide +kernel
theorem dX11_groups_11 : decode MX11_groups.2.1 11 = .ok (.istore_n 1, 1) := by decide +kernel
theorem dX11_groups_12 : decode MX11_groups.2.1 12 = .ok (.aload_n 0, 1) := by decide +kernel
theorem dX11_groups_13 : decode MX11_groups.2.1 13 = .ok (.getfield 19, 3) := by decide +kernel
theorem dX11_groups_16 : decode MX11_groups.2.1 16 = .ok (.invokevirtual 243, 3) := by decide +kernel
theorem dX11_groups_19 : decode MX11_groups.2.1 19 = .ok (.aload_n 0, 1) := by decide +kernel
theorem dX11_groups_20 : decode MX11_groups.2.1 20 = .ok (.getfield 26, 3) := by decide +kernel
theorem dX11_groups_23 : decode MX11_groups.2.1 23 = .ok (.getfield 110, 3) := by decide +kernel
theorem dX11_groups_26 : decode MX11_groups.2.1 26 = .ok (.ifCond .le 22, 3) := by decide +kernel
theorem dX11_groups_29 : decode MX11_groups.2.1 29 = .ok (.aload_n 0, 1) := by decide +kernel
theorem dX11_groups_30 : decode MX11_groups.2.1 30 = .ok (.getfield 19, 3) := by decide +kernel
theorem dX11_groups_33 : decode MX11_groups.2.1 33 = .ok (.aload_n 0, 1) := by decide +kernel
theorem dX11_groups_34 : decode MX11_groups.2.1 34 = .ok (.getfield 77, 3) := by decide +kernel
theorem dX11_groups_37 : decode MX11_groups.2.1 37 = .ok (.aload_n 0, 1) := by decide +kernel
theorem dX11_groups_38 : decode MX11_groups.2.1 38 = .ok (.getfield 26, 3) := by decide +kernel
theorem dX11_groups_41 : decode MX11_groups.2.1 41 = .ok (.invokevirtual 304, 3) := by decide +kernel
theorem dX11_groups_44 : decode MX11_groups.2.1 44 = .ok (.i2l, 1) := by decide +kernel
theorem dX11_groups_45 : decode MX11_groups.2.1 45 = .ok (.invokevirtual 247, 3) := by decide +kernel
theorem dX11_groups_48 : decode MX11_groups.2.1 48 = .ok (.iload_n 1, 1) := by decide +kernel
theorem dX11_groups_49 : decode MX11_groups.2.1 49 = .ok (.ireturn, 1) := by decide +kernel
theorem dX11_streets_0 : decode MX11_streets.2.1 0 = .ok (.aload_n 0, 1) := by decide +kernel
theorem dX11_streets_1 : decode MX11_streets.2.1 1 = .ok (.getfield 77, 3) := by decide +kernel
theorem dX11_streets_4 : decode MX11_streets.2.1 4 = .ok (.aload_n 0, 1) := by decide +kernel
theorem dX11_streets_5 : decode MX11_streets.2.1 5 = .ok (.getfield 12, 3) := by decide +kernel
theorem dX11_streets_8 : decode MX11_streets.2.1 8 = .ok (.invokevirtual 307, 3) := by decide +kernel
theorem dX11_streets_11 : decode MX11_streets.2.1 11 = .ok (.istore_n 1, 1) := by decide +kernel
theorem dX11_streets_12 : decode MX11_streets.2.1 12 = .ok (.aload_n 0, 1) := by decide +kernel
theorem dX11_streets_13 : decode MX11_streets.2.1 13 = .ok (.getfield 12, 3) := by decide +kernel
theorem dX11_streets_16 : decode MX11_streets.2.1 16 = .ok (.invokevirtual 124, 3) := by decide +kernel
theorem dX11_streets_19 : decode MX11_streets.2.1 19 = .ok (.iload_n 1, 1) := by decide +kernel
theorem dX11_streets_20 : decode MX11_streets.2.1 20 = .ok (.iconst (-1), 1) := by decide +kernel
theorem dX11_streets_21 : decode MX11_streets.2.1 21 = .ok (.if_icmp .eq 7, 3) := by decide +kernel
theorem dX11_streets_24 : decode MX11_streets.2.1 24 = .ok (.iconst (-1), 1) := by decide +kernel
theorem dX11_streets_25 : decode MX11_streets.2.1 25 = .ok (.iload_n 1, 1) := by decide +kernel
theorem dX11_streets_26 : decode MX11_streets.2.1 26 = .ok (.isub, 1) := by decide +kernel
theorem dX11_streets_27 : decode MX11_streets.2.1 27 = .ok (.ireturn, 1) := by decide +kernel
theorem dX11_streets_28 : decode MX11_streets.2.1 28 = .ok (.aload_n 0, 1) := by decide +kernel
theorem dX11_streets_29 : decode MX11_streets.2.1 29 = .ok (.getfield 77, 3) := by decide +kernel
theorem dX11_streets_32 : decode MX11_streets.2.1 32 = .ok (.aload_n 0, 1) := by decide +kernel
theorem dX11_streets_33 : decode MX11_streets.2.1 33 = .ok (.getfield 26, 3) := by decide +kernel
theorem dX11_streets_36 : decode MX11_streets.2.1 36 = .ok (.aload_n 0, 1) := by decide +kernel
theorem dX11_streets_37 : decode MX11_streets.2.1 37 = .ok (.getfield 19, 3) := by decide +kernel
theorem dX11_streets_40 : decode MX11_streets.2.1 40 = .ok (.invokevirtual 310, 3) := by decide +kernel
theorem dX11_streets_43 : decode MX11_streets.2.1 43 = .ok (.ireturn, 1) := by decide +kernel
theorem dX11_heard_0 : decode MX11_heard.2.1 0 = .ok (.aload_n 0, 1) := by decide +kernel
theorem dX11_heard_1 : decode MX11_heard.2.1 1 = .ok (.getfield 56, 3) := by decide +kernel
theorem dX11_heard_4 : decode MX11_heard.2.1 4 = .ok (.iload_n 1, 1) := by decide +kernel
theorem dX11_heard_5 : decode MX11_heard.2.1 5 = .ok (.iload_n 2, 1) := by decide +kernel
theorem dX11_heard_6 : decode MX11_heard.2.1 6 = .ok (.invokevirtual 314, 3) := by decide +kernel
theorem dX11_heard_9 : decode MX11_heard.2.1 9 = .ok (.ireturn, 1) := by decide +kernel
theorem dX11_forget_0 : decode MX11_forget.2.1 0 = .ok (.aload_n 0, 1) := by decide +kernel
theorem dX11_forget_1 : decode MX11_forget.2.1 1 = .ok (.getfield 56, 3) := by decide +kernel
theorem dX11_forget_4 : decode MX11_forget.2.1 4 = .ok (.invokevirtual 316, 3) := by decide +kernel
theorem dX11_forget_7 : decode MX11_forget.2.1 7 = .ok (.ireturn, 1) := by decide +kernel
theorem dX11_fits_0 : decode MX11_fits.2.1 0 = .ok (.aload_n 0, 1) := by decide +kernel
theorem dX11_fits_1 : decode MX11_fits.2.1 1 = .ok (.getfield 56, 3) := by decide +kernel
theorem dX11_fits_4 : decode MX11_fits.2.1 4 = .ok (.aload_n 0, 1) := by decide +kernel
theorem dX11_fits_5 : decode MX11_fits.2.1 5 = .ok (.getfield 26, 3) := by decide +kernel
theorem dX11_fits_8 : decode MX11_fits.2.1 8 = .ok (.aload_n 0, 1) := by decide +kernel
theorem dX11_fits_9 : decode MX11_fits.2.1 9 = .ok (.getfield 91, 3) := by decide +kernel
theorem dX11_fits_12 : decode MX11_fits.2.1 12 = .ok (.invokevirtual 318, 3) := by decide +kernel
theorem dX11_fits_15 : decode MX11_fits.2.1 15 = .ok (.istore_n 1, 1) := by decide +kernel
theorem dX11_fits_16 : decode MX11_fits.2.1 16 = .ok (.aload_n 0, 1) := by decide +kernel
theorem dX11_fits_17 : decode MX11_fits.2.1 17 = .ok (.getfield 19, 3) := by decide +kernel
theorem dX11_fits_20 : decode MX11_fits.2.1 20 = .ok (.iload_n 1, 1) := by decide +kernel
theorem dX11_fits_21 : decode MX11_fits.2.1 21 = .ok (.invokestatic 292, 3) := by decide +kernel
theorem dX11_fits_24 : decode MX11_fits.2.1 24 = .ok (.i2l, 1) := by decide +kernel
theorem dX11_fits_25 : decode MX11_fits.2.1 25 = .ok (.invokevirtual 272, 3) := by decide +kernel
theorem dX11_fits_28 : decode MX11_fits.2.1 28 = .ok (.iload_n 1, 1) := by decide +kernel
theorem dX11_fits_29 : decode MX11_fits.2.1 29 = .ok (.ireturn, 1) := by decide +kernel
theorem dX11_asks_0 : decode MX11_asks.2.1 0 = .ok (.aload_n 0, 1) := by decide +kernel
theorem dX11_asks_1 : decode MX11_asks.2.1 1 = .ok (.getfield 56, 3) := by decide +kernel
theorem dX11_asks_4 : decode MX11_asks.2.1 4 = .ok (.aload_n 0, 1) := by decide +kernel
theorem dX11_asks_5 : decode MX11_asks.2.1 5 = .ok (.getfield 26, 3) := by decide +kernel
theorem dX11_asks_8 : decode MX11_asks.2.1 8 = .ok (.aload_n 0, 1) := by decide +kernel
theorem dX11_asks_9 : decode MX11_asks.2.1 9 = .ok (.getfield 91, 3) := by decide +kernel
theorem dX11_asks_12 : decode MX11_asks.2.1 12 = .ok (.invokevirtual 318, 3) := by decide +kernel
theorem dX11_asks_15 : decode MX11_asks.2.1 15 = .ok (.istore_n 1, 1) := by decide +kernel
theorem dX11_asks_16 : decode MX11_asks.2.1 16 = .ok (.iload_n 1, 1) := by decide +kernel
theorem dX11_asks_17 : decode MX11_asks.2.1 17 = .ok (.ifCond .ne 6, 3) := by decide +kernel
theorem dX11_asks_20 : decode MX11_asks.2.1 20 = .ok (.bipush (-2), 2) := by decide +kernel
theorem dX11_asks_22 : decode MX11_asks.2.1 22 = .ok (.ireturn, 1) := by decide +kernel
theorem dX11_asks_23 : decode MX11_asks.2.1 23 = .ok (.iload_n 1, 1) := by decide +kernel
theorem dX11_asks_24 : decode MX11_asks.2.1 24 = .ok (.invokestatic 292, 3) := by decide +kernel
theorem dX11_asks_27 : decode MX11_asks.2.1 27 = .ok (.istore_n 2, 1) := by decide +kernel
theorem dX11_asks_28 : decode MX11_asks.2.1 28 = .ok (.iconst 0, 1) := by decide +kernel
theorem dX11_asks_29 : decode MX11_asks.2.1 29 = .ok (.istore_n 3, 1) := by decide +kernel
theorem dX11_asks_30 : decode MX11_asks.2.1 30 = .ok (.iload_n 2, 1) := by decide +kernel
theorem dX11_asks_31 : decode MX11_asks.2.1 31 = .ok (.istore 4, 2) := by decide +kernel
theorem dX11_asks_33 : decode MX11_asks.2.1 33 = .ok (.iconst 1, 1) := by decide +kernel
theorem dX11_asks_34 : decode MX11_asks.2.1 34 = .ok (.istore 5, 2) := by decide +kernel
theorem dX11_asks_36 : decode MX11_asks.2.1 36 = .ok (.iload 5, 2) := by decide +kernel
theorem dX11_asks_38 : decode MX11_asks.2.1 38 = .ok (.bipush 99, 2) := by decide +kernel
theorem dX11_asks_40 : decode MX11_asks.2.1 40 = .ok (.if_icmp .gt 46, 3) := by decide +kernel
theorem dX11_asks_43 : decode MX11_asks.2.1 43 = .ok (.aload_n 0, 1) := by decide +kernel
theorem dX11_asks_44 : decode MX11_asks.2.1 44 = .ok (.getfield 26, 3) := by decide +kernel
theorem dX11_asks_47 : decode MX11_asks.2.1 47 = .ok (.iload_n 1, 1) := by decide +kernel
theorem dX11_asks_48 : decode MX11_asks.2.1 48 = .ok (.iload 5, 2) := by decide +kernel
theorem dX11_asks_50 : decode MX11_asks.2.1 50 = .ok (.invokevirtual 322, 3) := by decide +kernel
theorem dX11_asks_53 : decode MX11_asks.2.1 53 = .ok (.istore 6, 2) := by decide +kernel
theorem dX11_asks_55 : decode MX11_asks.2.1 55 = .ok (.iload 6, 2) := by decide +kernel
theorem dX11_asks_57 : decode MX11_asks.2.1 57 = .ok (.iload_n 2, 1) := by decide +kernel
theorem dX11_asks_58 : decode MX11_asks.2.1 58 = .ok (.iload 6, 2) := by decide +kernel
theorem dX11_asks_60 : decode MX11_asks.2.1 60 = .ok (.isub, 1) := by decide +kernel
theorem dX11_asks_61 : decode MX11_asks.2.1 61 = .ok (.invokestatic 325, 3) := by decide +kernel
theorem dX11_asks_64 : decode MX11_asks.2.1 64 = .ok (.istore 7, 2) := by decide +kernel
theorem dX11_asks_66 : decode MX11_asks.2.1 66 = .ok (.iload 7, 2) := by decide +kernel
theorem dX11_asks_68 : decode MX11_asks.2.1 68 = .ok (.iload 4, 2) := by decide +kernel
theorem dX11_asks_70 : decode MX11_asks.2.1 70 = .ok (.if_icmp .ge 10, 3) := by decide +kernel
theorem dX11_asks_73 : decode MX11_asks.2.1 73 = .ok (.iload 5, 2) := by decide +kernel
theorem dX11_asks_75 : decode MX11_asks.2.1 75 = .ok (.istore_n 3, 1) := by decide +kernel
theorem dX11_asks_76 : decode MX11_asks.2.1 76 = .ok (.iload 7, 2) := by decide +kernel
theorem dX11_asks_78 : decode MX11_asks.2.1 78 = .ok (.istore 4, 2) := by decide +kernel
theorem dX11_asks_80 : decode MX11_asks.2.1 80 = .ok (.iinc 5 1, 3) := by decide +kernel
theorem dX11_asks_83 : decode MX11_asks.2.1 83 = .ok (.goto (-47), 3) := by decide +kernel
theorem dX11_asks_86 : decode MX11_asks.2.1 86 = .ok (.aload_n 0, 1) := by decide +kernel
theorem dX11_asks_87 : decode MX11_asks.2.1 87 = .ok (.getfield 19, 3) := by decide +kernel
theorem dX11_asks_90 : decode MX11_asks.2.1 90 = .ok (.iload 4, 2) := by decide +kernel
theorem dX11_asks_92 : decode MX11_asks.2.1 92 = .ok (.i2l, 1) := by decide +kernel
theorem dX11_asks_93 : decode MX11_asks.2.1 93 = .ok (.invokevirtual 272, 3) := by decide +kernel
theorem dX11_asks_96 : decode MX11_asks.2.1 96 = .ok (.iload_n 3, 1) := by decide +kernel
theorem dX11_asks_97 : decode MX11_asks.2.1 97 = .ok (.ireturn, 1) := by decide +kernel
theorem dX11_listens_0 : decode MX11_listens.2.1 0 = .ok (.aload_n 0, 1) := by decide +kernel
theorem dX11_listens_1 : decode MX11_listens.2.1 1 = .ok (.getfield 63, 3) := by decide +kernel
theorem dX11_listens_4 : decode MX11_listens.2.1 4 = .ok (.iload_n 1, 1) := by decide +kernel
theorem dX11_listens_5 : decode MX11_listens.2.1 5 = .ok (.iload_n 2, 1) := by decide +kernel
theorem dX11_listens_6 : decode MX11_listens.2.1 6 = .ok (.iload_n 3, 1) := by decide +kernel
theorem dX11_listens_7 : decode MX11_listens.2.1 7 = .ok (.invokevirtual 328, 3) := by decide +kernel
theorem dX11_listens_10 : decode MX11_listens.2.1 10 = .ok (.ireturn, 1) := by decide +kernel
theorem dX11_doubts_0 : decode MX11_doubts.2.1 0 = .ok (.aload_n 0, 1) := by decide +kernel
theorem dX11_doubts_1 : decode MX11_doubts.2.1 1 = .ok (.getfield 63, 3) := by decide +kernel
theorem dX11_doubts_4 : decode MX11_doubts.2.1 4 = .ok (.invokevirtual 330, 3) := by decide +kernel
theorem dX11_doubts_7 : decode MX11_doubts.2.1 7 = .ok (.ireturn, 1) := by decide +kernel
theorem dX11_laws_0 : decode MX11_laws.2.1 0 = .ok (.aload_n 0, 1) := by decide +kernel
theorem dX11_laws_1 : decode MX11_laws.2.1 1 = .ok (.getfield 63, 3) := by decide +kernel
theorem dX11_laws_4 : decode MX11_laws.2.1 4 = .ok (.iconst 0, 1) := by decide +kernel
theorem dX11_laws_5 : decode MX11_laws.2.1 5 = .ok (.invokevirtual 331, 3) := by decide +kernel
theorem dX11_laws_8 : decode MX11_laws.2.1 8 = .ok (.aload_n 0, 1) := by decide +kernel
theorem dX11_laws_9 : decode MX11_laws.2.1 9 = .ok (.getfield 63, 3) := by decide +kernel
theorem dX11_laws_12 : decode MX11_laws.2.1 12 = .ok (.iconst 1, 1) := by decide +kernel
theorem dX11_laws_13 : decode MX11_laws.2.1 13 = .ok (.invokevirtual 331, 3) := by decide +kernel
theorem dX11_laws_16 : decode MX11_laws.2.1 16 = .ok (.imul, 1) := by decide +kernel
theorem dX11_laws_17 : decode MX11_laws.2.1 17 = .ok (.istore_n 1, 1) := by decide +kernel
theorem dX11_laws_18 : decode MX11_laws.2.1 18 = .ok (.aload_n 0, 1) := by decide +kernel
theorem dX11_laws_19 : decode MX11_laws.2.1 19 = .ok (.getfield 19, 3) := by decide +kernel
theorem dX11_laws_22 : decode MX11_laws.2.1 22 = .ok (.invokevirtual 243, 3) := by decide +kernel
theorem dX11_laws_25 : decode MX11_laws.2.1 25 = .ok (.iload_n 1, 1) := by decide +kernel
theorem dX11_laws_26 : decode MX11_laws.2.1 26 = .ok (.ifCond .le 28, 3) := by decide +kernel
theorem dX11_laws_29 : decode MX11_laws.2.1 29 = .ok (.aload_n 0, 1) := by decide +kernel
theorem dX11_laws_30 : decode MX11_laws.2.1 30 = .ok (.getfield 19, 3) := by decide +kernel
theorem dX11_laws_33 : decode MX11_laws.2.1 33 = .ok (.aload_n 0, 1) := by decide +kernel
theorem dX11_laws_34 : decode MX11_laws.2.1 34 = .ok (.getfield 63, 3) := by decide +kernel
theorem dX11_laws_37 : decode MX11_laws.2.1 37 = .ok (.iconst 0, 1) := by decide +kernel
theorem dX11_laws_38 : decode MX11_laws.2.1 38 = .ok (.invokevirtual 333, 3) := by decide +kernel
theorem dX11_laws_41 : decode MX11_laws.2.1 41 = .ok (.i2l, 1) := by decide +kernel
theorem dX11_laws_42 : decode MX11_laws.2.1 42 = .ok (.aload_n 0, 1) := by decide +kernel
theorem dX11_laws_43 : decode MX11_laws.2.1 43 = .ok (.getfield 63, 3) := by decide +kernel
theorem dX11_laws_46 : decode MX11_laws.2.1 46 = .ok (.iconst 1, 1) := by decide +kernel
theorem dX11_laws_47 : decode MX11_laws.2.1 47 = .ok (.invokevirtual 333, 3) := by decide +kernel
theorem dX11_laws_50 : decode MX11_laws.2.1 50 = .ok (.i2l, 1) := by decide +kernel
theorem dX11_laws_51 : decode MX11_laws.2.1 51 = .ok (.invokevirtual 204, 3) := by decide +kernel
theorem dX11_laws_54 : decode MX11_laws.2.1 54 = .ok (.iload_n 1, 1) := by decide +kernel
theorem dX11_laws_55 : decode MX11_laws.2.1 55 = .ok (.ireturn, 1) := by decide +kernel
theorem dX11_tries_0 : decode MX11_tries.2.1 0 = .ok (.aload_n 0, 1) := by decide +kernel
theorem dX11_tries_1 : decode MX11_tries.2.1 1 = .ok (.getfield 63, 3) := by decide +kernel
theorem dX11_tries_4 : decode MX11_tries.2.1 4 = .ok (.iconst 0, 1) := by decide +kernel
theorem dX11_tries_5 : decode MX11_tries.2.1 5 = .ok (.invokevirtual 331, 3) := by decide +kernel
theorem dX11_tries_8 : decode MX11_tries.2.1 8 = .ok (.istore_n 1, 1) := by decide +kernel
theorem dX11_tries_9 : decode MX11_tries.2.1 9 = .ok (.aload_n 0, 1) := by decide +kernel
theorem dX11_tries_10 : decode MX11_tries.2.1 10 = .ok (.getfield 63, 3) := by decide +kernel
theorem dX11_tries_13 : decode MX11_tries.2.1 13 = .ok (.iconst 1, 1) := by decide +kernel
theorem dX11_tries_14 : decode MX11_tries.2.1 14 = .ok (.invokevirtual 331, 3) := by decide +kernel
theorem dX11_tries_17 : decode MX11_tries.2.1 17 = .ok (.istore_n 2, 1) := by decide +kernel
theorem dX11_tries_18 : decode MX11_tries.2.1 18 = .ok (.iload_n 1, 1) := by decide +kernel
theorem dX11_tries_19 : decode MX11_tries.2.1 19 = .ok (.iload_n 2, 1) := by decide +kernel
theorem dX11_tries_20 : decode MX11_tries.2.1 20 = .ok (.imul, 1) := by decide +kernel
theorem dX11_tries_21 : decode MX11_tries.2.1 21 = .ok (.ifCond .ne 6, 3) := by decide +kernel
theorem dX11_tries_24 : decode MX11_tries.2.1 24 = .ok (.bipush (-2), 2) := by decide +kernel
theorem dX11_tries_26 : decode MX11_tries.2.1 26 = .ok (.ireturn, 1) := by decide +kernel
theorem dX11_tries_27 : decode MX11_tries.2.1 27 = .ok (.iconst 0, 1) := by decide +kernel
theorem dX11_tries_28 : decode MX11_tries.2.1 28 = .ok (.istore_n 3, 1) := by decide +kernel
theorem dX11_tries_29 : decode MX11_tries.2.1 29 = .ok (.iload_n 1, 1) := by decide +kernel
theorem dX11_tries_30 : decode MX11_tries.2.1 30 = .ok (.iload_n 2, 1) := by decide +kernel
theorem dX11_tries_31 : decode MX11_tries.2.1 31 = .ok (.imul, 1) := by decide +kernel
theorem dX11_tries_32 : decode MX11_tries.2.1 32 = .ok (.istore 4, 2) := by decide +kernel
theorem dX11_tries_34 : decode MX11_tries.2.1 34 = .ok (.iconst 0, 1) := by decide +kernel
theorem dX11_tries_35 : decode MX11_tries.2.1 35 = .ok (.istore 5, 2) := by decide +kernel
theorem dX11_tries_37 : decode MX11_tries.2.1 37 = .ok (.iload 5, 2) := by decide +kernel
theorem dX11_tries_39 : decode MX11_tries.2.1 39 = .ok (.bipush 20, 2) := by decide +kernel
theorem dX11_tries_41 : decode MX11_tries.2.1 41 = .ok (.if_icmp .ge 62, 3) := by decide +kernel
theorem dX11_tries_44 : decode MX11_tries.2.1 44 = .ok (.iload 5, 2) := by decide +kernel
theorem dX11_tries_46 : decode MX11_tries.2.1 46 = .ok (.bipush 10, 2) := by decide +kernel
theorem dX11_tries_48 : decode MX11_tries.2.1 48 = .ok (.if_icmp .ge 18, 3) := by decide +kernel
theorem dX11_tries_51 : decode MX11_tries.2.1 51 = .ok (.aload_n 0, 1) := by decide +kernel
theorem dX11_tries_52 : decode MX11_tries.2.1 52 = .ok (.getfield 63, 3) := by decide +kernel
theorem dX11_tries_55 : decode MX11_tries.2.1 55 = .ok (.iconst 0, 1) := by decide +kernel
theorem dX11_tries_56 : decode MX11_tries.2.1 56 = .ok (.iload 5, 2) := by decide +kernel
theorem dX11_tries_58 : decode MX11_tries.2.1 58 = .ok (.invokevirtual 336, 3) := by decide +kernel
theorem dX11_tries_61 : decode MX11_tries.2.1 61 = .ok (.iload_n 2, 1) := by decide +kernel
theorem dX11_tries_62 : decode MX11_tries.2.1 62 = .ok (.imul, 1) := by decide +kernel
theorem dX11_tries_63 : decode MX11_tries.2.1 63 = .ok (.goto 18, 3) := by decide +kernel
theorem dX11_tries_66 : decode MX11_tries.2.1 66 = .ok (.aload_n 0, 1) := by decide +kernel
theorem dX11_tries_67 : decode MX11_tries.2.1 67 = .ok (.getfield 63, 3) := by decide +kernel
theorem dX11_tries_70 : decode MX11_tries.2.1 70 = .ok (.iconst 1, 1) := by decide +kernel
theorem dX11_tries_71 : decode MX11_tries.2.1 71 = .ok (.iload 5, 2) := by decide +kernel
theorem dX11_tries_73 : decode MX11_tries.2.1 73 = .ok (.bipush 10, 2) := by decide +kernel
theorem dX11_tries_75 : decode MX11_tries.2.1 75 = .ok (.isub, 1) := by decide +kernel
theorem dX11_tries_76 : decode MX11_tries.2.1 76 = .ok (.invokevirtual 336, 3) := by decide +kernel
theorem dX11_tries_79 : decode MX11_tries.2.1 79 = .ok (.iload_n 1, 1) := by decide +kernel
theorem dX11_tries_80 : decode MX11_tries.2.1 80 = .ok (.imul, 1) := by decide +kernel
theorem dX11_tries_81 : decode MX11_tries.2.1 81 = .ok (.istore 6, 2) := by decide +kernel
theorem dX11_tries_83 : decode MX11_tries.2.1 83 = .ok (.iload 6, 2) := by decide +kernel
theorem dX11_tries_85 : decode MX11_tries.2.1 85 = .ok (.iload 4, 2) := by decide +kernel
theorem dX11_tries_87 : decode MX11_tries.2.1 87 = .ok (.if_icmp .ge 10, 3) := by decide +kernel
theorem dX11_tries_90 : decode MX11_tries.2.1 90 = .ok (.iload 5, 2) := by decide +kernel
theorem dX11_tries_92 : decode MX11_tries.2.1 92 = .ok (.istore_n 3, 1) := by decide +kernel
theorem dX11_tries_93 : decode MX11_tries.2.1 93 = .ok (.iload 6, 2) := by decide +kernel
theorem dX11_tries_95 : decode MX11_tries.2.1 95 = .ok (.istore 4, 2) := by decide +kernel
theorem dX11_tries_97 : decode MX11_tries.2.1 97 = .ok (.iinc 5 1, 3) := by decide +kernel
theorem dX11_tries_100 : decode MX11_tries.2.1 100 = .ok (.goto (-63), 3) := by decide +kernel
theorem dX11_tries_103 : decode MX11_tries.2.1 103 = .ok (.aload_n 0, 1) := by decide +kernel
theorem dX11_tries_104 : decode MX11_tries.2.1 104 = .ok (.getfield 19, 3) := by decide +kernel
theorem dX11_tries_107 : decode MX11_tries.2.1 107 = .ok (.iload 4, 2) := by decide +kernel
theorem dX11_tries_109 : decode MX11_tries.2.1 109 = .ok (.i2l, 1) := by decide +kernel
theorem dX11_tries_110 : decode MX11_tries.2.1 110 = .ok (.invokevirtual 272, 3) := by decide +kernel
theorem dX11_tries_113 : decode MX11_tries.2.1 113 = .ok (.iload_n 3, 1) := by decide +kernel
theorem dX11_tries_114 : decode MX11_tries.2.1 114 = .ok (.ireturn, 1) := by decide +kernel
theorem dX11_bank_0 : decode MX11_bank.2.1 0 = .ok (.iload_n 1, 1) := by decide +kernel
theorem dX11_bank_1 : decode MX11_bank.2.1 1 = .ok (.ifCond .lt 20, 3) := by decide +kernel
theorem dX11_bank_4 : decode MX11_bank.2.1 4 = .ok (.iload_n 1, 1) := by decide +kernel
theorem dX11_bank_5 : decode MX11_bank.2.1 5 = .ok (.bipush 99, 2) := by decide +kernel
theorem dX11_bank_7 : decode MX11_bank.2.1 7 = .ok (.if_icmp .gt 14, 3) := by decide +kernel
theorem dX11_bank_10 : decode MX11_bank.2.1 10 = .ok (.iload_n 2, 1) := by decide +kernel
theorem dX11_bank_11 : decode MX11_bank.2.1 11 = .ok (.iconst 2, 1) := by decide +kernel
theorem dX11_bank_12 : decode MX11_bank.2.1 12 = .ok (.if_icmp .lt 9, 3) := by decide +kernel
theorem dX11_bank_15 : decode MX11_bank.2.1 15 = .ok (.iload_n 2, 1) := by decide +kernel
theorem dX11_bank_16 : decode MX11_bank.2.1 16 = .ok (.bipush 9, 2) := by decide +kernel
theorem dX11_bank_18 : decode MX11_bank.2.1 18 = .ok (.if_icmp .le 5, 3) := by decide +kernel
theorem dX11_bank_21 : decode MX11_bank.2.1 21 = .ok (.iconst (-1), 1) := by decide +kernel
theorem dX11_bank_22 : decode MX11_bank.2.1 22 = .ok (.ireturn, 1) := by decide +kernel
theorem dX11_bank_23 : decode MX11_bank.2.1 23 = .ok (.iload_n 1, 1) := by decide +kernel
theorem dX11_bank_24 : decode MX11_bank.2.1 24 = .ok (.ifCond .ne 6, 3) := by decide +kernel
theorem dX11_bank_27 : decode MX11_bank.2.1 27 = .ok (.bipush (-2), 2) := by decide +kernel
theorem dX11_bank_29 : decode MX11_bank.2.1 29 = .ok (.ireturn, 1) := by decide +kernel
theorem dX11_bank_30 : decode MX11_bank.2.1 30 = .ok (.aload_n 0, 1) := by decide +kernel
theorem dX11_bank_31 : decode MX11_bank.2.1 31 = .ok (.getfield 70, 3) := by decide +kernel
theorem dX11_bank_34 : decode MX11_bank.2.1 34 = .ok (.iload_n 1, 1) := by decide +kernel
theorem dX11_bank_35 : decode MX11_bank.2.1 35 = .ok (.iload_n 2, 1) := by decide +kernel
theorem dX11_bank_36 : decode MX11_bank.2.1 36 = .ok (.invokevirtual 339, 3) := by decide +kernel
theorem dX11_bank_39 : decode MX11_bank.2.1 39 = .ok (.istore_n 3, 1) := by decide +kernel
theorem dX11_bank_40 : decode MX11_bank.2.1 40 = .ok (.aload_n 0, 1) := by decide +kernel
theorem dX11_bank_41 : decode MX11_bank.2.1 41 = .ok (.getfield 19, 3) := by decide +kernel
theorem dX11_bank_44 : decode MX11_bank.2.1 44 = .ok (.invokevirtual 243, 3) := by decide +kernel
theorem dX11_bank_47 : decode MX11_bank.2.1 47 = .ok (.iload_n 3, 1) := by decide +kernel
theorem dX11_bank_48 : decode MX11_bank.2.1 48 = .ok (.ifCond .ne 5, 3) := by decide +kernel
theorem dX11_bank_51 : decode MX11_bank.2.1 51 = .ok (.iconst 0, 1) := by decide +kernel
theorem dX11_bank_52 : decode MX11_bank.2.1 52 = .ok (.ireturn, 1) := by decide +kernel
theorem dX11_bank_53 : decode MX11_bank.2.1 53 = .ok (.aload_n 0, 1) := by decide +kernel
theorem dX11_bank_54 : decode MX11_bank.2.1 54 = .ok (.getfield 19, 3) := by decide +kernel
theorem dX11_bank_57 : decode MX11_bank.2.1 57 = .ok (.iload_n 3, 1) := by decide +kernel
theorem dX11_bank_58 : decode MX11_bank.2.1 58 = .ok (.i2l, 1) := by decide +kernel
theorem dX11_bank_59 : decode MX11_bank.2.1 59 = .ok (.iload_n 3, 1) := by decide +kernel
theorem dX11_bank_60 : decode MX11_bank.2.1 60 = .ok (.iconst 1, 1) := by decide +kernel
theorem dX11_bank_61 : decode MX11_bank.2.1 61 = .ok (.if_icmp .eq 10, 3) := by decide +kernel
theorem dX11_bank_64 : decode MX11_bank.2.1 64 = .ok (.iload_n 3, 1) := by decide +kernel
theorem dX11_bank_65 : decode MX11_bank.2.1 65 = .ok (.iload_n 1, 1) := by decide +kernel
theorem dX11_bank_66 : decode MX11_bank.2.1 66 = .ok (.iconst 2, 1) := by decide +kernel
theorem dX11_bank_67 : decode MX11_bank.2.1 67 = .ok (.idiv, 1) := by decide +kernel
theorem dX11_bank_68 : decode MX11_bank.2.1 68 = .ok (.if_icmp .ne 7, 3) := by decide +kernel
theorem dX11_bank_71 : decode MX11_bank.2.1 71 = .ok (.lconst 0, 1) := by decide +kernel
theorem dX11_bank_72 : decode MX11_bank.2.1 72 = .ok (.goto 4, 3) := by decide +kernel
theorem dX11_bank_75 : decode MX11_bank.2.1 75 = .ok (.lconst 1, 1) := by decide +kernel
theorem dX11_bank_76 : decode MX11_bank.2.1 76 = .ok (.invokevirtual 204, 3) := by decide +kernel
theorem dX11_bank_79 : decode MX11_bank.2.1 79 = .ok (.iconst 1, 1) := by decide +kernel
theorem dX11_bank_80 : decode MX11_bank.2.1 80 = .ok (.ireturn, 1) := by decide +kernel
theorem dX11_quiet_0 : decode MX11_quiet.2.1 0 = .ok (.iload_n 1, 1) := by decide +kernel
theorem dX11_quiet_1 : decode MX11_quiet.2.1 1 = .ok (.ifCond .lt 19, 3) := by decide +kernel
theorem dX11_quiet_4 : decode MX11_quiet.2.1 4 = .ok (.iload_n 1, 1) := by decide +kernel
theorem dX11_quiet_5 : decode MX11_quiet.2.1 5 = .ok (.bipush 6, 2) := by decide +kernel
theorem dX11_quiet_7 : decode MX11_quiet.2.1 7 = .ok (.if_icmp .gt 13, 3) := by decide +kernel
theorem dX11_quiet_10 : decode MX11_quiet.2.1 10 = .ok (.iload_n 2, 1) := by decide +kernel
theorem dX11_quiet_11 : decode MX11_quiet.2.1 11 = .ok (.ifCond .lt 9, 3) := by decide +kernel
theorem dX11_quiet_14 : decode MX11_quiet.2.1 14 = .ok (.iload_n 2, 1) := by decide +kernel
theorem dX11_quiet_15 : decode MX11_quiet.2.1 15 = .ok (.bipush 10, 2) := by decide +kernel
theorem dX11_quiet_17 : decode MX11_quiet.2.1 17 = .ok (.if_icmp .le 5, 3) := by decide +kernel
theorem dX11_quiet_20 : decode MX11_quiet.2.1 20 = .ok (.iconst (-1), 1) := by decide +kernel
theorem dX11_quiet_21 : decode MX11_quiet.2.1 21 = .ok (.ireturn, 1) := by decide +kernel
theorem dX11_quiet_22 : decode MX11_quiet.2.1 22 = .ok (.aload_n 0, 1) := by decide +kernel
theorem dX11_quiet_23 : decode MX11_quiet.2.1 23 = .ok (.getfield 26, 3) := by decide +kernel
theorem dX11_quiet_26 : decode MX11_quiet.2.1 26 = .ok (.aload_n 0, 1) := by decide +kernel
theorem dX11_quiet_27 : decode MX11_quiet.2.1 27 = .ok (.getfield 26, 3) := by decide +kernel
theorem dX11_quiet_30 : decode MX11_quiet.2.1 30 = .ok (.getfield 160, 3) := by decide +kernel
theorem dX11_quiet_33 : decode MX11_quiet.2.1 33 = .ok (.invokevirtual 189, 3) := by decide +kernel
theorem dX11_quiet_36 : decode MX11_quiet.2.1 36 = .ok (.bipush 16, 2) := by decide +kernel
theorem dX11_quiet_38 : decode MX11_quiet.2.1 38 = .ok (.if_icmp .le 6, 3) := by decide +kernel
theorem dX11_quiet_41 : decode MX11_quiet.2.1 41 = .ok (.bipush (-2), 2) := by decide +kernel
theorem dX11_quiet_43 : decode MX11_quiet.2.1 43 = .ok (.ireturn, 1) := by decide +kernel
theorem dX11_quiet_44 : decode MX11_quiet.2.1 44 = .ok (.aload_n 0, 1) := by decide +kernel
theorem dX11_quiet_45 : decode MX11_quiet.2.1 45 = .ok (.getfield 70, 3) := by decide +kernel
theorem dX11_quiet_48 : decode MX11_quiet.2.1 48 = .ok (.aload_n 0, 1) := by decide +kernel
theorem dX11_quiet_49 : decode MX11_quiet.2.1 49 = .ok (.getfield 26, 3) := by decide +kernel
theorem dX11_quiet_52 : decode MX11_quiet.2.1 52 = .ok (.iload_n 1, 1) := by decide +kernel
theorem dX11_quiet_53 : decode MX11_quiet.2.1 53 = .ok (.iload_n 2, 1) := by decide +kernel
theorem dX11_quiet_54 : decode MX11_quiet.2.1 54 = .ok (.aload_n 0, 1) := by decide +kernel
theorem dX11_quiet_55 : decode MX11_quiet.2.1 55 = .ok (.getfield 19, 3) := by decide +kernel
theorem dX11_quiet_58 : decode MX11_quiet.2.1 58 = .ok (.invokevirtual 342, 3) := by decide +kernel
theorem dX11_quiet_61 : decode MX11_quiet.2.1 61 = .ok (.iconst 0, 1) := by decide +kernel
theorem dX11_quiet_62 : decode MX11_quiet.2.1 62 = .ok (.ireturn, 1) := by decide +kernel
theorem dX11_rests_0 : decode MX11_rests.2.1 0 = .ok (.iload_n 1, 1) := by decide +kernel
theorem dX11_rests_1 : decode MX11_rests.2.1 1 = .ok (.ifCond .lt 18, 3) := by decide +kernel
theorem dX11_rests_4 : decode MX11_rests.2.1 4 = .ok (.iload_n 1, 1) := by decide +kernel
theorem dX11_rests_5 : decode MX11_rests.2.1 5 = .ok (.bipush 20, 2) := by decide +kernel
theorem dX11_rests_7 : decode MX11_rests.2.1 7 = .ok (.if_icmp .gt 12, 3) := by decide +kernel
theorem dX11_rests_10 : decode MX11_rests.2.1 10 = .ok (.iload_n 2, 1) := by decide +kernel
theorem dX11_rests_11 : decode MX11_rests.2.1 11 = .ok (.ifCond .lt 8, 3) := by decide +kernel
theorem dX11_rests_14 : decode MX11_rests.2.1 14 = .ok (.iload_n 2, 1) := by decide +kernel
theorem dX11_rests_15 : decode MX11_rests.2.1 15 = .ok (.iconst 5, 1) := by decide +kernel
theorem dX11_rests_16 : decode MX11_rests.2.1 16 = .ok (.if_icmp .le 5, 3) := by decide +kernel
theorem dX11_rests_19 : decode MX11_rests.2.1 19 = .ok (.iconst (-1), 1) := by decide +kernel
theorem dX11_rests_20 : decode MX11_rests.2.1 20 = .ok (.ireturn, 1) := by decide +kernel
theorem dX11_rests_21 : decode MX11_rests.2.1 21 = .ok (.aload_n 0, 1) := by decide +kernel
theorem dX11_rests_22 : decode MX11_rests.2.1 22 = .ok (.getfield 70, 3) := by decide +kernel
theorem dX11_rests_25 : decode MX11_rests.2.1 25 = .ok (.iload_n 1, 1) := by decide +kernel
theorem dX11_rests_26 : decode MX11_rests.2.1 26 = .ok (.iload_n 2, 1) := by decide +kernel
theorem dX11_rests_27 : decode MX11_rests.2.1 27 = .ok (.aload_n 0, 1) := by decide +kernel
theorem dX11_rests_28 : decode MX11_rests.2.1 28 = .ok (.getfield 19, 3) := by decide +kernel
theorem dX11_rests_31 : decode MX11_rests.2.1 31 = .ok (.invokevirtual 346, 3) := by decide +kernel
theorem dX11_rests_34 : decode MX11_rests.2.1 34 = .ok (.ireturn, 1) := by decide +kernel
theorem dX11_law_0 : decode MX11_law.2.1 0 = .ok (.aload_n 0, 1) := by decide +kernel
theorem dX11_law_1 : decode MX11_law.2.1 1 = .ok (.getfield 95, 3) := by decide +kernel
theorem dX11_law_4 : decode MX11_law.2.1 4 = .ok (.aload_n 0, 1) := by decide +kernel
theorem dX11_law_5 : decode MX11_law.2.1 5 = .ok (.getfield 12, 3) := by decide +kernel
theorem dX11_law_8 : decode MX11_law.2.1 8 = .ok (.invokevirtual 144, 3) := by decide +kernel
theorem dX11_law_11 : decode MX11_law.2.1 11 = .ok (.istore_n 1, 1) := by decide +kernel
theorem dX11_law_12 : decode MX11_law.2.1 12 = .ok (.aload_n 0, 1) := by decide +kernel
theorem dX11_law_13 : decode MX11_law.2.1 13 = .ok (.getfield 12, 3) := by decide +kernel
theorem dX11_law_16 : decode MX11_law.2.1 16 = .ok (.invokevirtual 124, 3) := by decide +kernel
theorem dX11_law_19 : decode MX11_law.2.1 19 = .ok (.iload_n 1, 1) := by decide +kernel
theorem dX11_law_20 : decode MX11_law.2.1 20 = .ok (.iconst (-1), 1) := by decide +kernel
theorem dX11_law_21 : decode MX11_law.2.1 21 = .ok (.if_icmp .eq 9, 3) := by decide +kernel
theorem dX11_law_24 : decode MX11_law.2.1 24 = .ok (.ldc_w 350, 3) := by decide +kernel
theorem dX11_law_27 : decode MX11_law.2.1 27 = .ok (.iload_n 1, 1) := by decide +kernel
theorem dX11_law_28 : decode MX11_law.2.1 28 = .ok (.isub, 1) := by decide +kernel
theorem dX11_law_29 : decode MX11_law.2.1 29 = .ok (.ireturn, 1) := by decide +kernel
theorem dX11_law_30 : decode MX11_law.2.1 30 = .ok (.aload_n 0, 1) := by decide +kernel
theorem dX11_law_31 : decode MX11_law.2.1 31 = .ok (.getfield 30, 3) := by decide +kernel
theorem dX11_law_34 : decode MX11_law.2.1 34 = .ok (.aload_n 0, 1) := by decide +kernel
theorem dX11_law_35 : decode MX11_law.2.1 35 = .ok (.getfield 26, 3) := by decide +kernel
theorem dX11_law_38 : decode MX11_law.2.1 38 = .ok (.invokevirtual 250, 3) := by decide +kernel
theorem dX11_law_41 : decode MX11_law.2.1 41 = .ok (.aload_n 0, 1) := by decide +kernel
theorem dX11_law_42 : decode MX11_law.2.1 42 = .ok (.getfield 36, 3) := by decide +kernel
theorem dX11_law_45 : decode MX11_law.2.1 45 = .ok (.aload_n 0, 1) := by decide +kernel
theorem dX11_law_46 : decode MX11_law.2.1 46 = .ok (.getfield 30, 3) := by decide +kernel
theorem dX11_law_49 : decode MX11_law.2.1 49 = .ok (.aload_n 0, 1) := by decide +kernel
theorem dX11_law_50 : decode MX11_law.2.1 50 = .ok (.getfield 95, 3) := by decide +kernel
theorem dX11_law_53 : decode MX11_law.2.1 53 = .ok (.bipush 12, 2) := by decide +kernel
theorem dX11_law_55 : decode MX11_law.2.1 55 = .ok (.invokevirtual 197, 3) := by decide +kernel
theorem dX11_law_58 : decode MX11_law.2.1 58 = .ok (.pop, 1) := by decide +kernel
theorem dX11_law_59 : decode MX11_law.2.1 59 = .ok (.aload_n 0, 1) := by decide +kernel
theorem dX11_law_60 : decode MX11_law.2.1 60 = .ok (.getfield 30, 3) := by decide +kernel
theorem dX11_law_63 : decode MX11_law.2.1 63 = .ok (.aload_n 0, 1) := by decide +kernel
theorem dX11_law_64 : decode MX11_law.2.1 64 = .ok (.getfield 30, 3) := by decide +kernel
theorem dX11_law_67 : decode MX11_law.2.1 67 = .ok (.getfield 154, 3) := by decide +kernel
theorem dX11_law_70 : decode MX11_law.2.1 70 = .ok (.invokevirtual 189, 3) := by decide +kernel
theorem dX11_law_73 : decode MX11_law.2.1 73 = .ok (.istore_n 2, 1) := by decide +kernel
theorem dX11_law_74 : decode MX11_law.2.1 74 = .ok (.aload_n 0, 1) := by decide +kernel
theorem dX11_law_75 : decode MX11_law.2.1 75 = .ok (.bipush 12, 2) := by decide +kernel
theorem dX11_law_77 : decode MX11_law.2.1 77 = .ok (.invokevirtual 256, 3) := by decide +kernel
theorem dX11_law_80 : decode MX11_law.2.1 80 = .ok (.aload_n 0, 1) := by decide +kernel
theorem dX11_law_81 : decode MX11_law.2.1 81 = .ok (.getfield 30, 3) := by decide +kernel
theorem dX11_law_84 : decode MX11_law.2.1 84 = .ok (.aload_n 0, 1) := by decide +kernel
theorem dX11_law_85 : decode MX11_law.2.1 85 = .ok (.getfield 30, 3) := by decide +kernel
theorem dX11_law_88 : decode MX11_law.2.1 88 = .ok (.getfield 154, 3) := by decide +kernel
theorem dX11_law_91 : decode MX11_law.2.1 91 = .ok (.invokevirtual 189, 3) := by decide +kernel
theorem dX11_law_94 : decode MX11_law.2.1 94 = .ok (.istore_n 3, 1) := by decide +kernel
theorem dX11_law_95 : decode MX11_law.2.1 95 = .ok (.aload_n 0, 1) := by decide +kernel
theorem dX11_law_96 : decode MX11_law.2.1 96 = .ok (.getfield 19, 3) := by decide +kernel
theorem dX11_law_99 : decode MX11_law.2.1 99 = .ok (.iload_n 2, 1) := by decide +kernel
theorem dX11_law_100 : decode MX11_law.2.1 100 = .ok (.i2l, 1) := by decide +kernel
theorem dX11_law_101 : decode MX11_law.2.1 101 = .ok (.iload_n 3, 1) := by decide +kernel
theorem dX11_law_102 : decode MX11_law.2.1 102 = .ok (.i2l, 1) := by decide +kernel
theorem dX11_law_103 : decode MX11_law.2.1 103 = .ok (.invokevirtual 204, 3) := by decide +kernel
theorem dX11_law_106 : decode MX11_law.2.1 106 = .ok (.iload_n 2, 1) := by decide +kernel
theorem dX11_law_107 : decode MX11_law.2.1 107 = .ok (.iload_n 3, 1) := by decide +kernel
theorem dX11_law_108 : decode MX11_law.2.1 108 = .ok (.isub, 1) := by decide +kernel
theorem dX11_law_109 : decode MX11_law.2.1 109 = .ok (.ireturn, 1) := by decide +kernel
