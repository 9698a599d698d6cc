theorem dX11_years_0 : decode MX11_years.2.1 0 = .ok (.iload_n 2, 1) := by decide +kernel
theorem dX11_years_1 : decode MX11_years.2.1 1 = .ok (.iconst 1, 1) := by decide +kernel
theorem dX11_years_2 : decode MX11_years.2.1 2 = .ok (.if_icmp .lt 9, 3) := by decide +kernel
theorem dX11_years_5 : decode MX11_years.2.1 5 = .ok (.iload_n 2, 1) := by decide +kernel
theorem dX11_years_6 : decode MX11_years.2.1 6 = .ok (.bipush 60, 2) := by decide +kernel
theorem dX11_years_8 : decode MX11_years.2.1 8 = .ok (.if_icmp .le 5, 3) := by decide +kernel
theorem dX11_years_11 : decode MX11_years.2.1 11 = .ok (.iconst (-1), 1) := by decide +kernel
theorem dX11_years_12 : decode MX11_years.2.1 12 = .ok (.ireturn, 1) := by decide +kernel
theorem dX11_years_13 : decode MX11_years.2.1 13 = .ok (.aload_n 0, 1) := by decide +kernel
theorem dX11_years_14 : decode MX11_years.2.1 14 = .ok (.getfield 30, 3) := by decide +kernel
theorem dX11_years_17 : decode MX11_years.2.1 17 = .ok (.aload_n 0, 1) := by decide +kernel
theorem dX11_years_18 : decode MX11_years.2.1 18 = .ok (.getfield 26, 3) := by decide +kernel
theorem dX11_years_21 : decode MX11_years.2.1 21 = .ok (.invokevirtual 250, 3) := by decide +kernel
theorem dX11_years_24 : decode MX11_years.2.1 24 = .ok (.aload_n 0, 1) := by decide +kernel
theorem dX11_years_25 : decode MX11_years.2.1 25 = .ok (.getfield 84, 3) := by decide +kernel
theorem dX11_years_28 : decode MX11_years.2.1 28 = .ok (.iload_n 1, 1) := by decide +kernel
theorem dX11_years_29 : decode MX11_years.2.1 29 = .ok (.invokevirtual 351, 3) := by decide +kernel
theorem dX11_years_32 : decode MX11_years.2.1 32 = .ok (.iconst 0, 1) := by decide +kernel
theorem dX11_years_33 : decode MX11_years.2.1 33 = .ok (.istore_n 3, 1) := by decide +kernel
theorem dX11_years_34 : decode MX11_years.2.1 34 = .ok (.iload_n 3, 1) := by decide +kernel
theorem dX11_years_35 : decode MX11_years.2.1 35 = .ok (.iload_n 2, 1) := by decide +kernel
theorem dX11_years_36 : decode MX11_years.2.1 36 = .ok (.if_icmp .ge 21, 3) := by decide +kernel
theorem dX11_years_39 : decode MX11_years.2.1 39 = .ok (.aload_n 0, 1) := by decide +kernel
theorem dX11_years_40 : decode MX11_years.2.1 40 = .ok (.aload_n 0, 1) := by decide +kernel
theorem dX11_years_41 : decode MX11_years.2.1 41 = .ok (.getfield 84, 3) := by decide +kernel
theorem dX11_years_44 : decode MX11_years.2.1 44 = .ok (.iconst 4, 1) := by decide +kernel
theorem dX11_years_45 : decode MX11_years.2.1 45 = .ok (.invokevirtual 354, 3) := by decide +kernel
theorem dX11_years_48 : decode MX11_years.2.1 48 = .ok (.invokevirtual 357, 3) := by decide +kernel
theorem dX11_years_51 : decode MX11_years.2.1 51 = .ok (.iinc 3 1, 3) := by decide +kernel
theorem dX11_years_54 : decode MX11_years.2.1 54 = .ok (.goto (-20), 3) := by decide +kernel
theorem dX11_years_57 : decode MX11_years.2.1 57 = .ok (.aload_n 0, 1) := by decide +kernel
theorem dX11_years_58 : decode MX11_years.2.1 58 = .ok (.getfield 19, 3) := by decide +kernel
theorem dX11_years_61 : decode MX11_years.2.1 61 = .ok (.aload_n 0, 1) := by decide +kernel
theorem dX11_years_62 : decode MX11_years.2.1 62 = .ok (.getfield 30, 3) := by decide +kernel
theorem dX11_years_65 : decode MX11_years.2.1 65 = .ok (.invokevirtual 208, 3) := by decide +kernel
theorem dX11_years_68 : decode MX11_years.2.1 68 = .ok (.i2l, 1) := by decide +kernel
theorem dX11_years_69 : decode MX11_years.2.1 69 = .ok (.aload_n 0, 1) := by decide +kernel
theorem dX11_years_70 : decode MX11_years.2.1 70 = .ok (.getfield 30, 3) := by decide +kernel
theorem dX11_years_73 : decode MX11_years.2.1 73 = .ok (.aload_n 0, 1) := by decide +kernel
theorem dX11_years_74 : decode MX11_years.2.1 74 = .ok (.getfield 30, 3) := by decide +kernel
theorem dX11_years_77 : decode MX11_years.2.1 77 = .ok (.getfield 157, 3) := by decide +kernel
theorem dX11_years_80 : decode MX11_years.2.1 80 = .ok (.invokevirtual 189, 3) := by decide +kernel
theorem dX11_years_83 : decode MX11_years.2.1 83 = .ok (.i2l, 1) := by decide +kernel
theorem dX11_years_84 : decode MX11_years.2.1 84 = .ok (.invokevirtual 204, 3) := by decide +kernel
theorem dX11_years_87 : decode MX11_years.2.1 87 = .ok (.aload_n 0, 1) := by decide +kernel
theorem dX11_years_88 : decode MX11_years.2.1 88 = .ok (.getfield 30, 3) := by decide +kernel
theorem dX11_years_91 : decode MX11_years.2.1 91 = .ok (.aload_n 0, 1) := by decide +kernel
theorem dX11_years_92 : decode MX11_years.2.1 92 = .ok (.getfield 30, 3) := by decide +kernel
theorem dX11_years_95 : decode MX11_years.2.1 95 = .ok (.getfield 154, 3) := by decide +kernel
theorem dX11_years_98 : decode MX11_years.2.1 98 = .ok (.invokevirtual 189, 3) := by decide +kernel
theorem dX11_years_101 : decode MX11_years.2.1 101 = .ok (.ireturn, 1) := by decide +kernel
theorem dX11_drawEvent_0 : decode MX11_drawEvent.2.1 0 = .ok (.iload_n 1, 1) := by decide +kernel
theorem dX11_drawEvent_1 : decode MX11_drawEvent.2.1 1 = .ok (.iconst 2, 1) := by decide +kernel
theorem dX11_drawEvent_2 : decode MX11_drawEvent.2.1 2 = .ok (.if_icmp .ge 23, 3) := by decide +kernel
theorem dX11_drawEvent_5 : decode MX11_drawEvent.2.1 5 = .ok (.aload_n 0, 1) := by decide +kernel
theorem dX11_drawEvent_6 : decode MX11_drawEvent.2.1 6 = .ok (.getfield 36, 3) := by decide +kernel
theorem dX11_drawEvent_9 : decode MX11_drawEvent.2.1 9 = .ok (.aload_n 0, 1) := by decide +kernel
theorem dX11_drawEvent_10 : decode MX11_drawEvent.2.1 10 = .ok (.getfield 30, 3) := by decide +kernel
theorem dX11_drawEvent_13 : decode MX11_drawEvent.2.1 13 = .ok (.aload_n 0, 1) := by decide +kernel
theorem dX11_drawEvent_14 : decode MX11_drawEvent.2.1 14 = .ok (.getfield 91, 3) := by decide +kernel
theorem dX11_drawEvent_17 : decode MX11_drawEvent.2.1 17 = .ok (.iconst 1, 1) := by decide +kernel
theorem dX11_drawEvent_18 : decode MX11_drawEvent.2.1 18 = .ok (.invokevirtual 197, 3) := by decide +kernel
theorem dX11_drawEvent_21 : decode MX11_drawEvent.2.1 21 = .ok (.pop, 1) := by decide +kernel
theorem dX11_drawEvent_22 : decode MX11_drawEvent.2.1 22 = .ok (.goto 65, 3) := by decide +kernel
theorem dX11_drawEvent_25 : decode MX11_drawEvent.2.1 25 = .ok (.aload_n 0, 1) := by decide +kernel
theorem dX11_drawEvent_26 : decode MX11_drawEvent.2.1 26 = .ok (.getfield 30, 3) := by decide +kernel
theorem dX11_drawEvent_29 : decode MX11_drawEvent.2.1 29 = .ok (.getfield 110, 3) := by decide +kernel
theorem dX11_drawEvent_32 : decode MX11_drawEvent.2.1 32 = .ok (.ifCond .le 55, 3) := by decide +kernel
theorem dX11_drawEvent_35 : decode MX11_drawEvent.2.1 35 = .ok (.aload_n 0, 1) := by decide +kernel
theorem dX11_drawEvent_36 : decode MX11_drawEvent.2.1 36 = .ok (.getfield 84, 3) := by decide +kernel
theorem dX11_drawEvent_39 : decode MX11_drawEvent.2.1 39 = .ok (.aload_n 0, 1) := by decide +kernel
theorem dX11_drawEvent_40 : decode MX11_drawEvent.2.1 40 = .ok (.getfield 30, 3) := by decide +kernel
theorem dX11_drawEvent_43 : decode MX11_drawEvent.2.1 43 = .ok (.getfield 110, 3) := by decide +kernel
theorem dX11_drawEvent_46 : decode MX11_drawEvent.2.1 46 = .ok (.invokevirtual 354, 3) := by decide +kernel
theorem dX11_drawEvent_49 : decode MX11_drawEvent.2.1 49 = .ok (.istore_n 2, 1) := by decide +kernel
theorem dX11_drawEvent_50 : decode MX11_drawEvent.2.1 50 = .ok (.iload_n 1, 1) := by decide +kernel
theorem dX11_drawEvent_51 : decode MX11_drawEvent.2.1 51 = .ok (.iconst 2, 1) := by decide +kernel
theorem dX11_drawEvent_52 : decode MX11_drawEvent.2.1 52 = .ok (.if_icmp .ne 26, 3) := by decide +kernel
theorem dX11_drawEvent_55 : decode MX11_drawEvent.2.1 55 = .ok (.aload_n 0, 1) := by decide +kernel
theorem dX11_drawEvent_56 : decode MX11_drawEvent.2.1 56 = .ok (.getfield 30, 3) := by decide +kernel
theorem dX11_drawEvent_59 : decode MX11_drawEvent.2.1 59 = .ok (.iload_n 2, 1) := by decide +kernel
theorem dX11_drawEvent_60 : decode MX11_drawEvent.2.1 60 = .ok (.aload_n 0, 1) := by decide +kernel
theorem dX11_drawEvent_61 : decode MX11_drawEvent.2.1 61 = .ok (.getfield 84, 3) := by decide +kernel
theorem dX11_drawEvent_64 : decode MX11_drawEvent.2.1 64 = .ok (.bipush 9, 2) := by decide +kernel
theorem dX11_drawEvent_66 : decode MX11_drawEvent.2.1 66 = .ok (.invokevirtual 354, 3) := by decide +kernel
theorem dX11_drawEvent_69 : decode MX11_drawEvent.2.1 69 = .ok (.iconst 1, 1) := by decide +kernel
theorem dX11_drawEvent_70 : decode MX11_drawEvent.2.1 70 = .ok (.iadd, 1) := by decide +kernel
theorem dX11_drawEvent_71 : decode MX11_drawEvent.2.1 71 = .ok (.invokevirtual 211, 3) := by decide +kernel
theorem dX11_drawEvent_74 : decode MX11_drawEvent.2.1 74 = .ok (.pop, 1) := by decide +kernel
theorem dX11_drawEvent_75 : decode MX11_drawEvent.2.1 75 = .ok (.goto 12, 3) := by decide +kernel
theorem dX11_drawEvent_78 : decode MX11_drawEvent.2.1 78 = .ok (.aload_n 0, 1) := by decide +kernel
theorem dX11_drawEvent_79 : decode MX11_drawEvent.2.1 79 = .ok (.getfield 30, 3) := by decide +kernel
theorem dX11_drawEvent_82 : decode MX11_drawEvent.2.1 82 = .ok (.iload_n 2, 1) := by decide +kernel
theorem dX11_drawEvent_83 : decode MX11_drawEvent.2.1 83 = .ok (.invokevirtual 217, 3) := by decide +kernel
theorem dX11_drawEvent_86 : decode MX11_drawEvent.2.1 86 = .ok (.pop, 1) := by decide +kernel
theorem dX11_drawEvent_87 : decode MX11_drawEvent.2.1 87 = .ok (.return_, 1) := by decide +kernel
theorem dX11_keep_0 : decode MX11_keep.2.1 0 = .ok (.iload_n 1, 1) := by decide +kernel
theorem dX11_keep_1 : decode MX11_keep.2.1 1 = .ok (.ifCond .ne 22, 3) := by decide +kernel
theorem dX11_keep_4 : decode MX11_keep.2.1 4 = .ok (.aload_n 0, 1) := by decide +kernel
theorem dX11_keep_5 : decode MX11_keep.2.1 5 = .ok (.getfield 47, 3) := by decide +kernel
theorem dX11_keep_8 : decode MX11_keep.2.1 8 = .ok (.aload_n 0, 1) := by decide +kernel
theorem dX11_keep_9 : decode MX11_keep.2.1 9 = .ok (.getfield 26, 3) := by decide +kernel
theorem dX11_keep_12 : decode MX11_keep.2.1 12 = .ok (.invokevirtual 250, 3) := by decide +kernel
theorem dX11_keep_15 : decode MX11_keep.2.1 15 = .ok (.aload_n 0, 1) := by decide +kernel
theorem dX11_keep_16 : decode MX11_keep.2.1 16 = .ok (.iconst 1, 1) := by decide +kernel
theorem dX11_keep_17 : decode MX11_keep.2.1 17 = .ok (.putfield 360, 3) := by decide +kernel
theorem dX11_keep_20 : decode MX11_keep.2.1 20 = .ok (.goto 24, 3) := by decide +kernel
theorem dX11_keep_23 : decode MX11_keep.2.1 23 = .ok (.iload_n 1, 1) := by decide +kernel
theorem dX11_keep_24 : decode MX11_keep.2.1 24 = .ok (.iconst 1, 1) := by decide +kernel
theorem dX11_keep_25 : decode MX11_keep.2.1 25 = .ok (.if_icmp .ne 19, 3) := by decide +kernel
theorem dX11_keep_28 : decode MX11_keep.2.1 28 = .ok (.aload_n 0, 1) := by decide +kernel
theorem dX11_keep_29 : decode MX11_keep.2.1 29 = .ok (.getfield 50, 3) := by decide +kernel
theorem dX11_keep_32 : decode MX11_keep.2.1 32 = .ok (.aload_n 0, 1) := by decide +kernel
theorem dX11_keep_33 : decode MX11_keep.2.1 33 = .ok (.getfield 26, 3) := by decide +kernel
theorem dX11_keep_36 : decode MX11_keep.2.1 36 = .ok (.invokevirtual 250, 3) := by decide +kernel
theorem dX11_keep_39 : decode MX11_keep.2.1 39 = .ok (.aload_n 0, 1) := by decide +kernel
theorem dX11_keep_40 : decode MX11_keep.2.1 40 = .ok (.iconst 1, 1) := by decide +kernel
theorem dX11_keep_41 : decode MX11_keep.2.1 41 = .ok (.putfield 364, 3) := by decide +kernel
theorem dX11_keep_44 : decode MX11_keep.2.1 44 = .ok (.iload_n 1, 1) := by decide +kernel
theorem dX11_keep_45 : decode MX11_keep.2.1 45 = .ok (.ifCond .eq 8, 3) := by decide +kernel
theorem dX11_keep_48 : decode MX11_keep.2.1 48 = .ok (.iload_n 1, 1) := by decide +kernel
theorem dX11_keep_49 : decode MX11_keep.2.1 49 = .ok (.iconst 1, 1) := by decide +kernel
theorem dX11_keep_50 : decode MX11_keep.2.1 50 = .ok (.if_icmp .ne 7, 3) := by decide +kernel
theorem dX11_keep_53 : decode MX11_keep.2.1 53 = .ok (.iconst 1, 1) := by decide +kernel
theorem dX11_keep_54 : decode MX11_keep.2.1 54 = .ok (.goto 4, 3) := by decide +kernel
theorem dX11_keep_57 : decode MX11_keep.2.1 57 = .ok (.iconst 0, 1) := by decide +kernel
theorem dX11_keep_58 : decode MX11_keep.2.1 58 = .ok (.ireturn, 1) := by decide +kernel
theorem dX11_again_0 : decode MX11_again.2.1 0 = .ok (.iload_n 1, 1) := by decide +kernel
theorem dX11_again_1 : decode MX11_again.2.1 1 = .ok (.ifCond .ne 27, 3) := by decide +kernel
theorem dX11_again_4 : decode MX11_again.2.1 4 = .ok (.aload_n 0, 1) := by decide +kernel
theorem dX11_again_5 : decode MX11_again.2.1 5 = .ok (.getfield 360, 3) := by decide +kernel
theorem dX11_again_8 : decode MX11_again.2.1 8 = .ok (.ifCond .eq 18, 3) := by decide +kernel
theorem dX11_again_11 : decode MX11_again.2.1 11 = .ok (.aload_n 0, 1) := by decide +kernel
theorem dX11_again_12 : decode MX11_again.2.1 12 = .ok (.aload_n 0, 1) := by decide +kernel
theorem dX11_again_13 : decode MX11_again.2.1 13 = .ok (.getfield 47, 3) := by decide +kernel
theorem dX11_again_16 : decode MX11_again.2.1 16 = .ok (.invokevirtual 367, 3) := by decide +kernel
theorem dX11_again_19 : decode MX11_again.2.1 19 = .ok (.ifCond .eq 7, 3) := by decide +kernel
theorem dX11_again_22 : decode MX11_again.2.1 22 = .ok (.iconst 1, 1) := by decide +kernel
theorem dX11_again_23 : decode MX11_again.2.1 23 = .ok (.goto 4, 3) := by decide +kernel
theorem dX11_again_26 : decode MX11_again.2.1 26 = .ok (.iconst 0, 1) := by decide +kernel
theorem dX11_again_27 : decode MX11_again.2.1 27 = .ok (.ireturn, 1) := by decide +kernel
theorem dX11_again_28 : decode MX11_again.2.1 28 = .ok (.iload_n 1, 1) := by decide +kernel
theorem dX11_again_29 : decode MX11_again.2.1 29 = .ok (.iconst 1, 1) := by decide +kernel
theorem dX11_again_30 : decode MX11_again.2.1 30 = .ok (.if_icmp .ne 25, 3) := by decide +kernel
theorem dX11_again_33 : decode MX11_again.2.1 33 = .ok (.aload_n 0, 1) := by decide +kernel
theorem dX11_again_34 : decode MX11_again.2.1 34 = .ok (.getfield 364, 3) := by decide +kernel
theorem dX11_again_37 : decode MX11_again.2.1 37 = .ok (.ifCond .eq 18, 3) := by decide +kernel
theorem dX11_again_40 : decode MX11_again.2.1 40 = .ok (.aload_n 0, 1) := by decide +kernel
theorem dX11_again_41 : decode MX11_again.2.1 41 = .ok (.aload_n 0, 1) := by decide +kernel
theorem dX11_again_42 : decode MX11_again.2.1 42 = .ok (.getfield 50, 3) := by decide +kernel
theorem dX11_again_45 : decode MX11_again.2.1 45 = .ok (.invokevirtual 367, 3) := by decide +kernel
theorem dX11_again_48 : decode MX11_again.2.1 48 = .ok (.ifCond .eq 7, 3) := by decide +kernel
theorem dX11_again_51 : decode MX11_again.2.1 51 = .ok (.iconst 1, 1) := by decide +kernel
theorem dX11_again_52 : decode MX11_again.2.1 52 = .ok (.goto 4, 3) := by decide +kernel
theorem dX11_again_55 : decode MX11_again.2.1 55 = .ok (.iconst 0, 1) := by decide +kernel
theorem dX11_again_56 : decode MX11_again.2.1 56 = .ok (.ireturn, 1) := by decide +kernel
theorem dX11_bringBack_0 : decode MX11_bringBack.2.1 0 = .ok (.aload_n 1, 1) := by decide +kernel
theorem dX11_bringBack_1 : decode MX11_bringBack.2.1 1 = .ok (.getfield 110, 3) := by decide +kernel
theorem dX11_bringBack_4 : decode MX11_bringBack.2.1 4 = .ok (.aload_n 0, 1) := by decide +kernel
theorem dX11_bringBack_5 : decode MX11_bringBack.2.1 5 = .ok (.getfield 26, 3) := by decide +kernel
theorem dX11_bringBack_8 : decode MX11_bringBack.2.1 8 = .ok (.getfield 110, 3) := by decide +kernel
theorem dX11_bringBack_11 : decode MX11_bringBack.2.1 11 = .ok (.if_icmp .eq 5, 3) := by decide +kernel
theorem dX11_bringBack_14 : decode MX11_bringBack.2.1 14 = .ok (.iconst 0, 1) := by decide +kernel
theorem dX11_bringBack_15 : decode MX11_bringBack.2.1 15 = .ok (.ireturn, 1) := by decide +kernel
theorem dX11_bringBack_16 : decode MX11_bringBack.2.1 16 = .ok (.aload_n 0, 1) := by decide +kernel
theorem dX11_bringBack_17 : decode MX11_bringBack.2.1 17 = .ok (.getfield 26, 3) := by decide +kernel
theorem dX11_bringBack_20 : decode MX11_bringBack.2.1 20 = .ok (.aload_n 1, 1) := by decide +kernel
theorem dX11_bringBack_21 : decode MX11_bringBack.2.1 21 = .ok (.invokevirtual 250, 3) := by decide +kernel
theorem dX11_bringBack_24 : decode MX11_bringBack.2.1 24 = .ok (.aload_n 0, 1) := by decide +kernel
theorem dX11_bringBack_25 : decode MX11_bringBack.2.1 25 = .ok (.getfield 43, 3) := by decide +kernel
theorem dX11_bringBack_28 : decode MX11_bringBack.2.1 28 = .ok (.invokevirtual 121, 3) := by decide +kernel
theorem dX11_bringBack_31 : decode MX11_bringBack.2.1 31 = .ok (.iconst 1, 1) := by decide +kernel
theorem dX11_bringBack_32 : decode MX11_bringBack.2.1 32 = .ok (.ireturn, 1) := by decide +kernel
theorem dX11_count_0 : decode MX11_count.2.1 0 = .ok (.iload_n 1, 1) := by decide +kernel
theorem dX11_count_1 : decode MX11_count.2.1 1 = .ok (.tableswitch 229 0 13 #[71, 79, 87, 109, 124, 139, 154, 169, 184, 192, 200, 208, 216, 224], 71) := by decide +kernel
theorem dX11_count_72 : decode MX11_count.2.1 72 = .ok (.aload_n 0, 1) := by decide +kernel
theorem dX11_count_73 : decode MX11_count.2.1 73 = .ok (.getfield 26, 3) := by decide +kernel
theorem dX11_count_76 : decode MX11_count.2.1 76 = .ok (.getfield 110, 3) := by decide +kernel
theorem dX11_count_79 : decode MX11_count.2.1 79 = .ok (.ireturn, 1) := by decide +kernel
theorem dX11_count_80 : decode MX11_count.2.1 80 = .ok (.aload_n 0, 1) := by decide +kernel
theorem dX11_count_81 : decode MX11_count.2.1 81 = .ok (.getfield 26, 3) := by decide +kernel
theorem dX11_count_84 : decode MX11_count.2.1 84 = .ok (.getfield 370, 3) := by decide +kernel
theorem dX11_count_87 : decode MX11_count.2.1 87 = .ok (.ireturn, 1) := by decide +kernel
theorem dX11_count_88 : decode MX11_count.2.1 88 = .ok (.iconst 1, 1) := by decide +kernel
theorem dX11_count_89 : decode MX11_count.2.1 89 = .ok (.aload_n 0, 1) := by decide +kernel
theorem dX11_count_90 : decode MX11_count.2.1 90 = .ok (.getfield 26, 3) := by decide +kernel
theorem dX11_count_93 : decode MX11_count.2.1 93 = .ok (.getfield 110, 3) := by decide +kernel
theorem dX11_count_96 : decode MX11_count.2.1 96 = .ok (.ishl, 1) := by decide +kernel
theorem dX11_count_97 : decode MX11_count.2.1 97 = .ok (.iconst 1, 1) := by decide +kernel
theorem dX11_count_98 : decode MX11_count.2.1 98 = .ok (.isub, 1) := by decide +kernel
theorem dX11_count_99 : decode MX11_count.2.1 99 = .ok (.aload_n 0, 1) := by decide +kernel
theorem dX11_count_100 : decode MX11_count.2.1 100 = .ok (.getfield 26, 3) := by decide +kernel
theorem dX11_count_103 : decode MX11_count.2.1 103 = .ok (.invokevirtual 266, 3) := by decide +kernel
theorem dX11_count_106 : decode MX11_count.2.1 106 = .ok (.iconst (-1), 1) := by decide +kernel
theorem dX11_count_107 : decode MX11_count.2.1 107 = .ok (.ixor, 1) := by decide +kernel
theorem dX11_count_108 : decode MX11_count.2.1 108 = .ok (.iand, 1) := by decide +kernel
theorem dX11_count_109 : decode MX11_count.2.1 109 = .ok (.ireturn, 1) := by decide +kernel
theorem dX11_count_110 : decode MX11_count.2.1 110 = .ok (.aload_n 0, 1) := by decide +kernel
theorem dX11_count_111 : decode MX11_count.2.1 111 = .ok (.getfield 26, 3) := by decide +kernel
theorem dX11_count_114 : decode MX11_count.2.1 114 = .ok (.aload_n 0, 1) := by decide +kernel
theorem dX11_count_115 : decode MX11_count.2.1 115 = .ok (.getfield 26, 3) := by decide +kernel
theorem dX11_count_118 : decode MX11_count.2.1 118 = .ok (.getfield 141, 3) := by decide +kernel
theorem dX11_count_121 : decode MX11_count.2.1 121 = .ok (.invokevirtual 189, 3) := by decide +kernel
theorem dX11_count_124 : decode MX11_count.2.1 124 = .ok (.ireturn, 1) := by decide +kernel
theorem dX11_count_125 : decode MX11_count.2.1 125 = .ok (.aload_n 0, 1) := by decide +kernel
theorem dX11_count_126 : decode MX11_count.2.1 126 = .ok (.getfield 26, 3) := by decide +kernel
theorem dX11_count_129 : decode MX11_count.2.1 129 = .ok (.aload_n 0, 1) := by decide +kernel
theorem dX11_count_130 : decode MX11_count.2.1 130 = .ok (.getfield 26, 3) := by decide +kernel
theorem dX11_count_133 : decode MX11_count.2.1 133 = .ok (.getfield 154, 3) := by decide +kernel
theorem dX11_count_136 : decode MX11_count.2.1 136 = .ok (.invokevirtual 189, 3) := by decide +kernel
theorem dX11_count_139 : decode MX11_count.2.1 139 = .ok (.ireturn, 1) := by decide +kernel
theorem dX11_count_140 : decode MX11_count.2.1 140 = .ok (.aload_n 0, 1) := by decide +kernel
theorem dX11_count_141 : decode MX11_count.2.1 141 = .ok (.getfield 26, 3) := by decide +kernel
theorem dX11_count_144 : decode MX11_count.2.1 144 = .ok (.aload_n 0, 1) := by decide +kernel
theorem dX11_count_145 : decode MX11_count.2.1 145 = .ok (.getfield 26, 3) := by decide +kernel
theorem dX11_count_148 : decode MX11_count.2.1 148 = .ok (.getfield 157, 3) := by decide +kernel
theorem dX11_count_151 : decode MX11_count.2.1 151 = .ok (.invokevirtual 189, 3) := by decide +kernel
theorem dX11_count_154 : decode MX11_count.2.1 154 = .ok (.ireturn, 1) := by decide +kernel
theorem dX11_count_155 : decode MX11_count.2.1 155 = .ok (.aload_n 0, 1) := by decide +kernel
theorem dX11_count_156 : decode MX11_count.2.1 156 = .ok (.getfield 26, 3) := by decide +kernel
theorem dX11_count_159 : decode MX11_count.2.1 159 = .ok (.aload_n 0, 1) := by decide +kernel
theorem dX11_count_160 : decode MX11_count.2.1 160 = .ok (.getfield 26, 3) := by decide +kernel
theorem dX11_count_163 : decode MX11_count.2.1 163 = .ok (.getfield 180, 3) := by decide +kernel
theorem dX11_count_166 : decode MX11_count.2.1 166 = .ok (.invokevirtual 373, 3) := by decide +kernel
theorem dX11_count_169 : decode MX11_count.2.1 169 = .ok (.ireturn, 1) := by decide +kernel
theorem dX11_count_170 : decode MX11_count.2.1 170 = .ok (.aload_n 0, 1) := by decide +kernel
theorem dX11_count_171 : decode MX11_count.2.1 171 = .ok (.getfield 26, 3) := by decide +kernel
theorem dX11_count_174 : decode MX11_count.2.1 174 = .ok (.aload_n 0, 1) := by decide +kernel
theorem dX11_count_175 : decode MX11_count.2.1 175 = .ok (.getfield 26, 3) := by decide +kernel
theorem dX11_count_178 : decode MX11_count.2.1 178 = .ok (.getfield 133, 3) := by decide +kernel
theorem dX11_count_181 : decode MX11_count.2.1 181 = .ok (.invokevirtual 373, 3) := by decide +kernel
theorem dX11_count_184 : decode MX11_count.2.1 184 = .ok (.ireturn, 1) := by decide +kernel
theorem dX11_count_185 : decode MX11_count.2.1 185 = .ok (.aload_n 0, 1) := by decide +kernel
theorem dX11_count_186 : decode MX11_count.2.1 186 = .ok (.getfield 56, 3) := by decide +kernel
theorem dX11_count_189 : decode MX11_count.2.1 189 = .ok (.invokevirtual 376, 3) := by decide +kernel
theorem dX11_count_192 : decode MX11_count.2.1 192 = .ok (.ireturn, 1) := by decide +kernel
theorem dX11_count_193 : decode MX11_count.2.1 193 = .ok (.aload_n 0, 1) := by decide +kernel
theorem dX11_count_194 : decode MX11_count.2.1 194 = .ok (.getfield 63, 3) := by decide +kernel
theorem dX11_count_197 : decode MX11_count.2.1 197 = .ok (.invokevirtual 377, 3) := by decide +kernel
theorem dX11_count_200 : decode MX11_count.2.1 200 = .ok (.ireturn, 1) := by decide +kernel
theorem dX11_count_201 : decode MX11_count.2.1 201 = .ok (.aload_n 0, 1) := by decide +kernel
theorem dX11_count_202 : decode MX11_count.2.1 202 = .ok (.getfield 43, 3) := by decide +kernel
theorem dX11_count_205 : decode MX11_count.2.1 205 = .ok (.invokevirtual 240, 3) := by decide +kernel
theorem dX11_count_208 : decode MX11_count.2.1 208 = .ok (.ireturn, 1) := by decide +kernel
theorem dX11_count_209 : decode MX11_count.2.1 209 = .ok (.aload_n 0, 1) := by decide +kernel
theorem dX11_count_210 : decode MX11_count.2.1 210 = .ok (.getfield 19, 3) := by decide +kernel
theorem dX11_count_213 : decode MX11_count.2.1 213 = .ok (.invokevirtual 378, 3) := by decide +kernel
theorem dX11_count_216 : decode MX11_count.2.1 216 = .ok (.ireturn, 1) := by decide +kernel
theorem dX11_count_217 : decode MX11_count.2.1 217 = .ok (.aload_n 0, 1) := by decide +kernel
theorem dX11_count_218 : decode MX11_count.2.1 218 = .ok (.getfield 12, 3) := by decide +kernel
theorem dX11_count_221 : decode MX11_count.2.1 221 = .ok (.invokevirtual 106, 3) := by decide +kernel
theorem dX11_count_224 : decode MX11_count.2.1 224 = .ok (.ireturn, 1) := by decide +kernel
theorem dX11_count_225 : decode MX11_count.2.1 225 = .ok (.aload_n 0, 1) := by decide +kernel
theorem dX11_count_226 : decode MX11_count.2.1 226 = .ok (.invokevirtual 379, 3) := by decide +kernel
theorem dX11_count_229 : decode MX11_count.2.1 229 = .ok (.ireturn, 1) := by decide +kernel
theorem dX11_count_230 : decode MX11_count.2.1 230 = .ok (.iconst (-1), 1) := by decide +kernel
theorem dX11_count_231 : decode MX11_count.2.1 231 = .ok (.ireturn, 1) := by decide +kernel
theorem dX11_allWords_0 : decode MX11_allWords.2.1 0 = .ok (.iconst 0, 1) := by decide +kernel
theorem dX11_allWords_1 : decode MX11_allWords.2.1 1 = .ok (.istore_n 1, 1) := by decide +kernel
theorem dX11_allWords_2 : decode MX11_allWords.2.1 2 = .ok (.iconst 0, 1) := by decide +kernel
theorem dX11_allWords_3 : decode MX11_allWords.2.1 3 = .ok (.istore_n 2, 1) := by decide +kernel
theorem dX11_allWords_4 : decode MX11_allWords.2.1 4 = .ok (.iload_n 2, 1) := by decide +kernel
theorem dX11_allWords_5 : decode MX11_allWords.2.1 5 = .ok (.aload_n 0, 1) := by decide +kernel
theorem dX11_allWords_6 : decode MX11_allWords.2.1 6 = .ok (.getfield 26, 3) := by decide +kernel
theorem dX11_allWords_9 : decode MX11_allWords.2.1 9 = .ok (.getfield 110, 3) := by decide +kernel
theorem dX11_allWords_12 : decode MX11_allWords.2.1 12 = .ok (.if_icmp .ge 53, 3) := by decide +kernel
theorem dX11_allWords_15 : decode MX11_allWords.2.1 15 = .ok (.iconst 0, 1) := by decide +kernel
theorem dX11_allWords_16 : decode MX11_allWords.2.1 16 = .ok (.istore_n 3, 1) := by decide +kernel
theorem dX11_allWords_17 : decode MX11_allWords.2.1 17 = .ok (.iload_n 3, 1) := by decide +kernel
theorem dX11_allWords_18 : decode MX11_allWords.2.1 18 = .ok (.aload_n 0, 1) := by decide +kernel
theorem dX11_allWords_19 : decode MX11_allWords.2.1 19 = .ok (.getfield 26, 3) := by decide +kernel
theorem dX11_allWords_22 : decode MX11_allWords.2.1 22 = .ok (.getfield 110, 3) := by decide +kernel
theorem dX11_allWords_25 : decode MX11_allWords.2.1 25 = .ok (.if_icmp .ge 34, 3) := by decide +kernel
theorem dX11_allWords_28 : decode MX11_allWords.2.1 28 = .ok (.iload_n 1, 1) := by decide +kernel
theorem dX11_allWords_29 : decode MX11_allWords.2.1 29 = .ok (.iload_n 2, 1) := by decide +kernel
theorem dX11_allWords_30 : decode MX11_allWords.2.1 30 = .ok (.iload_n 3, 1) := by decide +kernel
theorem dX11_allWords_31 : decode MX11_allWords.2.1 31 = .ok (.if_icmp .ne 7, 3) := by decide +kernel
theorem dX11_allWords_34 : decode MX11_allWords.2.1 34 = .ok (.iconst 0, 1) := by decide +kernel
theorem dX11_allWords_35 : decode MX11_allWords.2.1 35 = .ok (.goto 16, 3) := by decide +kernel
theorem dX11_allWords_38 : decode MX11_allWords.2.1 38 = .ok (.aload_n 0, 1) := by decide +kernel
theorem dX11_allWords_39 : decode MX11_allWords.2.1 39 = .ok (.getfield 91, 3) := by decide +kernel
theorem dX11_allWords_42 : decode MX11_allWords.2.1 42 = .ok (.aload_n 0, 1) := by decide +kernel
theorem dX11_allWords_43 : decode MX11_allWords.2.1 43 = .ok (.getfield 26, 3) := by decide +kernel
theorem dX11_allWords_46 : decode MX11_allWords.2.1 46 = .ok (.iload_n 2, 1) := by decide +kernel
theorem dX11_allWords_47 : decode MX11_allWords.2.1 47 = .ok (.iload_n 3, 1) := by decide +kernel
theorem dX11_allWords_48 : decode MX11_allWords.2.1 48 = .ok (.invokevirtual 176, 3) := by decide +kernel
theorem dX11_allWords_51 : decode MX11_allWords.2.1 51 = .ok (.iadd, 1) := by decide +kernel
theorem dX11_allWords_52 : decode MX11_allWords.2.1 52 = .ok (.istore_n 1, 1) := by decide +kernel
theorem dX11_allWords_53 : decode MX11_allWords.2.1 53 = .ok (.iinc 3 1, 3) := by decide +kernel
theorem dX11_allWords_56 : decode MX11_allWords.2.1 56 = .ok (.goto (-39), 3) := by decide +kernel
theorem dX11_allWords_59 : decode MX11_allWords.2.1 59 = .ok (.iinc 2 1, 3) := by decide +kernel
theorem dX11_allWords_62 : decode MX11_allWords.2.1 62 = .ok (.goto (-58), 3) := by decide +kernel
theorem dX11_allWords_65 : decode MX11_allWords.2.1 65 = .ok (.iload_n 1, 1) := by decide +kernel
theorem dX11_allWords_66 : decode MX11_allWords.2.1 66 = .ok (.ireturn, 1) := by decide +kernel
theorem dX11_row_0 : decode MX11_row.2.1 0 = .ok (.iload_n 1, 1) := by decide +kernel
theorem dX11_row_1 : decode MX11_row.2.1 1 = .ok (.ifCond .lt 14, 3) := by decide +kernel
theorem dX11_row_4 : decode MX11_row.2.1 4 = .ok (.iload_n 1, 1) := by decide +kernel
theorem dX11_row_5 : decode MX11_row.2.1 5 = .ok (.aload_n 0, 1) := by decide +kernel
theorem dX11_row_6 : decode MX11_row.2.1 6 = .ok (.getfield 19, 3) := by decide +kernel
theorem dX11_row_9 : decode MX11_row.2.1 9 = .ok (.invokevirtual 378, 3) := by decide +kernel
theorem dX11_row_12 : decode MX11_row.2.1 12 = .ok (.if_icmp .lt 11, 3) := by decide +kernel
theorem dX11_row_15 : decode MX11_row.2.1 15 = .ok (.new 151, 3) := by decide +kernel
theorem dX11_row_18 : decode MX11_row.2.1 18 = .ok (.dup, 1) := by decide +kernel
theorem dX11_row_19 : decode MX11_row.2.1 19 = .ok (.invokespecial 153, 3) := by decide +kernel
theorem dX11_row_22 : decode MX11_row.2.1 22 = .ok (.athrow, 1) := by decide +kernel
theorem dX11_row_23 : decode MX11_row.2.1 23 = .ok (.aload_n 0, 1) := by decide +kernel
theorem dX11_row_24 : decode MX11_row.2.1 24 = .ok (.getfield 19, 3) := by decide +kernel
theorem dX11_row_27 : decode MX11_row.2.1 27 = .ok (.iload_n 1, 1) := by decide +kernel
theorem dX11_row_28 : decode MX11_row.2.1 28 = .ok (.invokevirtual 382, 3) := by decide +kernel
theorem dX11_row_31 : decode MX11_row.2.1 31 = .ok (.lreturn, 1) := by decide +kernel
theorem dX11_pair_0 : decode MX11_pair.2.1 0 = .ok (.iload_n 0, 1) := by decide +kernel
theorem dX11_pair_1 : decode MX11_pair.2.1 1 = .ok (.bipush 6, 2) := by decide +kernel
theorem dX11_pair_3 : decode MX11_pair.2.1 3 = .ok (.imul, 1) := by decide +kernel
theorem dX11_pair_4 : decode MX11_pair.2.1 4 = .ok (.iload_n 1, 1) := by decide +kernel
theorem dX11_pair_5 : decode MX11_pair.2.1 5 = .ok (.iadd, 1) := by decide +kernel
theorem dX11_pair_6 : decode MX11_pair.2.1 6 = .ok (.ireturn, 1) := by decide +kernel
theorem dX11_isIn_0 : decode MX11_isIn.2.1 0 = .ok (.iload_n 1, 1) := by decide +kernel
theorem dX11_isIn_1 : decode MX11_isIn.2.1 1 = .ok (.iload_n 0, 1) := by decide +kernel
theorem dX11_isIn_2 : decode MX11_isIn.2.1 2 = .ok (.ishr, 1) := by decide +kernel
theorem dX11_isIn_3 : decode MX11_isIn.2.1 3 = .ok (.iconst 1, 1) := by decide +kernel
theorem dX11_isIn_4 : decode MX11_isIn.2.1 4 = .ok (.iand, 1) := by decide +kernel
theorem dX11_isIn_5 : decode MX11_isIn.2.1 5 = .ok (.iconst 1, 1) := by decide +kernel
theorem dX11_isIn_6 : decode MX11_isIn.2.1 6 = .ok (.if_icmp .ne 7, 3) := by decide +kernel
theorem dX11_isIn_9 : decode MX11_isIn.2.1 9 = .ok (.iconst 1, 1) := by decide +kernel
theorem dX11_isIn_10 : decode MX11_isIn.2.1 10 = .ok (.goto 4, 3) := by decide +kernel
theorem dX11_isIn_13 : decode MX11_isIn.2.1 13 = .ok (.iconst 0, 1) := by decide +kernel
theorem dX11_isIn_14 : decode MX11_isIn.2.1 14 = .ok (.ireturn, 1) := by decide +kernel
theorem dX11_isDigit_0 : decode MX11_isDigit.2.1 0 = .ok (.iload_n 0, 1) := by decide +kernel
theorem dX11_isDigit_1 : decode MX11_isDigit.2.1 1 = .ok (.bipush 48, 2) := by decide +kernel
theorem dX11_isDigit_3 : decode MX11_isDigit.2.1 3 = .ok (.if_icmp .lt 13, 3) := by decide +kernel
theorem dX11_isDigit_6 : decode MX11_isDigit.2.1 6 = .ok (.iload_n 0, 1) := by decide +kernel
theorem dX11_isDigit_7 : decode MX11_isDigit.2.1 7 = .ok (.bipush 57, 2) := by decide +kernel
theorem dX11_isDigit_9 : decode MX11_isDigit.2.1 9 = .ok (.if_icmp .gt 7, 3) := by decide +kernel
theorem dX11_isDigit_12 : decode MX11_isDigit.2.1 12 = .ok (.iconst 1, 1) := by decide +kernel
theorem dX11_isDigit_13 : decode MX11_isDigit.2.1 13 = .ok (.goto 4, 3) := by decide +kernel
theorem dX11_isDigit_16 : decode MX11_isDigit.2.1 16 = .ok (.iconst 0, 1) := by decide +kernel
theorem dX11_isDigit_17 : decode MX11_isDigit.2.1 17 = .ok (.ireturn, 1) := by decide +kernel
theorem dX11_within_0 : decode MX11_within.2.1 0 = .ok (.iconst 0, 1) := by decide +kernel
theorem dX11_within_1 : decode MX11_within.2.1 1 = .ok (.iload_n 1, 1) := by decide +kernel
theorem dX11_within_2 : decode MX11_within.2.1 2 = .ok (.iload_n 0, 1) := by decide +kernel
theorem dX11_within_3 : decode MX11_within.2.1 3 = .ok (.invokestatic 385, 3) := by decide +kernel
theorem dX11_within_6 : decode MX11_within.2.1 6 = .ok (.invokestatic 325, 3) := by decide +kernel
theorem dX11_within_9 : decode MX11_within.2.1 9 = .ok (.ireturn, 1) := by decide +kernel
theorem dX12_init_0 : decode MX12_init.2.1 0 = .ok (.aload_n 0, 1) := by decide +kernel
theorem dX12_init_1 : decode MX12_init.2.1 1 = .ok (.invokespecial 3, 3) := by decide +kernel
theorem dX12_init_4 : decode MX12_init.2.1 4 = .ok (.aload_n 0, 1) := by decide +kernel
theorem dX12_init_5 : decode MX12_init.2.1 5 = .ok (.bipush 103, 2) := by decide +kernel
theorem dX12_init_7 : decode MX12_init.2.1 7 = .ok (.newarray .int, 2) := by decide +kernel
theorem dX12_init_9 : decode MX12_init.2.1 9 = .ok (.putfield 9, 3) := by decide +kernel
theorem dX12_init_12 : decode MX12_init.2.1 12 = .ok (.aload_n 0, 1) := by decide +kernel
theorem dX12_init_13 : decode MX12_init.2.1 13 = .ok (.bipush 80, 2) := by decide +kernel
theorem dX12_init_15 : decode MX12_init.2.1 15 = .ok (.newarray .byte, 2) := by decide +kernel
theorem dX12_init_17 : decode MX12_init.2.1 17 = .ok (.putfield 13, 3) := by decide +kernel
theorem dX12_init_20 : decode MX12_init.2.1 20 = .ok (.aload_n 0, 1) := by decide +kernel
theorem dX12_init_21 : decode MX12_init.2.1 21 = .ok (.bipush 16, 2) := by decide +kernel
theorem dX12_init_23 : decode MX12_init.2.1 23 = .ok (.newarray .long, 2) := by decide +kernel
theorem dX12_init_25 : decode MX12_init.2.1 25 = .ok (.putfield 17, 3) := by decide +kernel
theorem dX12_init_28 : decode MX12_init.2.1 28 = .ok (.aload_n 0, 1) := by decide +kernel
theorem dX12_init_29 : decode MX12_init.2.1 29 = .ok (.bipush 42, 2) := by decide +kernel
theorem dX12_init_31 : decode MX12_init.2.1 31 = .ok (.newarray .int, 2) := by decide +kernel
theorem dX12_init_33 : decode MX12_init.2.1 33 = .ok (.putfield 21, 3) := by decide +kernel
theorem dX12_init_36 : decode MX12_init.2.1 36 = .ok (.aload_n 0, 1) := by decide +kernel
theorem dX12_init_37 : decode MX12_init.2.1 37 = .ok (.bipush 40, 2) := by decide +kernel
theorem dX12_init_39 : decode MX12_init.2.1 39 = .ok (.newarray .byte, 2) := by decide +kernel
theorem dX12_init_41 : decode MX12_init.2.1 41 = .ok (.putfield 24, 3) := by decide +kernel
theorem dX12_init_44 : decode MX12_init.2.1 44 = .ok (.aload_n 0, 1) := by decide +kernel
theorem dX12_init_45 : decode MX12_init.2.1 45 = .ok (.bipush 40, 2) := by decide +kernel
theorem dX12_init_47 : decode MX12_init.2.1 47 = .ok (.newarray .byte, 2) := by decide +kernel
theorem dX12_init_49 : decode MX12_init.2.1 49 = .ok (.putfield 27, 3) := by decide +kernel
theorem dX12_init_52 : decode MX12_init.2.1 52 = .ok (.aload_n 0, 1) := by decide +kernel
theorem dX12_init_53 : decode MX12_init.2.1 53 = .ok (.bipush 6, 2) := by decide +kernel
theorem dX12_init_55 : decode MX12_init.2.1 55 = .ok (.newarray .int, 2) := by decide +kernel
theorem dX12_init_57 : decode MX12_init.2.1 57 = .ok (.putfield 30, 3) := by decide +kernel
theorem dX12_init_60 : decode MX12_init.2.1 60 = .ok (.aload_n 0, 1) := by decide +kernel
theorem dX12_init_61 : decode MX12_init.2.1 61 = .ok (.sipush 1236, 3) := by decide +kernel
theorem dX12_init_64 : decode MX12_init.2.1 64 = .ok (.newarray .int, 2) := by decide +kernel
theorem dX12_init_66 : decode MX12_init.2.1 66 = .ok (.putfield 33, 3) := by decide +kernel
theorem dX12_init_69 : decode MX12_init.2.1 69 = .ok (.aload_n 0, 1) := by decide +kernel
theorem dX12_init_70 : decode MX12_init.2.1 70 = .ok (.bipush 103, 2) := by decide +kernel
theorem dX12_init_72 : decode MX12_init.2.1 72 = .ok (.newarray .int, 2) := by decide +kernel
theorem dX12_init_74 : decode MX12_init.2.1 74 = .ok (.putfield 36, 3) := by decide +kernel
theorem dX12_init_77 : decode MX12_init.2.1 77 = .ok (.aload_n 0, 1) := by decide +kernel
theorem dX12_init_78 : decode MX12_init.2.1 78 = .ok (.bipush 103, 2) := by decide +kernel
theorem dX12_init_80 : decode MX12_init.2.1 80 = .ok (.newarray .int, 2) := by decide +kernel
theorem dX12_init_82 : decode MX12_init.2.1 82 = .ok (.putfield 39, 3) := by decide +kernel
theorem dX12_init_85 : decode MX12_init.2.1 85 = .ok (.aload_n 0, 1) := by decide +kernel
theorem dX12_init_86 : decode MX12_init.2.1 86 = .ok (.bipush 36, 2) := by decide +kernel
theorem dX12_init_88 : decode MX12_init.2.1 88 = .ok (.newarray .int, 2) := by decide +kernel
theorem dX12_init_90 : decode MX12_init.2.1 90 = .ok (.putfield 42, 3) := by decide +kernel
theorem dX12_init_93 : decode MX12_init.2.1 93 = .ok (.aload_n 0, 1) := by decide +kernel
theorem dX12_init_94 : decode MX12_init.2.1 94 = .ok (.sipush 320, 3) := by decide +kernel
theorem dX12_init_97 : decode MX12_init.2.1 97 = .ok (.newarray .int, 2) := by decide +kernel
theorem dX12_init_99 : decode MX12_init.2.1 99 = .ok (.putfield 45, 3) := by decide +kernel
theorem dX12_init_102 : decode MX12_init.2.1 102 = .ok (.aload_n 0, 1) := by decide +kernel
theorem dX12_init_103 : decode MX12_init.2.1 103 = .ok (.bipush 64, 2) := by decide +kernel
theorem dX12_init_105 : decode MX12_init.2.1 105 = .ok (.newarray .int, 2) := by decide +kernel
theorem dX12_init_107 : decode MX12_init.2.1 107 = .ok (.putfield 48, 3) := by decide +kernel
theorem dX12_init_110 : decode MX12_init.2.1 110 = .ok (.aload_n 0, 1) := by decide +kernel
theorem dX12_init_111 : decode MX12_init.2.1 111 = .ok (.sipush 448, 3) := by decide +kernel
theorem dX12_init_114 : decode MX12_init.2.1 114 = .ok (.newarray .int, 2) := by decide +kernel
theorem dX12_init_116 : decode MX12_init.2.1 116 = .ok (.putfield 51, 3) := by decide +kernel
theorem dX12_init_119 : decode MX12_init.2.1 119 = .ok (.aload_n 0, 1) := by decide +kernel
theorem dX12_init_120 : decode MX12_init.2.1 120 = .ok (.bipush 12, 2) := by decide +kernel
theorem dX12_init_122 : decode MX12_init.2.1 122 = .ok (.newarray .int, 2) := by decide +kernel
theorem dX12_init_124 : decode MX12_init.2.1 124 = .ok (.putfield 54, 3) := by decide +kernel
theorem dX12_init_127 : decode MX12_init.2.1 127 = .ok (.aload_n 0, 1) := by decide +kernel
theorem dX12_init_128 : decode MX12_init.2.1 128 = .ok (.bipush 12, 2) := by decide +kernel
theorem dX12_init_130 : decode MX12_init.2.1 130 = .ok (.newarray .int, 2) := by decide +kernel
theorem dX12_init_132 : decode MX12_init.2.1 132 = .ok (.putfield 57, 3) := by decide +kernel
theorem dX12_init_135 : decode MX12_init.2.1 135 = .ok (.aload_n 0, 1) := by decide +kernel
theorem dX12_init_136 : decode MX12_init.2.1 136 = .ok (.bipush 12, 2) := by decide +kernel
theorem dX12_init_138 : decode MX12_init.2.1 138 = .ok (.newarray .int, 2) := by decide +kernel
theorem dX12_init_140 : decode MX12_init.2.1 140 = .ok (.putfield 60, 3) := by decide +kernel
theorem dX12_init_143 : decode MX12_init.2.1 143 = .ok (.aload_n 0, 1) := by decide +kernel
theorem dX12_init_144 : decode MX12_init.2.1 144 = .ok (.bipush 12, 2) := by decide +kernel
theorem dX12_init_146 : decode MX12_init.2.1 146 = .ok (.newarray .int, 2) := by decide +kernel
theorem dX12_init_148 : decode MX12_init.2.1 148 = .ok (.putfield 63, 3) := by decide +kernel
theorem dX12_init_151 : decode MX12_init.2.1 151 = .ok (.aload_n 0, 1) := by decide +kernel
theorem dX12_init_152 : decode MX12_init.2.1 152 = .ok (.bipush 12, 2) := by decide +kernel
theorem dX12_init_154 : decode MX12_init.2.1 154 = .ok (.newarray .int, 2) := by decide +kernel
theorem dX12_init_156 : decode MX12_init.2.1 156 = .ok (.putfield 66, 3) := by decide +kernel
theorem dX12_init_159 : decode MX12_init.2.1 159 = .ok (.aload_n 0, 1) := by decide +kernel
theorem dX12_init_160 : decode MX12_init.2.1 160 = .ok (.sipush 400, 3) := by decide +kernel
theorem dX12_init_163 : decode MX12_init.2.1 163 = .ok (.newarray .int, 2) := by decide +kernel
theorem dX12_init_165 : decode MX12_init.2.1 165 = .ok (.putfield 69, 3) := by decide +kernel
theorem dX12_init_168 : decode MX12_init.2.1 168 = .ok (.aload_n 0, 1) := by decide +kernel
theorem dX12_init_169 : decode MX12_init.2.1 169 = .ok (.bipush 7, 2) := by decide +kernel
theorem dX12_init_171 : decode MX12_init.2.1 171 = .ok (.newarray .long, 2) := by decide +kernel
theorem dX12_init_173 : decode MX12_init.2.1 173 = .ok (.putfield 72, 3) := by decide +kernel
theorem dX12_init_176 : decode MX12_init.2.1 176 = .ok (.aload_n 0, 1) := by decide +kernel
theorem dX12_init_177 : decode MX12_init.2.1 177 = .ok (.sipush 206, 3) := by decide +kernel
theorem dX12_init_180 : decode MX12_init.2.1 180 = .ok (.newarray .int, 2) := by decide +kernel
theorem dX12_init_182 : decode MX12_init.2.1 182 = .ok (.putfield 75, 3) := by decide +kernel
theorem dX12_init_185 : decode MX12_init.2.1 185 = .ok (.aload_n 0, 1) := by decide +kernel
theorem dX12_init_186 : decode MX12_init.2.1 186 = .ok (.iconst 2, 1) := by decide +kernel
theorem dX12_init_187 : decode MX12_init.2.1 187 = .ok (.newarray .boolean, 2) := by decide +kernel
theorem dX12_init_189 : decode MX12_init.2.1 189 = .ok (.putfield 78, 3) := by decide +kernel
theorem dX12_init_192 : decode MX12_init.2.1 192 = .ok (.aload_n 0, 1) := by decide +kernel
theorem dX12_init_193 : decode MX12_init.2.1 193 = .ok (.iconst 2, 1) := by decide +kernel
theorem dX12_init_194 : decode MX12_init.2.1 194 = .ok (.newarray .int, 2) := by decide +kernel
theorem dX12_init_196 : decode MX12_init.2.1 196 = .ok (.putfield 82, 3) := by decide +kernel
theorem dX12_init_199 : decode MX12_init.2.1 199 = .ok (.return_, 1) := by decide +kernel
theorem dX12_thrown_0 : decode MX12_thrown.2.1 0 = .ok (.aload_n 0, 1) := by decide +kernel
theorem dX12_thrown_1 : decode MX12_thrown.2.1 1 = .ok (.getfield 85, 3) := by decide +kernel
theorem dX12_thrown_4 : decode MX12_thrown.2.1 4 = .ok (.ireturn, 1) := by decide +kernel
theorem dX12_in_0 : decode MX12_in.2.1 0 = .ok (.iload_n 0, 1) := by decide +kernel
theorem dX12_in_1 : decode MX12_in.2.1 1 = .ok (.iload_n 1, 1) := by decide +kernel
theorem dX12_in_2 : decode MX12_in.2.1 2 = .ok (.if_icmp .lt 12, 3) := by decide +kernel
theorem dX12_in_5 : decode MX12_in.2.1 5 = .ok (.iload_n 0, 1) := by decide +kernel
theorem dX12_in_6 : decode MX12_in.2.1 6 = .ok (.iload_n 2, 1) := by decide +kernel
theorem dX12_in_7 : decode MX12_in.2.1 7 = .ok (.if_icmp .gt 7, 3) := by decide +kernel
theorem dX12_in_10 : decode MX12_in.2.1 10 = .ok (.iconst 1, 1) := by decide +kernel
theorem dX12_in_11 : decode MX12_in.2.1 11 = .ok (.goto 4, 3) := by decide +kernel
theorem dX12_in_14 : decode MX12_in.2.1 14 = .ok (.iconst 0, 1) := by decide +kernel
theorem dX12_in_15 : decode MX12_in.2.1 15 = .ok (.ireturn, 1) := by decide +kernel
theorem dX12_has_0 : decode MX12_has.2.1 0 = .ok (.iload_n 0, 1) := by decide +kernel
theorem dX12_has_1 : decode MX12_has.2.1 1 = .ok (.iload_n 1, 1) := by decide +kernel
theorem dX12_has_2 : decode MX12_has.2.1 2 = .ok (.ishr, 1) := by decide +kernel
theorem dX12_has_3 : decode MX12_has.2.1 3 = .ok (.iconst 1, 1) := by decide +kernel
theorem dX12_has_4 : decode MX12_has.2.1 4 = .ok (.iand, 1) := by decide +kernel
theorem dX12_has_5 : decode MX12_has.2.1 5 = .ok (.iconst 1, 1) := by decide +kernel
theorem dX12_has_6 : decode MX12_has.2.1 6 = .ok (.if_icmp .ne 7, 3) := by decide +kernel
theorem dX12_has_9 : decode MX12_has.2.1 9 = .ok (.iconst 1, 1) := by decide +kernel
theorem dX12_has_10 : decode MX12_has.2.1 10 = .ok (.goto 4, 3) := by decide +kernel
theorem dX12_has_13 : decode MX12_has.2.1 13 = .ok (.iconst 0, 1) := by decide +kernel
theorem dX12_has_14 : decode MX12_has.2.1 14 = .ok (.ireturn, 1) := by decide +kernel
theorem dX12_lost_0 : decode MX12_lost.2.1 0 = .ok (.aload_n 0, 1) := by decide +kernel
theorem dX12_lost_1 : decode MX12_lost.2.1 1 = .ok (.iconst 1, 1) := by decide +kernel
theorem dX12_lost_2 : decode MX12_lost.2.1 2 = .ok (.putfield 85, 3) := by decide +kernel
theorem dX12_lost_5 : decode MX12_lost.2.1 5 = .ok (.iconst 0, 1) := by decide +kernel
theorem dX12_lost_6 : decode MX12_lost.2.1 6 = .ok (.ireturn, 1) := by decide +kernel
theorem dX12_tell_0 : decode MX12_tell.2.1 0 = .ok (.aload_n 0, 1) := by decide +kernel
theorem dX12_tell_1 : decode MX12_tell.2.1 1 = .ok (.getfield 17, 3) := by decide +kernel
theorem dX12_tell_4 : decode MX12_tell.2.1 4 = .ok (.aload_n 0, 1) := by decide +kernel
theorem dX12_tell_5 : decode MX12_tell.2.1 5 = .ok (.getfield 89, 3) := by decide +kernel
theorem dX12_tell_8 : decode MX12_tell.2.1 8 = .ok (.lload_n 1, 1) := by decide +kernel
theorem dX12_tell_9 : decode MX12_tell.2.1 9 = .ok (.lastore, 1) := by decide +kernel
theorem dX12_tell_10 : decode MX12_tell.2.1 10 = .ok (.aload_n 0, 1) := by decide +kernel
theorem dX12_tell_11 : decode MX12_tell.2.1 11 = .ok (.dup, 1) := by decide +kernel
theorem dX12_tell_12 : decode MX12_tell.2.1 12 = .ok (.getfield 89, 3) := by decide +kernel
theorem dX12_tell_15 : decode MX12_tell.2.1 15 = .ok (.iconst 1, 1) := by decide +kernel
theorem dX12_tell_16 : decode MX12_tell.2.1 16 = .ok (.iadd, 1) := by decide +kernel
theorem dX12_tell_17 : decode MX12_tell.2.1 17 = .ok (.putfield 89, 3) := by decide +kernel
theorem dX12_tell_20 : decode MX12_tell.2.1 20 = .ok (.return_, 1) := by decide +kernel
theorem dX12_isMan_0 : decode MX12_isMan.2.1 0 = .ok (.iload_n 1, 1) := by decide +kernel
theorem dX12_isMan_1 : decode MX12_isMan.2.1 1 = .ok (.iconst 0, 1) := by decide +kernel
theorem dX12_isMan_2 : decode MX12_isMan.2.1 2 = .ok (.aload_n 0, 1) := by decide +kernel
theorem dX12_isMan_3 : decode MX12_isMan.2.1 3 = .ok (.getfield 92, 3) := by decide +kernel
theorem dX12_isMan_6 : decode MX12_isMan.2.1 6 = .ok (.iconst 1, 1) := by decide +kernel
theorem dX12_isMan_7 : decode MX12_isMan.2.1 7 = .ok (.isub, 1) := by decide +kernel
theorem dX12_isMan_8 : decode MX12_isMan.2.1 8 = .ok (.invokestatic 95, 3) := by decide +kernel
theorem dX12_isMan_11 : decode MX12_isMan.2.1 11 = .ok (.ireturn, 1) := by decide +kernel
theorem dX12_areTwo_0 : decode MX12_areTwo.2.1 0 = .ok (.aload_n 0, 1) := by decide +kernel
theorem dX12_areTwo_1 : decode MX12_areTwo.2.1 1 = .ok (.iload_n 1, 1) := by decide +kernel
theorem dX12_areTwo_2 : decode MX12_areTwo.2.1 2 = .ok (.invokevirtual 99, 3) := by decide +kernel
theorem dX12_areTwo_5 : decode MX12_areTwo.2.1 5 = .ok (.ifCond .eq 20, 3) := by decide +kernel
theorem dX12_areTwo_8 : decode MX12_areTwo.2.1 8 = .ok (.aload_n 0, 1) := by decide +kernel
theorem dX12_areTwo_9 : decode MX12_areTwo.2.1 9 = .ok (.iload_n 2, 1) := by decide +kernel
theorem dX12_areTwo_10 : decode MX12_areTwo.2.1 10 = .ok (.invokevirtual 99, 3) := by decide +kernel
theorem dX12_areTwo_13 : decode MX12_areTwo.2.1 13 = .ok (.ifCond .eq 12, 3) := by decide +kernel
theorem dX12_areTwo_16 : decode MX12_areTwo.2.1 16 = .ok (.iload_n 1, 1) := by decide +kernel
theorem dX12_areTwo_17 : decode MX12_areTwo.2.1 17 = .ok (.iload_n 2, 1) := by decide +kernel
theorem dX12_areTwo_18 : decode MX12_areTwo.2.1 18 = .ok (.if_icmp .eq 7, 3) := by decide +kernel
theorem dX12_areTwo_21 : decode MX12_areTwo.2.1 21 = .ok (.iconst 1, 1) := by decide +kernel
theorem dX12_areTwo_22 : decode MX12_areTwo.2.1 22 = .ok (.goto 4, 3) := by decide +kernel
theorem dX12_areTwo_25 : decode MX12_areTwo.2.1 25 = .ok (.iconst 0, 1) := by decide +kernel
theorem dX12_areTwo_26 : decode MX12_areTwo.2.1 26 = .ok (.ireturn, 1) := by decide +kernel
theorem dX12_all_0 : decode MX12_all.2.1 0 = .ok (.iconst 1, 1) := by decide +kernel
theorem dX12_all_1 : decode MX12_all.2.1 1 = .ok (.aload_n 0, 1) := by decide +kernel
theorem dX12_all_2 : decode MX12_all.2.1 2 = .ok (.getfield 92, 3) := by decide +kernel
theorem dX12_all_5 : decode MX12_all.2.1 5 = .ok (.ishl, 1) := by decide +kernel
theorem dX12_all_6 : decode MX12_all.2.1 6 = .ok (.iconst 1, 1) := by decide +kernel
theorem dX12_all_7 : decode MX12_all.2.1 7 = .ok (.isub, 1) := by decide +kernel
theorem dX12_all_8 : decode MX12_all.2.1 8 = .ok (.ireturn, 1) := by decide +kernel
theorem dX12_pair_0 : decode MX12_pair.2.1 0 = .ok (.bipush 6, 2) := by decide +kernel
theorem dX12_pair_2 : decode MX12_pair.2.1 2 = .ok (.iload_n 0, 1) := by decide +kernel
theorem dX12_pair_3 : decode MX12_pair.2.1 3 = .ok (.imul, 1) := by decide +kernel
theorem dX12_pair_4 : decode MX12_pair.2.1 4 = .ok (.iload_n 1, 1) := by decide +kernel
theorem dX12_pair_5 : decode MX12_pair.2.1 5 = .ok (.iadd, 1) := by decide +kernel
theorem dX12_pair_6 : decode MX12_pair.2.1 6 = .ok (.ireturn, 1) := by decide +kernel
theorem dX12_sign_0 : decode MX12_sign.2.1 0 = .ok (.aload_n 0, 1) := by decide +kernel
theorem dX12_sign_1 : decode MX12_sign.2.1 1 = .ok (.iconst 0, 1) := by decide +kernel
theorem dX12_sign_2 : decode MX12_sign.2.1 2 = .ok (.putfield 85, 3) := by decide +kernel
theorem dX12_sign_5 : decode MX12_sign.2.1 5 = .ok (.aload_n 0, 1) := by decide +kernel
theorem dX12_sign_6 : decode MX12_sign.2.1 6 = .ok (.getfield 103, 3) := by decide +kernel
theorem dX12_sign_9 : decode MX12_sign.2.1 9 = .ok (.iconst 4, 1) := by decide +kernel
theorem dX12_sign_10 : decode MX12_sign.2.1 10 = .ok (.iadd, 1) := by decide +kernel
theorem dX12_sign_11 : decode MX12_sign.2.1 11 = .ok (.bipush 80, 2) := by decide +kernel
theorem dX12_sign_13 : decode MX12_sign.2.1 13 = .ok (.if_icmp .le 5, 3) := by decide +kernel
theorem dX12_sign_16 : decode MX12_sign.2.1 16 = .ok (.iconst (-1), 1) := by decide +kernel
theorem dX12_sign_17 : decode MX12_sign.2.1 17 = .ok (.ireturn, 1) := by decide +kernel
theorem dX12_sign_18 : decode MX12_sign.2.1 18 = .ok (.iconst 3, 1) := by decide +kernel
theorem dX12_sign_19 : decode MX12_sign.2.1 19 = .ok (.istore_n 2, 1) := by decide +kernel
theorem dX12_sign_20 : decode MX12_sign.2.1 20 = .ok (.iload_n 2, 1) := by decide +kernel
theorem dX12_sign_21 : decode MX12_sign.2.1 21 = .ok (.ifCond .lt 32, 3) := by decide +kernel
theorem dX12_sign_24 : decode MX12_sign.2.1 24 = .ok (.aload_n 0, 1) := by decide +kernel
theorem dX12_sign_25 : decode MX12_sign.2.1 25 = .ok (.getfield 13, 3) := by decide +kernel
theorem dX12_sign_28 : decode MX12_sign.2.1 28 = .ok (.aload_n 0, 1) := by decide +kernel
theorem dX12_sign_29 : decode MX12_sign.2.1 29 = .ok (.dup, 1) := by decide +kernel
theorem dX12_sign_30 : decode MX12_sign.2.1 30 = .ok (.getfield 103, 3) := by decide +kernel
theorem dX12_sign_33 : decode MX12_sign.2.1 33 = .ok (.dup_x1, 1) := by decide +kernel
theorem dX12_sign_34 : decode MX12_sign.2.1 34 = .ok (.iconst 1, 1) := by decide +kernel
theorem dX12_sign_35 : decode MX12_sign.2.1 35 = .ok (.iadd, 1) := by decide +kernel
theorem dX12_sign_36 : decode MX12_sign.2.1 36 = .ok (.putfield 103, 3) := by decide +kernel
theorem dX12_sign_39 : decode MX12_sign.2.1 39 = .ok (.iload_n 1, 1) := by decide +kernel
theorem dX12_sign_40 : decode MX12_sign.2.1 40 = .ok (.bipush 8, 2) := by decide +kernel
theorem dX12_sign_42 : decode MX12_sign.2.1 42 = .ok (.iload_n 2, 1) := by decide +kernel
theorem dX12_sign_43 : decode MX12_sign.2.1 43 = .ok (.imul, 1) := by decide +kernel
theorem dX12_sign_44 : decode MX12_sign.2.1 44 = .ok (.ishr, 1) := by decide +kernel
theorem dX12_sign_45 : decode MX12_sign.2.1 45 = .ok (.i2b, 1) := by decide +kernel
theorem dX12_sign_46 : decode MX12_sign.2.1 46 = .ok (.bastore, 1) := by decide +kernel
theorem dX12_sign_47 : decode MX12_sign.2.1 47 = .ok (.iinc 2 (-1), 3) := by decide +kernel
theorem dX12_sign_50 : decode MX12_sign.2.1 50 = .ok (.goto (-30), 3) := by decide +kernel
theorem dX12_sign_53 : decode MX12_sign.2.1 53 = .ok (.aload_n 0, 1) := by decide +kernel
theorem dX12_sign_54 : decode MX12_sign.2.1 54 = .ok (.getfield 103, 3) := by decide +kernel
theorem dX12_sign_57 : decode MX12_sign.2.1 57 = .ok (.ireturn, 1) := by decide +kernel
theorem dX12_end_0 : decode MX12_end.2.1 0 = .ok (.aload_n 0, 1) := by decide +kernel
theorem dX12_end_1 : decode MX12_end.2.1 1 = .ok (.iconst 0, 1) := by decide +kernel
theorem dX12_end_2 : decode MX12_end.2.1 2 = .ok (.putfield 85, 3) := by decide +kernel
theorem dX12_end_5 : decode MX12_end.2.1 5 = .ok (.iload_n 1, 1) := by decide +kernel
theorem dX12_end_6 : decode MX12_end.2.1 6 = .ok (.iconst 0, 1) := by decide +kernel
theorem dX12_end_7 : decode MX12_end.2.1 7 = .ok (.aload_n 0, 1) := by decide +kernel
theorem dX12_end_8 : decode MX12_end.2.1 8 = .ok (.getfield 103, 3) := by decide +kernel
theorem dX12_end_11 : decode MX12_end.2.1 11 = .ok (.invokestatic 95, 3) := by decide +kernel
theorem dX12_end_14 : decode MX12_end.2.1 14 = .ok (.ifCond .ne 5, 3) := by decide +kernel
theorem dX12_end_17 : decode MX12_end.2.1 17 = .ok (.iconst 0, 1) := by decide +kernel
theorem dX12_end_18 : decode MX12_end.2.1 18 = .ok (.ireturn, 1) := by decide +kernel
theorem dX12_end_19 : decode MX12_end.2.1 19 = .ok (.aload_n 0, 1) := by decide +kernel
theorem dX12_end_20 : decode MX12_end.2.1 20 = .ok (.iload_n 1, 1) := by decide +kernel
theorem dX12_end_21 : decode MX12_end.2.1 21 = .ok (.putfield 103, 3) := by decide +kernel
theorem dX12_end_24 : decode MX12_end.2.1 24 = .ok (.iconst 1, 1) := by decide +kernel
theorem dX12_end_25 : decode MX12_end.2.1 25 = .ok (.ireturn, 1) := by decide +kernel
theorem dX12_begin_0 : decode MX12_begin.2.1 0 = .ok (.aload_n 0, 1) := by decide +kernel
theorem dX12_begin_1 : decode MX12_begin.2.1 1 = .ok (.aload_n 1, 1) := by decide +kernel
theorem dX12_begin_2 : decode MX12_begin.2.1 2 = .ok (.putfield 106, 3) := by decide +kernel
theorem dX12_begin_5 : decode MX12_begin.2.1 5 = .ok (.aload_n 0, 1) := by decide +kernel
theorem dX12_begin_6 : decode MX12_begin.2.1 6 = .ok (.iload_n 2, 1) := by decide +kernel
theorem dX12_begin_7 : decode MX12_begin.2.1 7 = .ok (.putfield 109, 3) := by decide +kernel
theorem dX12_begin_10 : decode MX12_begin.2.1 10 = .ok (.aload_n 0, 1) := by decide +kernel
theorem dX12_begin_11 : decode MX12_begin.2.1 11 = .ok (.iload_n 3, 1) := by decide +kernel
theorem dX12_begin_12 : decode MX12_begin.2.1 12 = .ok (.putfield 112, 3) := by decide +kernel
theorem dX12_begin_15 : decode MX12_begin.2.1 15 = .ok (.aload_n 0, 1) := by decide +kernel
theorem dX12_begin_16 : decode MX12_begin.2.1 16 = .ok (.iconst 0, 1) := by decide +kernel
theorem dX12_begin_17 : decode MX12_begin.2.1 17 = .ok (.putfield 115, 3) := by decide +kernel
theorem dX12_begin_20 : decode MX12_begin.2.1 20 = .ok (.aload_n 0, 1) := by decide +kernel
theorem dX12_begin_21 : decode MX12_begin.2.1 21 = .ok (.iconst (-1), 1) := by decide +kernel
theorem dX12_begin_22 : decode MX12_begin.2.1 22 = .ok (.putfield 118, 3) := by decide +kernel
theorem dX12_begin_25 : decode MX12_begin.2.1 25 = .ok (.return_, 1) := by decide +kernel
theorem dX12_beginText_0 : decode MX12_beginText.2.1 0 = .ok (.aload_n 0, 1) := by decide +kernel
theorem dX12_beginText_1 : decode MX12_beginText.2.1 1 = .ok (.aload_n 0, 1) := by decide +kernel
theorem dX12_beginText_2 : decode MX12_beginText.2.1 2 = .ok (.getfield 13, 3) := by decide +kernel
theorem dX12_beginText_5 : decode MX12_beginText.2.1 5 = .ok (.aload_n 0, 1) := by decide +kernel
theorem dX12_beginText_6 : decode MX12_beginText.2.1 6 = .ok (.getfield 103, 3) := by decide +kernel
theorem dX12_beginText_9 : decode MX12_beginText.2.1 9 = .ok (.iload_n 1, 1) := by decide +kernel
theorem dX12_beginText_10 : decode MX12_beginText.2.1 10 = .ok (.invokevirtual 121, 3) := by decide +kernel
theorem dX12_beginText_13 : decode MX12_beginText.2.1 13 = .ok (.aload_n 0, 1) := by decide +kernel
theorem dX12_beginText_14 : decode MX12_beginText.2.1 14 = .ok (.iconst 0, 1) := by decide +kernel
theorem dX12_beginText_15 : decode MX12_beginText.2.1 15 = .ok (.putfield 103, 3) := by decide +kernel
theorem dX12_beginText_18 : decode MX12_beginText.2.1 18 = .ok (.return_, 1) := by decide +kernel
theorem dX12_here_0 : decode MX12_here.2.1 0 = .ok (.aload_n 0, 1) := by decide +kernel
theorem dX12_here_1 : decode MX12_here.2.1 1 = .ok (.getfield 115, 3) := by decide +kernel
theorem dX12_here_4 : decode MX12_here.2.1 4 = .ok (.aload_n 0, 1) := by decide +kernel
theorem dX12_here_5 : decode MX12_here.2.1 5 = .ok (.getfield 109, 3) := by decide +kernel
theorem dX12_here_8 : decode MX12_here.2.1 8 = .ok (.if_icmp .ge 30, 3) := by decide +kernel
theorem dX12_here_11 : decode MX12_here.2.1 11 = .ok (.aload_n 0, 1) := by decide +kernel
theorem dX12_here_12 : decode MX12_here.2.1 12 = .ok (.getfield 115, 3) := by decide +kernel
theorem dX12_here_15 : decode MX12_here.2.1 15 = .ok (.aload_n 0, 1) := by decide +kernel
theorem dX12_here_16 : decode MX12_here.2.1 16 = .ok (.getfield 112, 3) := by decide +kernel
theorem dX12_here_19 : decode MX12_here.2.1 19 = .ok (.if_icmp .ge 19, 3) := by decide +kernel
theorem dX12_here_22 : decode MX12_here.2.1 22 = .ok (.aload_n 0, 1) := by decide +kernel
theorem dX12_here_23 : decode MX12_here.2.1 23 = .ok (.getfield 106, 3) := by decide +kernel
theorem dX12_here_26 : decode MX12_here.2.1 26 = .ok (.aload_n 0, 1) := by decide +kernel
theorem dX12_here_27 : decode MX12_here.2.1 27 = .ok (.getfield 115, 3) := by decide +kernel
theorem dX12_here_30 : decode MX12_here.2.1 30 = .ok (.baload, 1) := by decide +kernel
theorem dX12_here_31 : decode MX12_here.2.1 31 = .ok (.sipush 255, 3) := by decide +kernel
theorem dX12_here_34 : decode MX12_here.2.1 34 = .ok (.iand, 1) := by decide +kernel
theorem dX12_here_35 : decode MX12_here.2.1 35 = .ok (.goto 4, 3) := by decide +kernel
theorem dX12_here_38 : decode MX12_here.2.1 38 = .ok (.iconst (-1), 1) := by decide +kernel
theorem dX12_here_39 : decode MX12_here.2.1 39 = .ok (.ireturn, 1) := by decide +kernel
theorem dX12_fine_0 : decode MX12_fine.2.1 0 = .ok (.aload_n 0, 1) := by decide +kernel
theorem dX12_fine_1 : decode MX12_fine.2.1 1 = .ok (.getfield 118, 3) := by decide +kernel
theorem dX12_fine_4 : decode MX12_fine.2.1 4 = .ok (.iconst (-1), 1) := by decide +kernel
theorem dX12_fine_5 : decode MX12_fine.2.1 5 = .ok (.if_icmp .ne 7, 3) := by decide +kernel
theorem dX12_fine_8 : decode MX12_fine.2.1 8 = .ok (.iconst 1, 1) := by decide +kernel
theorem dX12_fine_9 : decode MX12_fine.2.1 9 = .ok (.goto 4, 3) := by decide +kernel
theorem dX12_fine_12 : decode MX12_fine.2.1 12 = .ok (.iconst 0, 1) := by decide +kernel
theorem dX12_fine_13 : decode MX12_fine.2.1 13 = .ok (.ireturn, 1) := by decide +kernel
theorem dX12_fault_0 : decode MX12_fault.2.1 0 = .ok (.aload_n 0, 1) := by decide +kernel
theorem dX12_fault_1 : decode MX12_fault.2.1 1 = .ok (.invokevirtual 125, 3) := by decide +kernel
theorem dX12_fault_4 : decode MX12_fault.2.1 4 = .ok (.ifCond .eq 8, 3) := by decide +kernel
theorem dX12_fault_7 : decode MX12_fault.2.1 7 = .ok (.aload_n 0, 1) := by decide +kernel
theorem dX12_fault_8 : decode MX12_fault.2.1 8 = .ok (.iload_n 1, 1) := by decide +kernel
theorem dX12_fault_9 : decode MX12_fault.2.1 9 = .ok (.putfield 118, 3) := by decide +kernel
theorem dX12_fault_12 : decode MX12_fault.2.1 12 = .ok (.return_, 1) := by decide +kernel
theorem dX12_passes_0 : decode MX12_passes.2.1 0 = .ok (.aload_n 0, 1) := by decide +kernel
theorem dX12_passes_1 : decode MX12_passes.2.1 1 = .ok (.invokevirtual 125, 3) := by decide +kernel
theorem dX12_passes_4 : decode MX12_passes.2.1 4 = .ok (.ifCond .eq 11, 3) := by decide +kernel
theorem dX12_passes_7 : decode MX12_passes.2.1 7 = .ok (.aload_n 0, 1) := by decide +kernel
theorem dX12_passes_8 : decode MX12_passes.2.1 8 = .ok (.invokevirtual 129, 3) := by decide +kernel
theorem dX12_passes_11 : decode MX12_passes.2.1 11 = .ok (.iload_n 1, 1) := by decide +kernel
theorem dX12_passes_12 : decode MX12_passes.2.1 12 = .ok (.if_icmp .eq 5, 3) := by decide +kernel
theorem dX12_passes_15 : decode MX12_passes.2.1 15 = .ok (.iconst 0, 1) := by decide +kernel
theorem dX12_passes_16 : decode MX12_passes.2.1 16 = .ok (.ireturn, 1) := by decide +kernel
theorem dX12_passes_17 : decode MX12_passes.2.1 17 = .ok (.aload_n 0, 1) := by decide +kernel
theorem dX12_passes_18 : decode MX12_passes.2.1 18 = .ok (.dup, 1) := by decide +kernel
theorem dX12_passes_19 : decode MX12_passes.2.1 19 = .ok (.getfield 115, 3) := by decide +kernel
theorem dX12_passes_22 : decode MX12_passes.2.1 22 = .ok (.iconst 1, 1) := by decide +kernel
theorem dX12_passes_23 : decode MX12_passes.2.1 23 = .ok (.iadd, 1) := by decide +kernel
theorem dX12_passes_24 : decode MX12_passes.2.1 24 = .ok (.putfield 115, 3) := by decide +kernel
theorem dX12_passes_27 : decode MX12_passes.2.1 27 = .ok (.iconst 1, 1) := by decide +kernel
theorem dX12_passes_28 : decode MX12_passes.2.1 28 = .ok (.ireturn, 1) := by decide +kernel
theorem dX12_need_0 : decode MX12_need.2.1 0 = .ok (.aload_n 0, 1) := by decide +kernel
theorem dX12_need_1 : decode MX12_need.2.1 1 = .ok (.iload_n 1, 1) := by decide +kernel
theorem dX12_need_2 : decode MX12_need.2.1 2 = .ok (.invokevirtual 133, 3) := by decide +kernel
theorem dX12_need_5 : decode MX12_need.2.1 5 = .ok (.ifCond .ne 11, 3) := by decide +kernel
theorem dX12_need_8 : decode MX12_need.2.1 8 = .ok (.aload_n 0, 1) := by decide +kernel
theorem dX12_need_9 : decode MX12_need.2.1 9 = .ok (.aload_n 0, 1) := by decide +kernel
theorem dX12_need_10 : decode MX12_need.2.1 10 = .ok (.getfield 115, 3) := by decide +kernel
theorem dX12_need_13 : decode MX12_need.2.1 13 = .ok (.invokevirtual 137, 3) := by decide +kernel
theorem dX12_need_16 : decode MX12_need.2.1 16 = .ok (.return_, 1) := by decide +kernel
theorem dX12_oneOf_0 : decode MX12_oneOf.2.1 0 = .ok (.aload_n 0, 1) := by decide +kernel
theorem dX12_oneOf_1 : decode MX12_oneOf.2.1 1 = .ok (.invokevirtual 125, 3) := by decide +kernel
theorem dX12_oneOf_4 : decode MX12_oneOf.2.1 4 = .ok (.ifCond .ne 5, 3) := by decide +kernel
theorem dX12_oneOf_7 : decode MX12_oneOf.2.1 7 = .ok (.iconst 0, 1) := by decide +kernel
theorem dX12_oneOf_8 : decode MX12_oneOf.2.1 8 = .ok (.ireturn, 1) := by decide +kernel
theorem dX12_oneOf_9 : decode MX12_oneOf.2.1 9 = .ok (.aload_n 0, 1) := by decide +kernel
theorem dX12_oneOf_10 : decode MX12_oneOf.2.1 10 = .ok (.invokevirtual 129, 3) := by decide +kernel
theorem dX12_oneOf_13 : decode MX12_oneOf.2.1 13 = .ok (.iload_n 1, 1) := by decide +kernel
theorem dX12_oneOf_14 : decode MX12_oneOf.2.1 14 = .ok (.iload_n 1, 1) := by decide +kernel
theorem dX12_oneOf_15 : decode MX12_oneOf.2.1 15 = .ok (.iload_n 2, 1) := by decide +kernel
theorem dX12_oneOf_16 : decode MX12_oneOf.2.1 16 = .ok (.iadd, 1) := by decide +kernel
theorem dX12_oneOf_17 : decode MX12_oneOf.2.1 17 = .ok (.iconst 1, 1) := by decide +kernel
theorem dX12_oneOf_18 : decode MX12_oneOf.2.1 18 = .ok (.isub, 1) := by decide +kernel
theorem dX12_oneOf_19 : decode MX12_oneOf.2.1 19 = .ok (.invokestatic 95, 3) := by decide +kernel
theorem dX12_oneOf_22 : decode MX12_oneOf.2.1 22 = .ok (.ifCond .ne 13, 3) := by decide +kernel
theorem dX12_oneOf_25 : decode MX12_oneOf.2.1 25 = .ok (.aload_n 0, 1) := by decide +kernel
theorem dX12_oneOf_26 : decode MX12_oneOf.2.1 26 = .ok (.aload_n 0, 1) := by decide +kernel
theorem dX12_oneOf_27 : decode MX12_oneOf.2.1 27 = .ok (.getfield 115, 3) := by decide +kernel
theorem dX12_oneOf_30 : decode MX12_oneOf.2.1 30 = .ok (.invokevirtual 137, 3) := by decide +kernel
theorem dX12_oneOf_33 : decode MX12_oneOf.2.1 33 = .ok (.iconst 0, 1) := by decide +kernel
theorem dX12_oneOf_34 : decode MX12_oneOf.2.1 34 = .ok (.ireturn, 1) := by decide +kernel
theorem dX12_oneOf_35 : decode MX12_oneOf.2.1 35 = .ok (.aload_n 0, 1) := by decide +kernel
theorem dX12_oneOf_36 : decode MX12_oneOf.2.1 36 = .ok (.dup, 1) := by decide +kernel
theorem dX12_oneOf_37 : decode MX12_oneOf.2.1 37 = .ok (.getfield 115, 3) := by decide +kernel
theorem dX12_oneOf_40 : decode MX12_oneOf.2.1 40 = .ok (.iconst 1, 1) := by decide +kernel
theorem dX12_oneOf_41 : decode MX12_oneOf.2.1 41 = .ok (.iadd, 1) := by decide +kernel
theorem dX12_oneOf_42 : decode MX12_oneOf.2.1 42 = .ok (.putfield 115, 3) := by decide +kernel
theorem dX12_oneOf_45 : decode MX12_oneOf.2.1 45 = .ok (.aload_n 0, 1) := by decide +kernel
theorem dX12_oneOf_46 : decode MX12_oneOf.2.1 46 = .ok (.getfield 106, 3) := by decide +kernel
theorem dX12_oneOf_49 : decode MX12_oneOf.2.1 49 = .ok (.aload_n 0, 1) := by decide +kernel
theorem dX12_oneOf_50 : decode MX12_oneOf.2.1 50 = .ok (.getfield 115, 3) := by decide +kernel
theorem dX12_oneOf_53 : decode MX12_oneOf.2.1 53 = .ok (.iconst 1, 1) := by decide +kernel
theorem dX12_oneOf_54 : decode MX12_oneOf.2.1 54 = .ok (.isub, 1) := by decide +kernel
theorem dX12_oneOf_55 : decode MX12_oneOf.2.1 55 = .ok (.baload, 1) := by decide +kernel
theorem dX12_oneOf_56 : decode MX12_oneOf.2.1 56 = .ok (.iload_n 1, 1) := by decide +kernel
theorem dX12_oneOf_57 : decode MX12_oneOf.2.1 57 = .ok (.isub, 1) := by decide +kernel
theorem dX12_oneOf_58 : decode MX12_oneOf.2.1 58 = .ok (.ireturn, 1) := by decide +kernel
theorem dX12_number_0 : decode MX12_number.2.1 0 = .ok (.aload_n 0, 1) := by decide +kernel
theorem dX12_number_1 : decode MX12_number.2.1 1 = .ok (.bipush 48, 2) := by decide +kernel
theorem dX12_number_3 : decode MX12_number.2.1 3 = .ok (.bipush 10, 2) := by decide +kernel
theorem dX12_number_5 : decode MX12_number.2.1 5 = .ok (.invokevirtual 141, 3) := by decide +kernel
theorem dX12_number_8 : decode MX12_number.2.1 8 = .ok (.istore_n 2, 1) := by decide +kernel
theorem dX12_number_9 : decode MX12_number.2.1 9 = .ok (.iconst 1, 1) := by decide +kernel
theorem dX12_number_10 : decode MX12_number.2.1 10 = .ok (.istore_n 3, 1) := by decide +kernel
theorem dX12_number_11 : decode MX12_number.2.1 11 = .ok (.iload_n 3, 1) := by decide +kernel
theorem dX12_number_12 : decode MX12_number.2.1 12 = .ok (.iload_n 1, 1) := by decide +kernel
theorem dX12_number_13 : decode MX12_number.2.1 13 = .ok (.if_icmp .ge 44, 3) := by decide +kernel
theorem dX12_number_16 : decode MX12_number.2.1 16 = .ok (.aload_n 0, 1) := by decide +kernel
theorem dX12_number_17 : decode MX12_number.2.1 17 = .ok (.invokevirtual 125, 3) := by decide +kernel
theorem dX12_number_20 : decode MX12_number.2.1 20 = .ok (.ifCond .eq 37, 3) := by decide +kernel
theorem dX12_number_23 : decode MX12_number.2.1 23 = .ok (.aload_n 0, 1) := by decide +kernel
theorem dX12_number_24 : decode MX12_number.2.1 24 = .ok (.invokevirtual 129, 3) := by decide +kernel
theorem dX12_number_27 : decode MX12_number.2.1 27 = .ok (.bipush 48, 2) := by decide +kernel
theorem dX12_number_29 : decode MX12_number.2.1 29 = .ok (.bipush 57, 2) := by decide +kernel
theorem dX12_number_31 : decode MX12_number.2.1 31 = .ok (.invokestatic 95, 3) := by decide +kernel
theorem dX12_number_34 : decode MX12_number.2.1 34 = .ok (.ifCond .eq 23, 3) := by decide +kernel
theorem dX12_number_37 : decode MX12_number.2.1 37 = .ok (.bipush 10, 2) := by decide +kernel
theorem dX12_number_39 : decode MX12_number.2.1 39 = .ok (.iload_n 2, 1) := by decide +kernel
theorem dX12_number_40 : decode MX12_number.2.1 40 = .ok (.imul, 1) := by decide +kernel
theorem dX12_number_41 : decode MX12_number.2.1 41 = .ok (.aload_n 0, 1) := by decide +kernel
theorem dX12_number_42 : decode MX12_number.2.1 42 = .ok (.bipush 48, 2) := by decide +kernel
theorem dX12_number_44 : decode MX12_number.2.1 44 = .ok (.bipush 10, 2) := by decide +kernel
theorem dX12_number_46 : decode MX12_number.2.1 46 = .ok (.invokevirtual 141, 3) := by decide +kernel
theorem dX12_number_49 : decode MX12_number.2.1 49 = .ok (.iadd, 1) := by decide +kernel
theorem dX12_number_50 : decode MX12_number.2.1 50 = .ok (.istore_n 2, 1) := by decide +kernel
theorem dX12_number_51 : decode MX12_number.2.1 51 = .ok (.iinc 3 1, 3) := by decide +kernel
theorem dX12_number_54 : decode MX12_number.2.1 54 = .ok (.goto (-43), 3) := by decide +kernel
theorem dX12_number_57 : decode MX12_number.2.1 57 = .ok (.iload_n 2, 1) := by decide +kernel
theorem dX12_number_58 : decode MX12_number.2.1 58 = .ok (.ireturn, 1) := by decide +kernel
theorem dX12_wasRight_0 : decode MX12_wasRight.2.1 0 = .ok (.aload_n 0, 1) := by decide +kernel
theorem dX12_wasRight_1 : decode MX12_wasRight.2.1 1 = .ok (.getfield 115, 3) := by decide +kernel
theorem dX12_wasRight_4 : decode MX12_wasRight.2.1 4 = .ok (.aload_n 0, 1) := by decide +kernel
theorem dX12_wasRight_5 : decode MX12_wasRight.2.1 5 = .ok (.getfield 109, 3) := by decide +kernel
theorem dX12_wasRight_8 : decode MX12_wasRight.2.1 8 = .ok (.if_icmp .ge 11, 3) := by decide +kernel
theorem dX12_wasRight_11 : decode MX12_wasRight.2.1 11 = .ok (.aload_n 0, 1) := by decide +kernel
theorem dX12_wasRight_12 : decode MX12_wasRight.2.1 12 = .ok (.aload_n 0, 1) := by decide +kernel
theorem dX12_wasRight_13 : decode MX12_wasRight.2.1 13 = .ok (.getfield 115, 3) := by decide +kernel
theorem dX12_wasRight_16 : decode MX12_wasRight.2.1 16 = .ok (.invokevirtual 137, 3) := by decide +kernel
theorem dX12_wasRight_19 : decode MX12_wasRight.2.1 19 = .ok (.aload_n 0, 1) := by decide +kernel
theorem dX12_wasRight_20 : decode MX12_wasRight.2.1 20 = .ok (.invokevirtual 125, 3) := by decide +kernel
theorem dX12_wasRight_23 : decode MX12_wasRight.2.1 23 = .ok (.ireturn, 1) := by decide +kernel
theorem dX12_people_0 : decode MX12_people.2.1 0 = .ok (.aload_n 0, 1) := by decide +kernel
theorem dX12_people_1 : decode MX12_people.2.1 1 = .ok (.iconst 0, 1) := by decide +kernel
theorem dX12_people_2 : decode MX12_people.2.1 2 = .ok (.putfield 85, 3) := by decide +kernel
theorem dX12_people_5 : decode MX12_people.2.1 5 = .ok (.aload_n 0, 1) := by decide +kernel
theorem dX12_people_6 : decode MX12_people.2.1 6 = .ok (.bipush 47, 2) := by decide +kernel
theorem dX12_people_8 : decode MX12_people.2.1 8 = .ok (.invokevirtual 145, 3) := by decide +kernel
theorem dX12_people_11 : decode MX12_people.2.1 11 = .ok (.aload_n 0, 1) := by decide +kernel
theorem dX12_people_12 : decode MX12_people.2.1 12 = .ok (.getfield 109, 3) := by decide +kernel
theorem dX12_people_15 : decode MX12_people.2.1 15 = .ok (.ifCond .ne 5, 3) := by decide +kernel
theorem dX12_people_18 : decode MX12_people.2.1 18 = .ok (.iconst 0, 1) := by decide +kernel
theorem dX12_people_19 : decode MX12_people.2.1 19 = .ok (.ireturn, 1) := by decide +kernel
theorem dX12_people_20 : decode MX12_people.2.1 20 = .ok (.iconst 0, 1) := by decide +kernel
theorem dX12_people_21 : decode MX12_people.2.1 21 = .ok (.istore_n 1, 1) := by decide +kernel
theorem dX12_people_22 : decode MX12_people.2.1 22 = .ok (.iconst 1, 1) := by decide +kernel
theorem dX12_people_23 : decode MX12_people.2.1 23 = .ok (.istore_n 2, 1) := by decide +kernel
theorem dX12_people_24 : decode MX12_people.2.1 24 = .ok (.iload_n 2, 1) := by decide +kernel
theorem dX12_people_25 : decode MX12_people.2.1 25 = .ok (.ifCond .eq 78, 3) := by decide +kernel
theorem dX12_people_28 : decode MX12_people.2.1 28 = .ok (.aload_n 0, 1) := by decide +kernel
theorem dX12_people_29 : decode MX12_people.2.1 29 = .ok (.invokevirtual 125, 3) := by decide +kernel
theorem dX12_people_32 : decode MX12_people.2.1 32 = .ok (.ifCond .eq 71, 3) := by decide +kernel
theorem dX12_people_35 : decode MX12_people.2.1 35 = .ok (.aload_n 0, 1) := by decide +kernel
theorem dX12_people_36 : decode MX12_people.2.1 36 = .ok (.getfield 92, 3) := by decide +kernel
theorem dX12_people_39 : decode MX12_people.2.1 39 = .ok (.iload_n 1, 1) := by decide +kernel
theorem dX12_people_40 : decode MX12_people.2.1 40 = .ok (.iadd, 1) := by decide +kernel
theorem dX12_people_41 : decode MX12_people.2.1 41 = .ok (.bipush 6, 2) := by decide +kernel
theorem dX12_people_43 : decode MX12_people.2.1 43 = .ok (.if_icmp .ne 14, 3) := by decide +kernel
theorem dX12_people_46 : decode MX12_people.2.1 46 = .ok (.aload_n 0, 1) := by decide +kernel
theorem dX12_people_47 : decode MX12_people.2.1 47 = .ok (.aload_n 0, 1) := by decide +kernel
theorem dX12_people_48 : decode MX12_people.2.1 48 = .ok (.getfield 115, 3) := by decide +kernel
theorem dX12_people_51 : decode MX12_people.2.1 51 = .ok (.invokevirtual 137, 3) := by decide +kernel
theorem dX12_people_54 : decode MX12_people.2.1 54 = .ok (.goto 36, 3) := by decide +kernel
theorem dX12_people_57 : decode MX12_people.2.1 57 = .ok (.iconst 0, 1) := by decide +kernel
theorem dX12_people_58 : decode MX12_people.2.1 58 = .ok (.istore_n 3, 1) := by decide +kernel
theorem dX12_people_59 : decode MX12_people.2.1 59 = .ok (.iload_n 3, 1) := by decide +kernel
theorem dX12_people_60 : decode MX12_people.2.1 60 = .ok (.bipush 6, 2) := by decide +kernel
theorem dX12_people_62 : decode MX12_people.2.1 62 = .ok (.if_icmp .gt 28, 3) := by decide +kernel
theorem dX12_people_65 : decode MX12_people.2.1 65 = .ok (.aload_n 0, 1) := by decide +kernel
theorem dX12_people_66 : decode MX12_people.2.1 66 = .ok (.getfield 21, 3) := by decide +kernel
theorem dX12_people_69 : decode MX12_people.2.1 69 = .ok (.bipush 7, 2) := by decide +kernel
theorem dX12_people_71 : decode MX12_people.2.1 71 = .ok (.iload_n 1, 1) := by decide +kernel
theorem dX12_people_72 : decode MX12_people.2.1 72 = .ok (.imul, 1) := by decide +kernel
theorem dX12_people_73 : decode MX12_people.2.1 73 = .ok (.iload_n 3, 1) := by decide +kernel
theorem dX12_people_74 : decode MX12_people.2.1 74 = .ok (.iadd, 1) := by decide +kernel
theorem dX12_people_75 : decode MX12_people.2.1 75 = .ok (.aload_n 0, 1) := by decide +kernel
theorem dX12_people_76 : decode MX12_people.2.1 76 = .ok (.bipush 48, 2) := by decide +kernel
theorem dX12_people_78 : decode MX12_people.2.1 78 = .ok (.bipush 10, 2) := by decide +kernel
theorem dX12_people_80 : decode MX12_people.2.1 80 = .ok (.invokevirtual 141, 3) := by decide +kernel
theorem dX12_people_83 : decode MX12_people.2.1 83 = .ok (.iastore, 1) := by decide +kernel
theorem dX12_people_84 : decode MX12_people.2.1 84 = .ok (.iinc 3 1, 3) := by decide +kernel
theorem dX12_people_87 : decode MX12_people.2.1 87 = .ok (.goto (-28), 3) := by decide +kernel
theorem dX12_people_90 : decode MX12_people.2.1 90 = .ok (.iinc 1 1, 3) := by decide +kernel
theorem dX12_people_93 : decode MX12_people.2.1 93 = .ok (.aload_n 0, 1) := by decide +kernel
theorem dX12_people_94 : decode MX12_people.2.1 94 = .ok (.bipush 59, 2) := by decide +kernel
theorem dX12_people_96 : decode MX12_people.2.1 96 = .ok (.invokevirtual 133, 3) := by decide +kernel
theorem dX12_people_99 : decode MX12_people.2.1 99 = .ok (.istore_n 2, 1) := by decide +kernel
theorem dX12_people_100 : decode MX12_people.2.1 100 = .ok (.goto (-76), 3) := by decide +kernel
theorem dX12_people_103 : decode MX12_people.2.1 103 = .ok (.aload_n 0, 1) := by decide +kernel
theorem dX12_people_104 : decode MX12_people.2.1 104 = .ok (.invokevirtual 148, 3) := by decide +kernel
theorem dX12_people_107 : decode MX12_people.2.1 107 = .ok (.ifCond .ne 10, 3) := by decide +kernel
theorem dX12_people_110 : decode MX12_people.2.1 110 = .ok (.iconst (-1), 1) := by decide +kernel
theorem dX12_people_111 : decode MX12_people.2.1 111 = .ok (.aload_n 0, 1) := by decide +kernel
theorem dX12_people_112 : decode MX12_people.2.1 112 = .ok (.getfield 118, 3) := by decide +kernel
theorem dX12_people_115 : decode MX12_people.2.1 115 = .ok (.isub, 1) := by decide +kernel
theorem dX12_people_116 : decode MX12_people.2.1 116 = .ok (.ireturn, 1) := by decide +kernel
theorem dX12_people_117 : decode MX12_people.2.1 117 = .ok (.iconst 0, 1) := by decide +kernel
theorem dX12_people_118 : decode MX12_people.2.1 118 = .ok (.istore_n 3, 1) := by decide +kernel
theorem dX12_people_119 : decode MX12_people.2.1 119 = .ok (.iload_n 3, 1) := by decide +kernel
theorem dX12_people_120 : decode MX12_people.2.1 120 = .ok (.iload_n 1, 1) := by decide +kernel
theorem dX12_people_121 : decode MX12_people.2.1 121 = .ok (.if_icmp .ge 173, 3) := by decide +kernel
theorem dX12_people_124 : decode MX12_people.2.1 124 = .ok (.iconst 0, 1) := by decide +kernel
theorem dX12_people_125 : decode MX12_people.2.1 125 = .ok (.istore 4, 2) := by decide +kernel
theorem dX12_people_127 : decode MX12_people.2.1 127 = .ok (.iload 4, 2) := by decide +kernel
theorem dX12_people_129 : decode MX12_people.2.1 129 = .ok (.bipush 6, 2) := by decide +kernel
theorem dX12_people_131 : decode MX12_people.2.1 131 = .ok (.if_icmp .ge 71, 3) := by decide +kernel
theorem dX12_people_134 : decode MX12_people.2.1 134 = .ok (.aload_n 0, 1) := by decide +kernel
theorem dX12_people_135 : decode MX12_people.2.1 135 = .ok (.getfield 9, 3) := by decide +kernel
theorem dX12_people_138 : decode MX12_people.2.1 138 = .ok (.aload_n 0, 1) := by decide +kernel
theorem dX12_people_139 : decode MX12_people.2.1 139 = .ok (.getfield 92, 3) := by decide +kernel
theorem dX12_people_142 : decode MX12_people.2.1 142 = .ok (.iload 4, 2) := by decide +kernel
theorem dX12_people_144 : decode MX12_people.2.1 144 = .ok (.invokestatic 151, 3) := by decide +kernel
theorem dX12_people_147 : decode MX12_people.2.1 147 = .ok (.aload_n 0, 1) := by decide +kernel
theorem dX12_people_148 : decode MX12_people.2.1 148 = .ok (.getfield 21, 3) := by decide +kernel
theorem dX12_people_151 : decode MX12_people.2.1 151 = .ok (.bipush 7, 2) := by decide +kernel
theorem dX12_people_153 : decode MX12_people.2.1 153 = .ok (.iload_n 3, 1) := by decide +kernel
theorem dX12_people_154 : decode MX12_people.2.1 154 = .ok (.imul, 1) := by decide +kernel
theorem dX12_people_155 : decode MX12_people.2.1 155 = .ok (.iload 4, 2) := by decide +kernel
theorem dX12_people_157 : decode MX12_people.2.1 157 = .ok (.iadd, 1) := by decide +kernel
theorem dX12_people_158 : decode MX12_people.2.1 158 = .ok (.iaload, 1) := by decide +kernel
theorem dX12_people_159 : decode MX12_people.2.1 159 = .ok (.iastore, 1) := by decide +kernel
theorem dX12_people_160 : decode MX12_people.2.1 160 = .ok (.aload_n 0, 1) := by decide +kernel
theorem dX12_people_161 : decode MX12_people.2.1 161 = .ok (.getfield 9, 3) := by decide +kernel
theorem dX12_people_164 : decode MX12_people.2.1 164 = .ok (.bipush 66, 2) := by decide +kernel
theorem dX12_people_166 : decode MX12_people.2.1 166 = .ok (.aload_n 0, 1) := by decide +kernel
theorem dX12_people_167 : decode MX12_people.2.1 167 = .ok (.getfield 92, 3) := by decide +kernel
theorem dX12_people_170 : decode MX12_people.2.1 170 = .ok (.iload 4, 2) := by decide +kernel
theorem dX12_people_172 : decode MX12_people.2.1 172 = .ok (.invokestatic 151, 3) := by decide +kernel
theorem dX12_people_175 : decode MX12_people.2.1 175 = .ok (.iadd, 1) := by decide +kernel
theorem dX12_people_176 : decode MX12_people.2.1 176 = .ok (.iconst 0, 1) := by decide +kernel
theorem dX12_people_177 : decode MX12_people.2.1 177 = .ok (.iastore, 1) := by decide +kernel
theorem dX12_people_178 : decode MX12_people.2.1 178 = .ok (.aload_n 0, 1) := by decide +kernel
theorem dX12_people_179 : decode MX12_people.2.1 179 = .ok (.getfield 9, 3) := by decide +kernel
theorem dX12_people_182 : decode MX12_people.2.1 182 = .ok (.bipush 66, 2) := by decide +kernel
theorem dX12_people_184 : decode MX12_people.2.1 184 = .ok (.iload 4, 2) := by decide +kernel
theorem dX12_people_186 : decode MX12_people.2.1 186 = .ok (.aload_n 0, 1) := by decide +kernel
theorem dX12_people_187 : decode MX12_people.2.1 187 = .ok (.getfield 92, 3) := by decide +kernel
theorem dX12_people_190 : decode MX12_people.2.1 190 = .ok (.invokestatic 151, 3) := by decide +kernel
theorem dX12_people_193 : decode MX12_people.2.1 193 = .ok (.iadd, 1) := by decide +kernel
theorem dX12_people_194 : decode MX12_people.2.1 194 = .ok (.iconst 0, 1) := by decide +kernel
theorem dX12_people_195 : decode MX12_people.2.1 195 = .ok (.iastore, 1) := by decide +kernel
theorem dX12_people_196 : decode MX12_people.2.1 196 = .ok (.iinc 4 1, 3) := by decide +kernel
theorem dX12_people_199 : decode MX12_people.2.1 199 = .ok (.goto (-72), 3) := by decide +kernel
theorem dX12_people_202 : decode MX12_people.2.1 202 = .ok (.aload_n 0, 1) := by decide +kernel
theorem dX12_people_203 : decode MX12_people.2.1 203 = .ok (.getfield 9, 3) := by decide +kernel
theorem dX12_people_206 : decode MX12_people.2.1 206 = .ok (.bipush 36, 2) := by decide +kernel
theorem dX12_people_208 : decode MX12_people.2.1 208 = .ok (.aload_n 0, 1) := by decide +kernel
theorem dX12_people_209 : decode MX12_people.2.1 209 = .ok (.getfield 92, 3) := by decide +kernel
theorem dX12_people_212 : decode MX12_people.2.1 212 = .ok (.iadd, 1) := by decide +kernel
theorem dX12_people_213 : decode MX12_people.2.1 213 = .ok (.aload_n 0, 1) := by decide +kernel
theorem dX12_people_214 : decode MX12_people.2.1 214 = .ok (.getfield 21, 3) := by decide +kernel
theorem dX12_people_217 : decode MX12_people.2.1 217 = .ok (.bipush 7, 2) := by decide +kernel
theorem dX12_people_219 : decode MX12_people.2.1 219 = .ok (.iload_n 3, 1) := by decide +kernel
theorem dX12_people_220 : decode MX12_people.2.1 220 = .ok (.imul, 1) := by decide +kernel
theorem dX12_people_221 : decode MX12_people.2.1 221 = .ok (.bipush 6, 2) := by decide +kernel
theorem dX12_people_223 : decode MX12_people.2.1 223 = .ok (.iadd, 1) := by decide +kernel
theorem dX12_people_224 : decode MX12_people.2.1 224 = .ok (.iaload, 1) := by decide +kernel
theorem dX12_people_225 : decode MX12_people.2.1 225 = .ok (.iastore, 1) := by decide +kernel
theorem dX12_people_226 : decode MX12_people.2.1 226 = .ok (.aload_n 0, 1) := by decide +kernel
theorem dX12_people_227 : decode MX12_people.2.1 227 = .ok (.getfield 9, 3) := by decide +kernel
theorem dX12_people_230 : decode MX12_people.2.1 230 = .ok (.bipush 42, 2) := by decide +kernel
theorem dX12_people_232 : decode MX12_people.2.1 232 = .ok (.aload_n 0, 1) := by decide +kernel
theorem dX12_people_233 : decode MX12_people.2.1 233 = .ok (.getfield 92, 3) := by decide +kernel
theorem dX12_people_236 : decode MX12_people.2.1 236 = .ok (.iadd, 1) := by decide +kernel
theorem dX12_people_237 : decode MX12_people.2.1 237 = .ok (.iconst 0, 1) := by decide +kernel
theorem dX12_people_238 : decode MX12_people.2.1 238 = .ok (.iastore, 1) := by decide +kernel
theorem dX12_people_239 : decode MX12_people.2.1 239 = .ok (.aload_n 0, 1) := by decide +kernel
theorem dX12_people_240 : decode MX12_people.2.1 240 = .ok (.getfield 9, 3) := by decide +kernel
theorem dX12_people_243 : decode MX12_people.2.1 243 = .ok (.bipush 48, 2) := by decide +kernel
theorem dX12_people_245 : decode MX12_people.2.1 245 = .ok (.aload_n 0, 1) := by decide +kernel
theorem dX12_people_246 : decode MX12_people.2.1 246 = .ok (.getfield 92, 3) := by decide +kernel
theorem dX12_people_249 : decode MX12_people.2.1 249 = .ok (.iadd, 1) := by decide +kernel
theorem dX12_people_250 : decode MX12_people.2.1 250 = .ok (.iconst 0, 1) := by decide +kernel
theorem dX12_people_251 : decode MX12_people.2.1 251 = .ok (.iastore, 1) := by decide +kernel
theorem dX12_people_252 : decode MX12_people.2.1 252 = .ok (.aload_n 0, 1) := by decide +kernel
theorem dX12_people_253 : decode MX12_people.2.1 253 = .ok (.getfield 9, 3) := by decide +kernel
theorem dX12_people_256 : decode MX12_people.2.1 256 = .ok (.bipush 54, 2) := by decide +kernel
theorem dX12_people_258 : decode MX12_people.2.1 258 = .ok (.aload_n 0, 1) := by decide +kernel
theorem dX12_people_259 : decode MX12_people.2.1 259 = .ok (.getfield 92, 3) := by decide +kernel
theorem dX12_people_262 : decode MX12_people.2.1 262 = .ok (.iadd, 1) := by decide +kernel
theorem dX12_people_263 : decode MX12_people.2.1 263 = .ok (.iconst 0, 1) := by decide +kernel
theorem dX12_people_264 : decode MX12_people.2.1 264 = .ok (.iastore, 1) := by decide +kernel
theorem dX12_people_265 : decode MX12_people.2.1 265 = .ok (.aload_n 0, 1) := by decide +kernel
theorem dX12_people_266 : decode MX12_people.2.1 266 = .ok (.getfield 9, 3) := by decide +kernel
theorem dX12_people_269 : decode MX12_people.2.1 269 = .ok (.bipush 60, 2) := by decide +kernel
theorem dX12_people_271 : decode MX12_people.2.1 271 = .ok (.aload_n 0, 1) := by decide +kernel
theorem dX12_people_272 : decode MX12_people.2.1 272 = .ok (.getfield 92, 3) := by decide +kernel
theorem dX12_people_275 : decode MX12_people.2.1 275 = .ok (.iadd, 1) := by decide +kernel
theorem dX12_people_276 : decode MX12_people.2.1 276 = .ok (.iconst 0, 1) := by decide +kernel
theorem dX12_people_277 : decode MX12_people.2.1 277 = .ok (.iastore, 1) := by decide +kernel
theorem dX12_people_278 : decode MX12_people.2.1 278 = .ok (.aload_n 0, 1) := by decide +kernel
theorem dX12_people_279 : decode MX12_people.2.1 279 = .ok (.dup, 1) := by decide +kernel
theorem dX12_people_280 : decode MX12_people.2.1 280 = .ok (.getfield 92, 3) := by decide +kernel
theorem dX12_people_283 : decode MX12_people.2.1 283 = .ok (.iconst 1, 1) := by decide +kernel
theorem dX12_people_284 : decode MX12_people.2.1 284 = .ok (.iadd, 1) := by decide +kernel
theorem dX12_people_285 : decode MX12_people.2.1 285 = .ok (.putfield 92, 3) := by decide +kernel
theorem dX12_people_288 : decode MX12_people.2.1 288 = .ok (.iinc 3 1, 3) := by decide +kernel
theorem dX12_people_291 : decode MX12_people.2.1 291 = .ok (.goto (-172), 3) := by decide +kernel
theorem dX12_people_294 : decode MX12_people.2.1 294 = .ok (.aload_n 0, 1) := by decide +kernel
theorem dX12_people_295 : decode MX12_people.2.1 295 = .ok (.iconst 0, 1) := by decide +kernel
theorem dX12_people_296 : decode MX12_people.2.1 296 = .ok (.putfield 155, 3) := by decide +kernel
theorem dX12_people_299 : decode MX12_people.2.1 299 = .ok (.aload_n 0, 1) := by decide +kernel
theorem dX12_people_300 : decode MX12_people.2.1 300 = .ok (.dup, 1) := by decide +kernel
theorem dX12_people_301 : decode MX12_people.2.1 301 = .ok (.getfield 158, 3) := by decide +kernel
theorem dX12_people_304 : decode MX12_people.2.1 304 = .ok (.iconst 1, 1) := by decide +kernel
theorem dX12_people_305 : decode MX12_people.2.1 305 = .ok (.iadd, 1) := by decide +kernel
theorem dX12_people_306 : decode MX12_people.2.1 306 = .ok (.putfield 158, 3) := by decide +kernel
theorem dX12_people_309 : decode MX12_people.2.1 309 = .ok (.iload_n 1, 1) := by decide +kernel
theorem dX12_people_310 : decode MX12_people.2.1 310 = .ok (.ireturn, 1) := by decide +kernel
theorem dX12_held_0 : decode MX12_held.2.1 0 = .ok (.aload_n 0, 1) := by decide +kernel
theorem dX12_held_1 : decode MX12_held.2.1 1 = .ok (.iload_n 1, 1) := by decide +kernel
theorem dX12_held_2 : decode MX12_held.2.1 2 = .ok (.invokevirtual 161, 3) := by decide +kernel
theorem dX12_held_5 : decode MX12_held.2.1 5 = .ok (.istore_n 2, 1) := by decide +kernel
theorem dX12_held_6 : decode MX12_held.2.1 6 = .ok (.aload_n 0, 1) := by decide +kernel
theorem dX12_held_7 : decode MX12_held.2.1 7 = .ok (.bipush 60, 2) := by decide +kernel
theorem dX12_held_9 : decode MX12_held.2.1 9 = .ok (.invokevirtual 133, 3) := by decide +kernel
theorem dX12_held_12 : decode MX12_held.2.1 12 = .ok (.ifCond .eq 18, 3) := by decide +kernel
theorem dX12_held_15 : decode MX12_held.2.1 15 = .ok (.iload_n 2, 1) := by decide +kernel
theorem dX12_held_16 : decode MX12_held.2.1 16 = .ok (.aload_n 0, 1) := by decide +kernel
theorem dX12_held_17 : decode MX12_held.2.1 17 = .ok (.iload_n 1, 1) := by decide +kernel
theorem dX12_held_18 : decode MX12_held.2.1 18 = .ok (.invokevirtual 161, 3) := by decide +kernel
theorem dX12_held_21 : decode MX12_held.2.1 21 = .ok (.if_icmp .ge 7, 3) := by decide +kernel
theorem dX12_held_24 : decode MX12_held.2.1 24 = .ok (.iconst 1, 1) := by decide +kernel
theorem dX12_held_25 : decode MX12_held.2.1 25 = .ok (.goto 4, 3) := by decide +kernel
theorem dX12_held_28 : decode MX12_held.2.1 28 = .ok (.iconst 0, 1) := by decide +kernel
theorem dX12_held_29 : decode MX12_held.2.1 29 = .ok (.ireturn, 1) := by decide +kernel
theorem dX12_held_30 : decode MX12_held.2.1 30 = .ok (.aload_n 0, 1) := by decide +kernel
theorem dX12_held_31 : decode MX12_held.2.1 31 = .ok (.bipush 62, 2) := by decide +kernel
theorem dX12_held_33 : decode MX12_held.2.1 33 = .ok (.invokevirtual 133, 3) := by decide +kernel
theorem dX12_held_36 : decode MX12_held.2.1 36 = .ok (.ifCond .eq 18, 3) := by decide +kernel
theorem dX12_held_39 : decode MX12_held.2.1 39 = .ok (.iload_n 2, 1) := by decide +kernel
theorem dX12_held_40 : decode MX12_held.2.1 40 = .ok (.aload_n 0, 1) := by decide +kernel
theorem dX12_held_41 : decode MX12_held.2.1 41 = .ok (.iload_n 1, 1) := by decide +kernel
theorem dX12_held_42 : decode MX12_held.2.1 42 = .ok (.invokevirtual 161, 3) := by decide +kernel
theorem dX12_held_45 : decode MX12_held.2.1 45 = .ok (.if_icmp .le 7, 3) := by decide +kernel
theorem dX12_held_48 : decode MX12_held.2.1 48 = .ok (.iconst 1, 1) := by decide +kernel
theorem dX12_held_49 : decode MX12_held.2.1 49 = .ok (.goto 4, 3) := by decide +kernel
theorem dX12_held_52 : decode MX12_held.2.1 52 = .ok (.iconst 0, 1) := by decide +kernel
theorem dX12_held_53 : decode MX12_held.2.1 53 = .ok (.ireturn, 1) := by decide +kernel
theorem dX12_held_54 : decode MX12_held.2.1 54 = .ok (.aload_n 0, 1) := by decide +kernel
theorem dX12_held_55 : decode MX12_held.2.1 55 = .ok (.bipush 61, 2) := by decide +kernel
theorem dX12_held_57 : decode MX12_held.2.1 57 = .ok (.invokevirtual 133, 3) := by decide +kernel
theorem dX12_held_60 : decode MX12_held.2.1 60 = .ok (.ifCond .eq 18, 3) := by decide +kernel
theorem dX12_held_63 : decode MX12_held.2.1 63 = .ok (.iload_n 2, 1) := by decide +kernel
theorem dX12_held_64 : decode MX12_held.2.1 64 = .ok (.aload_n 0, 1) := by decide +kernel
theorem dX12_held_65 : decode MX12_held.2.1 65 = .ok (.iload_n 1, 1) := by decide +kernel
theorem dX12_held_66 : decode MX12_held.2.1 66 = .ok (.invokevirtual 161, 3) := by decide +kernel
theorem dX12_held_69 : decode MX12_held.2.1 69 = .ok (.if_icmp .ne 7, 3) := by decide +kernel
theorem dX12_held_72 : decode MX12_held.2.1 72 = .ok (.iconst 1, 1) := by decide +kernel
theorem dX12_held_73 : decode MX12_held.2.1 73 = .ok (.goto 4, 3) := by decide +kernel
theorem dX12_held_76 : decode MX12_held.2.1 76 = .ok (.iconst 0, 1) := by decide +kernel
theorem dX12_held_77 : decode MX12_held.2.1 77 = .ok (.ireturn, 1) := by decide +kernel
theorem dX12_held_78 : decode MX12_held.2.1 78 = .ok (.iload_n 2, 1) := by decide +kernel
theorem dX12_held_79 : decode MX12_held.2.1 79 = .ok (.ireturn, 1) := by decide +kernel
theorem dX12_sum_0 : decode MX12_sum.2.1 0 = .ok (.aload_n 0, 1) := by decide +kernel
theorem dX12_sum_1 : decode MX12_sum.2.1 1 = .ok (.iload_n 1, 1) := by decide +kernel
theorem dX12_sum_2 : decode MX12_sum.2.1 2 = .ok (.invokevirtual 165, 3) := by decide +kernel
theorem dX12_sum_5 : decode MX12_sum.2.1 5 = .ok (.istore_n 2, 1) := by decide +kernel
theorem dX12_sum_6 : decode MX12_sum.2.1 6 = .ok (.aload_n 0, 1) := by decide +kernel
theorem dX12_sum_7 : decode MX12_sum.2.1 7 = .ok (.invokevirtual 125, 3) := by decide +kernel
theorem dX12_sum_10 : decode MX12_sum.2.1 10 = .ok (.ifCond .eq 72, 3) := by decide +kernel
theorem dX12_sum_13 : decode MX12_sum.2.1 13 = .ok (.aload_n 0, 1) := by decide +kernel
theorem dX12_sum_14 : decode MX12_sum.2.1 14 = .ok (.invokevirtual 129, 3) := by decide +kernel
theorem dX12_sum_17 : decode MX12_sum.2.1 17 = .ok (.bipush 43, 2) := by decide +kernel
theorem dX12_sum_19 : decode MX12_sum.2.1 19 = .ok (.if_icmp .eq 12, 3) := by decide +kernel
theorem dX12_sum_22 : decode MX12_sum.2.1 22 = .ok (.aload_n 0, 1) := by decide +kernel
theorem dX12_sum_23 : decode MX12_sum.2.1 23 = .ok (.invokevirtual 129, 3) := by decide +kernel
theorem dX12_sum_26 : decode MX12_sum.2.1 26 = .ok (.bipush 45, 2) := by decide +kernel
theorem dX12_sum_28 : decode MX12_sum.2.1 28 = .ok (.if_icmp .ne 54, 3) := by decide +kernel
theorem dX12_sum_31 : decode MX12_sum.2.1 31 = .ok (.aload_n 0, 1) := by decide +kernel
theorem dX12_sum_32 : decode MX12_sum.2.1 32 = .ok (.invokevirtual 129, 3) := by decide +kernel
theorem dX12_sum_35 : decode MX12_sum.2.1 35 = .ok (.bipush 43, 2) := by decide +kernel
theorem dX12_sum_37 : decode MX12_sum.2.1 37 = .ok (.if_icmp .ne 7, 3) := by decide +kernel
theorem dX12_sum_40 : decode MX12_sum.2.1 40 = .ok (.iconst 1, 1) := by decide +kernel
theorem dX12_sum_41 : decode MX12_sum.2.1 41 = .ok (.goto 4, 3) := by decide +kernel
theorem dX12_sum_44 : decode MX12_sum.2.1 44 = .ok (.iconst 0, 1) := by decide +kernel
theorem dX12_sum_45 : decode MX12_sum.2.1 45 = .ok (.istore_n 3, 1) := by decide +kernel
theorem dX12_sum_46 : decode MX12_sum.2.1 46 = .ok (.aload_n 0, 1) := by decide +kernel
theorem dX12_sum_47 : decode MX12_sum.2.1 47 = .ok (.dup, 1) := by decide +kernel
theorem dX12_sum_48 : decode MX12_sum.2.1 48 = .ok (.getfield 115, 3) := by decide +kernel
theorem dX12_sum_51 : decode MX12_sum.2.1 51 = .ok (.iconst 1, 1) := by decide +kernel
theorem dX12_sum_52 : decode MX12_sum.2.1 52 = .ok (.iadd, 1) := by decide +kernel
theorem dX12_sum_53 : decode MX12_sum.2.1 53 = .ok (.putfield 115, 3) := by decide +kernel
theorem dX12_sum_56 : decode MX12_sum.2.1 56 = .ok (.aload_n 0, 1) := by decide +kernel
theorem dX12_sum_57 : decode MX12_sum.2.1 57 = .ok (.iload_n 1, 1) := by decide +kernel
theorem dX12_sum_58 : decode MX12_sum.2.1 58 = .ok (.invokevirtual 165, 3) := by decide +kernel
theorem dX12_sum_61 : decode MX12_sum.2.1 61 = .ok (.istore 4, 2) := by decide +kernel
theorem dX12_sum_63 : decode MX12_sum.2.1 63 = .ok (.iload_n 3, 1) := by decide +kernel
theorem dX12_sum_64 : decode MX12_sum.2.1 64 = .ok (.ifCond .eq 10, 3) := by decide +kernel
theorem dX12_sum_67 : decode MX12_sum.2.1 67 = .ok (.iload_n 2, 1) := by decide +kernel
theorem dX12_sum_68 : decode MX12_sum.2.1 68 = .ok (.iload 4, 2) := by decide +kernel
theorem dX12_sum_70 : decode MX12_sum.2.1 70 = .ok (.iadd, 1) := by decide +kernel
theorem dX12_sum_71 : decode MX12_sum.2.1 71 = .ok (.goto 7, 3) := by decide +kernel
theorem dX12_sum_74 : decode MX12_sum.2.1 74 = .ok (.iload_n 2, 1) := by decide +kernel
theorem dX12_sum_75 : decode MX12_sum.2.1 75 = .ok (.iload 4, 2) := by decide +kernel
theorem dX12_sum_77 : decode MX12_sum.2.1 77 = .ok (.isub, 1) := by decide +kernel
theorem dX12_sum_78 : decode MX12_sum.2.1 78 = .ok (.istore_n 2, 1) := by decide +kernel
theorem dX12_sum_79 : decode MX12_sum.2.1 79 = .ok (.goto (-73), 3) := by decide +kernel
theorem dX12_sum_82 : decode MX12_sum.2.1 82 = .ok (.iload_n 2, 1) := by decide +kernel
theorem dX12_sum_83 : decode MX12_sum.2.1 83 = .ok (.ireturn, 1) := by decide +kernel
theorem dX12_product_0 : decode MX12_product.2.1 0 = .ok (.aload_n 0, 1) := by decide +kernel
theorem dX12_product_1 : decode MX12_product.2.1 1 = .ok (.iload_n 1, 1) := by decide +kernel
theorem dX12_product_2 : decode MX12_product.2.1 2 = .ok (.invokevirtual 168, 3) := by decide +kernel
theorem dX12_product_5 : decode MX12_product.2.1 5 = .ok (.istore_n 2, 1) := by decide +kernel
theorem dX12_product_6 : decode MX12_product.2.1 6 = .ok (.aload_n 0, 1) := by decide +kernel
theorem dX12_product_7 : decode MX12_product.2.1 7 = .ok (.invokevirtual 125, 3) := by decide +kernel
theorem dX12_product_10 : decode MX12_product.2.1 10 = .ok (.ifCond .eq 81, 3) := by decide +kernel
theorem dX12_product_13 : decode MX12_product.2.1 13 = .ok (.aload_n 0, 1) := by decide +kernel
theorem dX12_product_14 : decode MX12_product.2.1 14 = .ok (.invokevirtual 129, 3) := by decide +kernel
theorem dX12_product_17 : decode MX12_product.2.1 17 = .ok (.bipush 42, 2) := by decide +kernel
theorem dX12_product_19 : decode MX12_product.2.1 19 = .ok (.if_icmp .eq 12, 3) := by decide +kernel
theorem dX12_product_22 : decode MX12_product.2.1 22 = .ok (.aload_n 0, 1) := by decide +kernel
theorem dX12_product_23 : decode MX12_product.2.1 23 = .ok (.invokevirtual 129, 3) := by decide +kernel
theorem dX12_product_26 : decode MX12_product.2.1 26 = .ok (.bipush 47, 2) := by decide +kernel
theorem dX12_product_28 : decode MX12_product.2.1 28 = .ok (.if_icmp .ne 63, 3) := by decide +kernel
theorem dX12_product_31 : decode MX12_product.2.1 31 = .ok (.aload_n 0, 1) := by decide +kernel
theorem dX12_product_32 : decode MX12_product.2.1 32 = .ok (.invokevirtual 129, 3) := by decide +kernel
theorem dX12_product_35 : decode MX12_product.2.1 35 = .ok (.bipush 42, 2) := by decide +kernel
theorem dX12_product_37 : decode MX12_product.2.1 37 = .ok (.if_icmp .ne 7, 3) := by decide +kernel
theorem dX12_product_40 : decode MX12_product.2.1 40 = .ok (.iconst 1, 1) := by decide +kernel
theorem dX12_product_41 : decode MX12_product.2.1 41 = .ok (.goto 4, 3) := by decide +kernel
theorem dX12_product_44 : decode MX12_product.2.1 44 = .ok (.iconst 0, 1) := by decide +kernel
theorem dX12_product_45 : decode MX12_product.2.1 45 = .ok (.istore_n 3, 1) := by decide +kernel
theorem dX12_product_46 : decode MX12_product.2.1 46 = .ok (.aload_n 0, 1) := by decide +kernel
theorem dX12_product_47 : decode MX12_product.2.1 47 = .ok (.dup, 1) := by decide +kernel
theorem dX12_product_48 : decode MX12_product.2.1 48 = .ok (.getfield 115, 3) := by decide +kernel
theorem dX12_product_51 : decode MX12_product.2.1 51 = .ok (.iconst 1, 1) := by decide +kernel
theorem dX12_product_52 : decode MX12_product.2.1 52 = .ok (.iadd, 1) := by decide +kernel
theorem dX12_product_53 : decode MX12_product.2.1 53 = .ok (.putfield 115, 3) := by decide +kernel
theorem dX12_product_56 : decode MX12_product.2.1 56 = .ok (.aload_n 0, 1) := by decide +kernel
theorem dX12_product_57 : decode MX12_product.2.1 57 = .ok (.iload_n 1, 1) := by decide +kernel
theorem dX12_product_58 : decode MX12_product.2.1 58 = .ok (.invokevirtual 168, 3) := by decide +kernel
theorem dX12_product_61 : decode MX12_product.2.1 61 = .ok (.istore 4, 2) := by decide +kernel
theorem dX12_product_63 : decode MX12_product.2.1 63 = .ok (.iload_n 3, 1) := by decide +kernel
theorem dX12_product_64 : decode MX12_product.2.1 64 = .ok (.ifCond .eq 10, 3) := by decide +kernel
theorem dX12_product_67 : decode MX12_product.2.1 67 = .ok (.iload_n 2, 1) := by decide +kernel
theorem dX12_product_68 : decode MX12_product.2.1 68 = .ok (.iload 4, 2) := by decide +kernel
theorem dX12_product_70 : decode MX12_product.2.1 70 = .ok (.imul, 1) := by decide +kernel
theorem dX12_product_71 : decode MX12_product.2.1 71 = .ok (.goto 16, 3) := by decide +kernel
theorem dX12_product_74 : decode MX12_product.2.1 74 = .ok (.iload 4, 2) := by decide +kernel
theorem dX12_product_76 : decode MX12_product.2.1 76 = .ok (.ifCond .ne 7, 3) := by decide +kernel
theorem dX12_product_79 : decode MX12_product.2.1 79 = .ok (.iconst 0, 1) := by decide +kernel
theorem dX12_product_80 : decode MX12_product.2.1 80 = .ok (.goto 7, 3) := by decide +kernel
theorem dX12_product_83 : decode MX12_product.2.1 83 = .ok (.iload_n 2, 1) := by decide +kernel
theorem dX12_product_84 : decode MX12_product.2.1 84 = .ok (.iload 4, 2) := by decide +kernel
theorem dX12_product_86 : decode MX12_product.2.1 86 = .ok (.idiv, 1) := by decide +kernel
theorem dX12_product_87 : decode MX12_product.2.1 87 = .ok (.istore_n 2, 1) := by decide +kernel
theorem dX12_product_88 : decode MX12_product.2.1 88 = .ok (.goto (-82), 3) := by decide +kernel
theorem dX12_product_91 : decode MX12_product.2.1 91 = .ok (.iload_n 2, 1) := by decide +kernel
theorem dX12_product_92 : decode MX12_product.2.1 92 = .ok (.ireturn, 1) := by decide +kernel
theorem dX12_letterOf_0 : decode MX12_letterOf.2.1 0 = .ok (.iload_n 0, 1) := by decide +kernel
theorem dX12_letterOf_1 : decode MX12_letterOf.2.1 1 = .ok (.bipush 111, 2) := by decide +kernel
theorem dX12_letterOf_3 : decode MX12_letterOf.2.1 3 = .ok (.if_icmp .ne 7, 3) := by decide +kernel
theorem dX12_letterOf_6 : decode MX12_letterOf.2.1 6 = .ok (.iconst 0, 1) := by decide +kernel
theorem dX12_letterOf_7 : decode MX12_letterOf.2.1 7 = .ok (.goto 54, 3) := by decide +kernel
theorem dX12_letterOf_10 : decode MX12_letterOf.2.1 10 = .ok (.iload_n 0, 1) := by decide +kernel
theorem dX12_letterOf_11 : decode MX12_letterOf.2.1 11 = .ok (.bipush 100, 2) := by decide +kernel
theorem dX12_letterOf_13 : decode MX12_letterOf.2.1 13 = .ok (.if_icmp .ne 7, 3) := by decide +kernel
theorem dX12_letterOf_16 : decode MX12_letterOf.2.1 16 = .ok (.iconst 1, 1) := by decide +kernel
theorem dX12_letterOf_17 : decode MX12_letterOf.2.1 17 = .ok (.goto 44, 3) := by decide +kernel
theorem dX12_letterOf_20 : decode MX12_letterOf.2.1 20 = .ok (.iload_n 0, 1) := by decide +kernel
theorem dX12_letterOf_21 : decode MX12_letterOf.2.1 21 = .ok (.bipush 116, 2) := by decide +kernel
theorem dX12_letterOf_23 : decode MX12_letterOf.2.1 23 = .ok (.if_icmp .ne 7, 3) := by decide +kernel
theorem dX12_letterOf_26 : decode MX12_letterOf.2.1 26 = .ok (.iconst 2, 1) := by decide +kernel
theorem dX12_letterOf_27 : decode MX12_letterOf.2.1 27 = .ok (.goto 34, 3) := by decide +kernel
theorem dX12_letterOf_30 : decode MX12_letterOf.2.1 30 = .ok (.iload_n 0, 1) := by decide +kernel
theorem dX12_letterOf_31 : decode MX12_letterOf.2.1 31 = .ok (.bipush 101, 2) := by decide +kernel
theorem dX12_letterOf_33 : decode MX12_letterOf.2.1 33 = .ok (.if_icmp .ne 7, 3) := by decide +kernel
theorem dX12_letterOf_36 : decode MX12_letterOf.2.1 36 = .ok (.iconst 3, 1) := by decide +kernel
theorem dX12_letterOf_37 : decode MX12_letterOf.2.1 37 = .ok (.goto 24, 3) := by decide +kernel
theorem dX12_letterOf_40 : decode MX12_letterOf.2.1 40 = .ok (.iload_n 0, 1) := by decide +kernel
theorem dX12_letterOf_41 : decode MX12_letterOf.2.1 41 = .ok (.bipush 102, 2) := by decide +kernel
theorem dX12_letterOf_43 : decode MX12_letterOf.2.1 43 = .ok (.if_icmp .ne 7, 3) := by decide +kernel
theorem dX12_letterOf_46 : decode MX12_letterOf.2.1 46 = .ok (.iconst 4, 1) := by decide +kernel
theorem dX12_letterOf_47 : decode MX12_letterOf.2.1 47 = .ok (.goto 14, 3) := by decide +kernel
theorem dX12_letterOf_50 : decode MX12_letterOf.2.1 50 = .ok (.iload_n 0, 1) := by decide +kernel
theorem dX12_letterOf_51 : decode MX12_letterOf.2.1 51 = .ok (.bipush 110, 2) := by decide +kernel
theorem dX12_letterOf_53 : decode MX12_letterOf.2.1 53 = .ok (.if_icmp .ne 7, 3) := by decide +kernel
theorem dX12_letterOf_56 : decode MX12_letterOf.2.1 56 = .ok (.iconst 5, 1) := by decide +kernel
theorem dX12_letterOf_57 : decode MX12_letterOf.2.1 57 = .ok (.goto 4, 3) := by decide +kernel
theorem dX12_letterOf_60 : decode MX12_letterOf.2.1 60 = .ok (.iconst (-1), 1) := by decide +kernel
theorem dX12_letterOf_61 : decode MX12_letterOf.2.1 61 = .ok (.ireturn, 1) := by decide +kernel
theorem dX12_thing_0 : decode MX12_thing.2.1 0 = .ok (.aload_n 0, 1) := by decide +kernel
theorem dX12_thing_1 : decode MX12_thing.2.1 1 = .ok (.bipush 45, 2) := by decide +kernel
theorem dX12_thing_3 : decode MX12_thing.2.1 3 = .ok (.invokevirtual 133, 3) := by decide +kernel
theorem dX12_thing_6 : decode MX12_thing.2.1 6 = .ok (.ifCond .eq 10, 3) := by decide +kernel
theorem dX12_thing_9 : decode MX12_thing.2.1 9 = .ok (.aload_n 0, 1) := by decide +kernel
theorem dX12_thing_10 : decode MX12_thing.2.1 10 = .ok (.iload_n 1, 1) := by decide +kernel
theorem dX12_thing_11 : decode MX12_thing.2.1 11 = .ok (.invokevirtual 168, 3) := by decide +kernel
theorem dX12_thing_14 : decode MX12_thing.2.1 14 = .ok (.ineg, 1) := by decide +kernel
theorem dX12_thing_15 : decode MX12_thing.2.1 15 = .ok (.ireturn, 1) := by decide +kernel
theorem dX12_thing_16 : decode MX12_thing.2.1 16 = .ok (.aload_n 0, 1) := by decide +kernel
theorem dX12_thing_17 : decode MX12_thing.2.1 17 = .ok (.invokevirtual 125, 3) := by decide +kernel
theorem dX12_thing_20 : decode MX12_thing.2.1 20 = .ok (.ifCond .ne 5, 3) := by decide +kernel
theorem dX12_thing_23 : decode MX12_thing.2.1 23 = .ok (.iconst 0, 1) := by decide +kernel
theorem dX12_thing_24 : decode MX12_thing.2.1 24 = .ok (.ireturn, 1) := by decide +kernel
theorem dX12_thing_25 : decode MX12_thing.2.1 25 = .ok (.aload_n 0, 1) := by decide +kernel
theorem dX12_thing_26 : decode MX12_thing.2.1 26 = .ok (.invokevirtual 129, 3) := by decide +kernel
theorem dX12_thing_29 : decode MX12_thing.2.1 29 = .ok (.istore_n 2, 1) := by decide +kernel
theorem dX12_thing_30 : decode MX12_thing.2.1 30 = .ok (.iload_n 2, 1) := by decide +kernel
theorem dX12_thing_31 : decode MX12_thing.2.1 31 = .ok (.bipush 40, 2) := by decide +kernel
theorem dX12_thing_33 : decode MX12_thing.2.1 33 = .ok (.if_icmp .ne 34, 3) := by decide +kernel
theorem dX12_thing_36 : decode MX12_thing.2.1 36 = .ok (.iload_n 1, 1) := by decide +kernel
theorem dX12_thing_37 : decode MX12_thing.2.1 37 = .ok (.iconst 4, 1) := by decide +kernel
theorem dX12_thing_38 : decode MX12_thing.2.1 38 = .ok (.if_icmp .ge 29, 3) := by decide +kernel
theorem dX12_thing_41 : decode MX12_thing.2.1 41 = .ok (.aload_n 0, 1) := by decide +kernel
theorem dX12_thing_42 : decode MX12_thing.2.1 42 = .ok (.dup, 1) := by decide +kernel
theorem dX12_thing_43 : decode MX12_thing.2.1 43 = .ok (.getfield 115, 3) := by decide +kernel
theorem dX12_thing_46 : decode MX12_thing.2.1 46 = .ok (.iconst 1, 1) := by decide +kernel
theorem dX12_thing_47 : decode MX12_thing.2.1 47 = .ok (.iadd, 1) := by decide +kernel
theorem dX12_thing_48 : decode MX12_thing.2.1 48 = .ok (.putfield 115, 3) := by decide +kernel
theorem dX12_thing_51 : decode MX12_thing.2.1 51 = .ok (.aload_n 0, 1) := by decide +kernel
theorem dX12_thing_52 : decode MX12_thing.2.1 52 = .ok (.iload_n 1, 1) := by decide +kernel
theorem dX12_thing_53 : decode MX12_thing.2.1 53 = .ok (.iconst 1, 1) := by decide +kernel
theorem dX12_thing_54 : decode MX12_thing.2.1 54 = .ok (.iadd, 1) := by decide +kernel
theorem dX12_thing_55 : decode MX12_thing.2.1 55 = .ok (.invokevirtual 171, 3) := by decide +kernel
theorem dX12_thing_58 : decode MX12_thing.2.1 58 = .ok (.istore_n 3, 1) := by decide +kernel
theorem dX12_thing_59 : decode MX12_thing.2.1 59 = .ok (.aload_n 0, 1) := by decide +kernel
theorem dX12_thing_60 : decode MX12_thing.2.1 60 = .ok (.bipush 41, 2) := by decide +kernel
theorem dX12_thing_62 : decode MX12_thing.2.1 62 = .ok (.invokevirtual 174, 3) := by decide +kernel
theorem dX12_thing_65 : decode MX12_thing.2.1 65 = .ok (.iload_n 3, 1) := by decide +kernel
theorem dX12_thing_66 : decode MX12_thing.2.1 66 = .ok (.ireturn, 1) := by decide +kernel
theorem dX12_thing_67 : decode MX12_thing.2.1 67 = .ok (.iload_n 2, 1) := by decide +kernel
theorem dX12_thing_68 : decode MX12_thing.2.1 68 = .ok (.bipush 48, 2) := by decide +kernel
theorem dX12_thing_70 : decode MX12_thing.2.1 70 = .ok (.bipush 57, 2) := by decide +kernel
theorem dX12_thing_72 : decode MX12_thing.2.1 72 = .ok (.invokestatic 95, 3) := by decide +kernel
theorem dX12_thing_75 : decode MX12_thing.2.1 75 = .ok (.ifCond .eq 9, 3) := by decide +kernel
theorem dX12_thing_78 : decode MX12_thing.2.1 78 = .ok (.aload_n 0, 1) := by decide +kernel
theorem dX12_thing_79 : decode MX12_thing.2.1 79 = .ok (.iconst 3, 1) := by decide +kernel
theorem dX12_thing_80 : decode MX12_thing.2.1 80 = .ok (.invokevirtual 178, 3) := by decide +kernel
theorem dX12_thing_83 : decode MX12_thing.2.1 83 = .ok (.ireturn, 1) := by decide +kernel
theorem dX12_thing_84 : decode MX12_thing.2.1 84 = .ok (.iload_n 2, 1) := by decide +kernel
theorem dX12_thing_85 : decode MX12_thing.2.1 85 = .ok (.invokestatic 181, 3) := by decide +kernel
theorem dX12_thing_88 : decode MX12_thing.2.1 88 = .ok (.iconst (-1), 1) := by decide +kernel
theorem dX12_thing_89 : decode MX12_thing.2.1 89 = .ok (.if_icmp .ne 13, 3) := by decide +kernel
theorem dX12_thing_92 : decode MX12_thing.2.1 92 = .ok (.aload_n 0, 1) := by decide +kernel
theorem dX12_thing_93 : decode MX12_thing.2.1 93 = .ok (.aload_n 0, 1) := by decide +kernel
theorem dX12_thing_94 : decode MX12_thing.2.1 94 = .ok (.getfield 115, 3) := by decide +kernel
theorem dX12_thing_97 : decode MX12_thing.2.1 97 = .ok (.invokevirtual 137, 3) := by decide +kernel
theorem dX12_thing_100 : decode MX12_thing.2.1 100 = .ok (.iconst 0, 1) := by decide +kernel
theorem dX12_thing_101 : decode MX12_thing.2.1 101 = .ok (.ireturn, 1) := by decide +kernel
theorem dX12_thing_102 : decode MX12_thing.2.1 102 = .ok (.aload_n 0, 1) := by decide +kernel
theorem dX12_thing_103 : decode MX12_thing.2.1 103 = .ok (.dup, 1) := by decide +kernel
theorem dX12_thing_104 : decode MX12_thing.2.1 104 = .ok (.getfield 115, 3) := by decide +kernel
theorem dX12_thing_107 : decode MX12_thing.2.1 107 = .ok (.iconst 1, 1) := by decide +kernel
theorem dX12_thing_108 : decode MX12_thing.2.1 108 = .ok (.iadd, 1) := by decide +kernel
theorem dX12_thing_109 : decode MX12_thing.2.1 109 = .ok (.putfield 115, 3) := by decide +kernel
theorem dX12_thing_112 : decode MX12_thing.2.1 112 = .ok (.aload_n 0, 1) := by decide +kernel
theorem dX12_thing_113 : decode MX12_thing.2.1 113 = .ok (.getfield 184, 3) := by decide +kernel
theorem dX12_thing_116 : decode MX12_thing.2.1 116 = .ok (.ifCond .eq 15, 3) := by decide +kernel
theorem dX12_thing_119 : decode MX12_thing.2.1 119 = .ok (.aload_n 0, 1) := by decide +kernel
theorem dX12_thing_120 : decode MX12_thing.2.1 120 = .ok (.getfield 30, 3) := by decide +kernel
theorem dX12_thing_123 : decode MX12_thing.2.1 123 = .ok (.iload_n 2, 1) := by decide +kernel
theorem dX12_thing_124 : decode MX12_thing.2.1 124 = .ok (.invokestatic 181, 3) := by decide +kernel
theorem dX12_thing_127 : decode MX12_thing.2.1 127 = .ok (.iaload, 1) := by decide +kernel
theorem dX12_thing_128 : decode MX12_thing.2.1 128 = .ok (.goto 4, 3) := by decide +kernel
theorem dX12_thing_131 : decode MX12_thing.2.1 131 = .ok (.iconst 0, 1) := by decide +kernel
theorem dX12_thing_132 : decode MX12_thing.2.1 132 = .ok (.ireturn, 1) := by decide +kernel
theorem dX12_readRule_0 : decode MX12_readRule.2.1 0 = .ok (.aload_n 0, 1) := by decide +kernel
theorem dX12_readRule_1 : decode MX12_readRule.2.1 1 = .ok (.bipush 40, 2) := by decide +kernel
theorem dX12_readRule_3 : decode MX12_readRule.2.1 3 = .ok (.invokevirtual 145, 3) := by decide +kernel
theorem dX12_readRule_6 : decode MX12_readRule.2.1 6 = .ok (.aload_n 0, 1) := by decide +kernel
theorem dX12_readRule_7 : decode MX12_readRule.2.1 7 = .ok (.iconst 0, 1) := by decide +kernel
theorem dX12_readRule_8 : decode MX12_readRule.2.1 8 = .ok (.putfield 184, 3) := by decide +kernel
theorem dX12_readRule_11 : decode MX12_readRule.2.1 11 = .ok (.aload_n 0, 1) := by decide +kernel
theorem dX12_readRule_12 : decode MX12_readRule.2.1 12 = .ok (.getfield 109, 3) := by decide +kernel
theorem dX12_readRule_15 : decode MX12_readRule.2.1 15 = .ok (.ifCond .le 9, 3) := by decide +kernel
theorem dX12_readRule_18 : decode MX12_readRule.2.1 18 = .ok (.aload_n 0, 1) := by decide +kernel
theorem dX12_readRule_19 : decode MX12_readRule.2.1 19 = .ok (.iconst 0, 1) := by decide +kernel
theorem dX12_readRule_20 : decode MX12_readRule.2.1 20 = .ok (.invokevirtual 171, 3) := by decide +kernel
theorem dX12_readRule_23 : decode MX12_readRule.2.1 23 = .ok (.pop, 1) := by decide +kernel
theorem dX12_readRule_24 : decode MX12_readRule.2.1 24 = .ok (.aload_n 0, 1) := by decide +kernel
theorem dX12_readRule_25 : decode MX12_readRule.2.1 25 = .ok (.invokevirtual 148, 3) := by decide +kernel
theorem dX12_readRule_28 : decode MX12_readRule.2.1 28 = .ok (.ireturn, 1) := by decide +kernel
theorem dX12_rule_0 : decode MX12_rule.2.1 0 = .ok (.aload_n 0, 1) := by decide +kernel
theorem dX12_rule_1 : decode MX12_rule.2.1 1 = .ok (.iconst 0, 1) := by decide +kernel
theorem dX12_rule_2 : decode MX12_rule.2.1 2 = .ok (.putfield 85, 3) := by decide +kernel
theorem dX12_rule_5 : decode MX12_rule.2.1 5 = .ok (.aload_n 0, 1) := by decide +kernel
theorem dX12_rule_6 : decode MX12_rule.2.1 6 = .ok (.getfield 103, 3) := by decide +kernel
theorem dX12_rule_9 : decode MX12_rule.2.1 9 = .ok (.istore_n 1, 1) := by decide +kernel
theorem dX12_rule_10 : decode MX12_rule.2.1 10 = .ok (.aload_n 0, 1) := by decide +kernel
theorem dX12_rule_11 : decode MX12_rule.2.1 11 = .ok (.invokevirtual 188, 3) := by decide +kernel
theorem dX12_rule_14 : decode MX12_rule.2.1 14 = .ok (.ifCond .ne 10, 3) := by decide +kernel
theorem dX12_rule_17 : decode MX12_rule.2.1 17 = .ok (.iconst (-1), 1) := by decide +kernel
theorem dX12_rule_18 : decode MX12_rule.2.1 18 = .ok (.aload_n 0, 1) := by decide +kernel
theorem dX12_rule_19 : decode MX12_rule.2.1 19 = .ok (.getfield 118, 3) := by decide +kernel
theorem dX12_rule_22 : decode MX12_rule.2.1 22 = .ok (.isub, 1) := by decide +kernel
theorem dX12_rule_23 : decode MX12_rule.2.1 23 = .ok (.ireturn, 1) := by decide +kernel
theorem dX12_rule_24 : decode MX12_rule.2.1 24 = .ok (.iconst 0, 1) := by decide +kernel
theorem dX12_rule_25 : decode MX12_rule.2.1 25 = .ok (.istore_n 2, 1) := by decide +kernel
theorem dX12_rule_26 : decode MX12_rule.2.1 26 = .ok (.iload_n 2, 1) := by decide +kernel
theorem dX12_rule_27 : decode MX12_rule.2.1 27 = .ok (.iload_n 1, 1) := by decide +kernel
theorem dX12_rule_28 : decode MX12_rule.2.1 28 = .ok (.if_icmp .ge 21, 3) := by decide +kernel
theorem dX12_rule_31 : decode MX12_rule.2.1 31 = .ok (.aload_n 0, 1) := by decide +kernel
theorem dX12_rule_32 : decode MX12_rule.2.1 32 = .ok (.getfield 24, 3) := by decide +kernel
theorem dX12_rule_35 : decode MX12_rule.2.1 35 = .ok (.iload_n 2, 1) := by decide +kernel
theorem dX12_rule_36 : decode MX12_rule.2.1 36 = .ok (.aload_n 0, 1) := by decide +kernel
theorem dX12_rule_37 : decode MX12_rule.2.1 37 = .ok (.getfield 13, 3) := by decide +kernel
theorem dX12_rule_40 : decode MX12_rule.2.1 40 = .ok (.iload_n 2, 1) := by decide +kernel
theorem dX12_rule_41 : decode MX12_rule.2.1 41 = .ok (.baload, 1) := by decide +kernel
theorem dX12_rule_42 : decode MX12_rule.2.1 42 = .ok (.bastore, 1) := by decide +kernel
theorem dX12_rule_43 : decode MX12_rule.2.1 43 = .ok (.iinc 2 1, 3) := by decide +kernel
theorem dX12_rule_46 : decode MX12_rule.2.1 46 = .ok (.goto (-20), 3) := by decide +kernel
theorem dX12_rule_49 : decode MX12_rule.2.1 49 = .ok (.aload_n 0, 1) := by decide +kernel
theorem dX12_rule_50 : decode MX12_rule.2.1 50 = .ok (.iload_n 1, 1) := by decide +kernel
theorem dX12_rule_51 : decode MX12_rule.2.1 51 = .ok (.putfield 191, 3) := by decide +kernel
theorem dX12_rule_54 : decode MX12_rule.2.1 54 = .ok (.iconst 0, 1) := by decide +kernel
theorem dX12_rule_55 : decode MX12_rule.2.1 55 = .ok (.ireturn, 1) := by decide +kernel
theorem dX12_wordsOf_0 : decode MX12_wordsOf.2.1 0 = .ok (.aload_n 1, 1) := by decide +kernel
theorem dX12_wordsOf_1 : decode MX12_wordsOf.2.1 1 = .ok (.iload_n 2, 1) := by decide +kernel
theorem dX12_wordsOf_2 : decode MX12_wordsOf.2.1 2 = .ok (.iload_n 3, 1) := by decide +kernel
theorem dX12_wordsOf_3 : decode MX12_wordsOf.2.1 3 = .ok (.invokestatic 151, 3) := by decide +kernel
theorem dX12_wordsOf_6 : decode MX12_wordsOf.2.1 6 = .ok (.iaload, 1) := by decide +kernel
theorem dX12_wordsOf_7 : decode MX12_wordsOf.2.1 7 = .ok (.istore 4, 2) := by decide +kernel
theorem dX12_wordsOf_9 : decode MX12_wordsOf.2.1 9 = .ok (.aload_n 1, 1) := by decide +kernel
theorem dX12_wordsOf_10 : decode MX12_wordsOf.2.1 10 = .ok (.bipush 54, 2) := by decide +kernel
theorem dX12_wordsOf_12 : decode MX12_wordsOf.2.1 12 = .ok (.iload_n 3, 1) := by decide +kernel
theorem dX12_wordsOf_13 : decode MX12_wordsOf.2.1 13 = .ok (.iadd, 1) := by decide +kernel
theorem dX12_wordsOf_14 : decode MX12_wordsOf.2.1 14 = .ok (.iaload, 1) := by decide +kernel
theorem dX12_wordsOf_15 : decode MX12_wordsOf.2.1 15 = .ok (.ifCond .le 8, 3) := by decide +kernel
theorem dX12_wordsOf_18 : decode MX12_wordsOf.2.1 18 = .ok (.iload 4, 2) := by decide +kernel
theorem dX12_wordsOf_20 : decode MX12_wordsOf.2.1 20 = .ok (.goto 10, 3) := by decide +kernel
theorem dX12_wordsOf_23 : decode MX12_wordsOf.2.1 23 = .ok (.iload 4, 2) := by decide +kernel
theorem dX12_wordsOf_25 : decode MX12_wordsOf.2.1 25 = .ok (.bipush 9, 2) := by decide +kernel
theorem dX12_wordsOf_27 : decode MX12_wordsOf.2.1 27 = .ok (.iadd, 1) := by decide +kernel
theorem dX12_wordsOf_28 : decode MX12_wordsOf.2.1 28 = .ok (.iconst 2, 1) := by decide +kernel
theorem dX12_wordsOf_29 : decode MX12_wordsOf.2.1 29 = .ok (.idiv, 1) := by decide +kernel
theorem dX12_wordsOf_30 : decode MX12_wordsOf.2.1 30 = .ok (.istore 5, 2) := by decide +kernel
theorem dX12_wordsOf_32 : decode MX12_wordsOf.2.1 32 = .ok (.aload_n 0, 1) := by decide +kernel
theorem dX12_wordsOf_33 : decode MX12_wordsOf.2.1 33 = .ok (.getfield 191, 3) := by decide +kernel
theorem dX12_wordsOf_36 : decode MX12_wordsOf.2.1 36 = .ok (.ifCond .le 119, 3) := by decide +kernel
theorem dX12_wordsOf_39 : decode MX12_wordsOf.2.1 39 = .ok (.aload_n 0, 1) := by decide +kernel
theorem dX12_wordsOf_40 : decode MX12_wordsOf.2.1 40 = .ok (.getfield 30, 3) := by decide +kernel
theorem dX12_wordsOf_43 : decode MX12_wordsOf.2.1 43 = .ok (.iconst 0, 1) := by decide +kernel
theorem dX12_wordsOf_44 : decode MX12_wordsOf.2.1 44 = .ok (.iload 4, 2) := by decide +kernel
theorem dX12_wordsOf_46 : decode MX12_wordsOf.2.1 46 = .ok (.iastore, 1) := by decide +kernel
theorem dX12_wordsOf_47 : decode MX12_wordsOf.2.1 47 = .ok (.aload_n 0, 1) := by decide +kernel
theorem dX12_wordsOf_48 : decode MX12_wordsOf.2.1 48 = .ok (.getfield 30, 3) := by decide +kernel
theorem dX12_wordsOf_51 : decode MX12_wordsOf.2.1 51 = .ok (.iconst 1, 1) := by decide +kernel
theorem dX12_wordsOf_52 : decode MX12_wordsOf.2.1 52 = .ok (.aload_n 1, 1) := by decide +kernel
theorem dX12_wordsOf_53 : decode MX12_wordsOf.2.1 53 = .ok (.bipush 54, 2) := by decide +kernel
theorem dX12_wordsOf_55 : decode MX12_wordsOf.2.1 55 = .ok (.iload_n 3, 1) := by decide +kernel
theorem dX12_wordsOf_56 : decode MX12_wordsOf.2.1 56 = .ok (.iadd, 1) := by decide +kernel
theorem dX12_wordsOf_57 : decode MX12_wordsOf.2.1 57 = .ok (.iaload, 1) := by decide +kernel
theorem dX12_wordsOf_58 : decode MX12_wordsOf.2.1 58 = .ok (.ifCond .le 7, 3) := by decide +kernel
theorem dX12_wordsOf_61 : decode MX12_wordsOf.2.1 61 = .ok (.iconst 1, 1) := by decide +kernel
theorem dX12_wordsOf_62 : decode MX12_wordsOf.2.1 62 = .ok (.goto 4, 3) := by decide +kernel
theorem dX12_wordsOf_65 : decode MX12_wordsOf.2.1 65 = .ok (.iconst 0, 1) := by decide +kernel
theorem dX12_wordsOf_66 : decode MX12_wordsOf.2.1 66 = .ok (.iastore, 1) := by decide +kernel
theorem dX12_wordsOf_67 : decode MX12_wordsOf.2.1 67 = .ok (.aload_n 0, 1) := by decide +kernel
theorem dX12_wordsOf_68 : decode MX12_wordsOf.2.1 68 = .ok (.getfield 30, 3) := by decide +kernel
theorem dX12_wordsOf_71 : decode MX12_wordsOf.2.1 71 = .ok (.iconst 2, 1) := by decide +kernel
theorem dX12_wordsOf_72 : decode MX12_wordsOf.2.1 72 = .ok (.aload_n 1, 1) := by decide +kernel
theorem dX12_wordsOf_73 : decode MX12_wordsOf.2.1 73 = .ok (.bipush 48, 2) := by decide +kernel
theorem dX12_wordsOf_75 : decode MX12_wordsOf.2.1 75 = .ok (.iload_n 3, 1) := by decide +kernel
theorem dX12_wordsOf_76 : decode MX12_wordsOf.2.1 76 = .ok (.iadd, 1) := by decide +kernel
theorem dX12_wordsOf_77 : decode MX12_wordsOf.2.1 77 = .ok (.iaload, 1) := by decide +kernel
theorem dX12_wordsOf_78 : decode MX12_wordsOf.2.1 78 = .ok (.iastore, 1) := by decide +kernel
theorem dX12_wordsOf_79 : decode MX12_wordsOf.2.1 79 = .ok (.aload_n 0, 1) := by decide +kernel
theorem dX12_wordsOf_80 : decode MX12_wordsOf.2.1 80 = .ok (.getfield 30, 3) := by decide +kernel
theorem dX12_wordsOf_83 : decode MX12_wordsOf.2.1 83 = .ok (.iconst 3, 1) := by decide +kernel
theorem dX12_wordsOf_84 : decode MX12_wordsOf.2.1 84 = .ok (.aload_n 1, 1) := by decide +kernel
theorem dX12_wordsOf_85 : decode MX12_wordsOf.2.1 85 = .ok (.bipush 66, 2) := by decide +kernel
theorem dX12_wordsOf_87 : decode MX12_wordsOf.2.1 87 = .ok (.iload_n 2, 1) := by decide +kernel
theorem dX12_wordsOf_88 : decode MX12_wordsOf.2.1 88 = .ok (.iload_n 3, 1) := by decide +kernel
theorem dX12_wordsOf_89 : decode MX12_wordsOf.2.1 89 = .ok (.invokestatic 151, 3) := by decide +kernel
theorem dX12_wordsOf_92 : decode MX12_wordsOf.2.1 92 = .ok (.iadd, 1) := by decide +kernel
theorem dX12_wordsOf_93 : decode MX12_wordsOf.2.1 93 = .ok (.iaload, 1) := by decide +kernel
theorem dX12_wordsOf_94 : decode MX12_wordsOf.2.1 94 = .ok (.iastore, 1) := by decide +kernel
theorem dX12_wordsOf_95 : decode MX12_wordsOf.2.1 95 = .ok (.aload_n 0, 1) := by decide +kernel
theorem dX12_wordsOf_96 : decode MX12_wordsOf.2.1 96 = .ok (.getfield 30, 3) := by decide +kernel
theorem dX12_wordsOf_99 : decode MX12_wordsOf.2.1 99 = .ok (.iconst 4, 1) := by decide +kernel
theorem dX12_wordsOf_100 : decode MX12_wordsOf.2.1 100 = .ok (.aload_n 1, 1) := by decide +kernel
theorem dX12_wordsOf_101 : decode MX12_wordsOf.2.1 101 = .ok (.bipush 66, 2) := by decide +kernel
theorem dX12_wordsOf_103 : decode MX12_wordsOf.2.1 103 = .ok (.iload_n 3, 1) := by decide +kernel
theorem dX12_wordsOf_104 : decode MX12_wordsOf.2.1 104 = .ok (.iload_n 2, 1) := by decide +kernel
theorem dX12_wordsOf_105 : decode MX12_wordsOf.2.1 105 = .ok (.invokestatic 151, 3) := by decide +kernel
theorem dX12_wordsOf_108 : decode MX12_wordsOf.2.1 108 = .ok (.iadd, 1) := by decide +kernel
theorem dX12_wordsOf_109 : decode MX12_wordsOf.2.1 109 = .ok (.iaload, 1) := by decide +kernel
theorem dX12_wordsOf_110 : decode MX12_wordsOf.2.1 110 = .ok (.iastore, 1) := by decide +kernel
theorem dX12_wordsOf_111 : decode MX12_wordsOf.2.1 111 = .ok (.aload_n 0, 1) := by decide +kernel
theorem dX12_wordsOf_112 : decode MX12_wordsOf.2.1 112 = .ok (.getfield 30, 3) := by decide +kernel
theorem dX12_wordsOf_115 : decode MX12_wordsOf.2.1 115 = .ok (.iconst 5, 1) := by decide +kernel
theorem dX12_wordsOf_116 : decode MX12_wordsOf.2.1 116 = .ok (.aload_n 1, 1) := by decide +kernel
theorem dX12_wordsOf_117 : decode MX12_wordsOf.2.1 117 = .ok (.bipush 102, 2) := by decide +kernel
theorem dX12_wordsOf_119 : decode MX12_wordsOf.2.1 119 = .ok (.iaload, 1) := by decide +kernel
theorem dX12_wordsOf_120 : decode MX12_wordsOf.2.1 120 = .ok (.bipush 12, 2) := by decide +kernel
theorem dX12_wordsOf_122 : decode MX12_wordsOf.2.1 122 = .ok (.irem, 1) := by decide +kernel
theorem dX12_wordsOf_123 : decode MX12_wordsOf.2.1 123 = .ok (.iastore, 1) := by decide +kernel
theorem dX12_wordsOf_124 : decode MX12_wordsOf.2.1 124 = .ok (.aload_n 0, 1) := by decide +kernel
theorem dX12_wordsOf_125 : decode MX12_wordsOf.2.1 125 = .ok (.aload_n 0, 1) := by decide +kernel
theorem dX12_wordsOf_126 : decode MX12_wordsOf.2.1 126 = .ok (.getfield 24, 3) := by decide +kernel
theorem dX12_wordsOf_129 : decode MX12_wordsOf.2.1 129 = .ok (.aload_n 0, 1) := by decide +kernel
theorem dX12_wordsOf_130 : decode MX12_wordsOf.2.1 130 = .ok (.getfield 191, 3) := by decide +kernel
theorem dX12_wordsOf_133 : decode MX12_wordsOf.2.1 133 = .ok (.bipush 40, 2) := by decide +kernel
theorem dX12_wordsOf_135 : decode MX12_wordsOf.2.1 135 = .ok (.invokevirtual 121, 3) := by decide +kernel
theorem dX12_wordsOf_138 : decode MX12_wordsOf.2.1 138 = .ok (.aload_n 0, 1) := by decide +kernel
theorem dX12_wordsOf_139 : decode MX12_wordsOf.2.1 139 = .ok (.iconst 1, 1) := by decide +kernel
theorem dX12_wordsOf_140 : decode MX12_wordsOf.2.1 140 = .ok (.putfield 184, 3) := by decide +kernel
theorem dX12_wordsOf_143 : decode MX12_wordsOf.2.1 143 = .ok (.aload_n 0, 1) := by decide +kernel
theorem dX12_wordsOf_144 : decode MX12_wordsOf.2.1 144 = .ok (.iconst 0, 1) := by decide +kernel
theorem dX12_wordsOf_145 : decode MX12_wordsOf.2.1 145 = .ok (.invokevirtual 171, 3) := by decide +kernel
theorem dX12_wordsOf_148 : decode MX12_wordsOf.2.1 148 = .ok (.istore 5, 2) := by decide +kernel
theorem dX12_wordsOf_150 : decode MX12_wordsOf.2.1 150 = .ok (.aload_n 0, 1) := by decide +kernel
theorem dX12_wordsOf_151 : decode MX12_wordsOf.2.1 151 = .ok (.iconst 0, 1) := by decide +kernel
theorem dX12_wordsOf_152 : decode MX12_wordsOf.2.1 152 = .ok (.putfield 184, 3) := by decide +kernel
theorem dX12_wordsOf_155 : decode MX12_wordsOf.2.1 155 = .ok (.iconst 0, 1) := by decide +kernel
theorem dX12_wordsOf_156 : decode MX12_wordsOf.2.1 156 = .ok (.bipush 9, 2) := by decide +kernel
theorem dX12_wordsOf_158 : decode MX12_wordsOf.2.1 158 = .ok (.iload 5, 2) := by decide +kernel
theorem dX12_wordsOf_160 : decode MX12_wordsOf.2.1 160 = .ok (.invokestatic 194, 3) := by decide +kernel
theorem dX12_wordsOf_163 : decode MX12_wordsOf.2.1 163 = .ok (.invokestatic 199, 3) := by decide +kernel
theorem dX12_wordsOf_166 : decode MX12_wordsOf.2.1 166 = .ok (.ireturn, 1) := by decide +kernel
theorem dX12_owesAll_0 : decode MX12_owesAll.2.1 0 = .ok (.iconst 0, 1) := by decide +kernel
theorem dX12_owesAll_1 : decode MX12_owesAll.2.1 1 = .ok (.istore_n 3, 1) := by decide +kernel
theorem dX12_owesAll_2 : decode MX12_owesAll.2.1 2 = .ok (.iconst 0, 1) := by decide +kernel
theorem dX12_owesAll_3 : decode MX12_owesAll.2.1 3 = .ok (.istore 4, 2) := by decide +kernel
theorem dX12_owesAll_5 : decode MX12_owesAll.2.1 5 = .ok (.iload 4, 2) := by decide +kernel
theorem dX12_owesAll_7 : decode MX12_owesAll.2.1 7 = .ok (.aload_n 0, 1) := by decide +kernel
theorem dX12_owesAll_8 : decode MX12_owesAll.2.1 8 = .ok (.getfield 92, 3) := by decide +kernel
theorem dX12_owesAll_11 : decode MX12_owesAll.2.1 11 = .ok (.if_icmp .ge 23, 3) := by decide +kernel
theorem dX12_owesAll_14 : decode MX12_owesAll.2.1 14 = .ok (.iload_n 3, 1) := by decide +kernel
theorem dX12_owesAll_15 : decode MX12_owesAll.2.1 15 = .ok (.aload_n 1, 1) := by decide +kernel
theorem dX12_owesAll_16 : decode MX12_owesAll.2.1 16 = .ok (.bipush 66, 2) := by decide +kernel
theorem dX12_owesAll_18 : decode MX12_owesAll.2.1 18 = .ok (.iload_n 2, 1) := by decide +kernel
theorem dX12_owesAll_19 : decode MX12_owesAll.2.1 19 = .ok (.iload 4, 2) := by decide +kernel
theorem dX12_owesAll_21 : decode MX12_owesAll.2.1 21 = .ok (.invokestatic 151, 3) := by decide +kernel
theorem dX12_owesAll_24 : decode MX12_owesAll.2.1 24 = .ok (.iadd, 1) := by decide +kernel
theorem dX12_owesAll_25 : decode MX12_owesAll.2.1 25 = .ok (.iaload, 1) := by decide +kernel
theorem dX12_owesAll_26 : decode MX12_owesAll.2.1 26 = .ok (.iadd, 1) := by decide +kernel
theorem dX12_owesAll_27 : decode MX12_owesAll.2.1 27 = .ok (.istore_n 3, 1) := by decide +kernel
theorem dX12_owesAll_28 : decode MX12_owesAll.2.1 28 = .ok (.iinc 4 1, 3) := by decide +kernel
theorem dX12_owesAll_31 : decode MX12_owesAll.2.1 31 = .ok (.goto (-26), 3) := by decide +kernel
theorem dX12_owesAll_34 : decode MX12_owesAll.2.1 34 = .ok (.iload_n 3, 1) := by decide +kernel
theorem dX12_owesAll_35 : decode MX12_owesAll.2.1 35 = .ok (.ireturn, 1) := by decide +kernel
theorem dX12_owedAll_0 : decode MX12_owedAll.2.1 0 = .ok (.iconst 0, 1) := by decide +kernel
theorem dX12_owedAll_1 : decode MX12_owedAll.2.1 1 = .ok (.istore_n 3, 1) := by decide +kernel
theorem dX12_owedAll_2 : decode MX12_owedAll.2.1 2 = .ok (.iconst 0, 1) := by decide +kernel
theorem dX12_owedAll_3 : decode MX12_owedAll.2.1 3 = .ok (.istore 4, 2) := by decide +kernel
theorem dX12_owedAll_5 : decode MX12_owedAll.2.1 5 = .ok (.iload 4, 2) := by decide +kernel
theorem dX12_owedAll_7 : decode MX12_owedAll.2.1 7 = .ok (.aload_n 0, 1) := by decide +kernel
theorem dX12_owedAll_8 : decode MX12_owedAll.2.1 8 = .ok (.getfield 92, 3) := by decide +kernel
theorem dX12_owedAll_11 : decode MX12_owedAll.2.1 11 = .ok (.if_icmp .ge 23, 3) := by decide +kernel
theorem dX12_owedAll_14 : decode MX12_owedAll.2.1 14 = .ok (.iload_n 3, 1) := by decide +kernel
theorem dX12_owedAll_15 : decode MX12_owedAll.2.1 15 = .ok (.aload_n 1, 1) := by decide +kernel
theorem dX12_owedAll_16 : decode MX12_owedAll.2.1 16 = .ok (.bipush 66, 2) := by decide +kernel
theorem dX12_owedAll_18 : decode MX12_owedAll.2.1 18 = .ok (.iload 4, 2) := by decide +kernel
theorem dX12_owedAll_20 : decode MX12_owedAll.2.1 20 = .ok (.iload_n 2, 1) := by decide +kernel
theorem dX12_owedAll_21 : decode MX12_owedAll.2.1 21 = .ok (.invokestatic 151, 3) := by decide +kernel
theorem dX12_owedAll_24 : decode MX12_owedAll.2.1 24 = .ok (.iadd, 1) := by decide +kernel
theorem dX12_owedAll_25 : decode MX12_owedAll.2.1 25 = .ok (.iaload, 1) := by decide +kernel
theorem dX12_owedAll_26 : decode MX12_owedAll.2.1 26 = .ok (.iadd, 1) := by decide +kernel
theorem dX12_owedAll_27 : decode MX12_owedAll.2.1 27 = .ok (.istore_n 3, 1) := by decide +kernel
theorem dX12_owedAll_28 : decode MX12_owedAll.2.1 28 = .ok (.iinc 4 1, 3) := by decide +kernel
theorem dX12_owedAll_31 : decode MX12_owedAll.2.1 31 = .ok (.goto (-26), 3) := by decide +kernel
theorem dX12_owedAll_34 : decode MX12_owedAll.2.1 34 = .ok (.iload_n 3, 1) := by decide +kernel
theorem dX12_owedAll_35 : decode MX12_owedAll.2.1 35 = .ok (.ireturn, 1) := by decide +kernel
theorem dX12_person_0 : decode MX12_person.2.1 0 = .ok (.aload_n 0, 1) := by decide +kernel
theorem dX12_person_1 : decode MX12_person.2.1 1 = .ok (.iconst 0, 1) := by decide +kernel
theorem dX12_person_2 : decode MX12_person.2.1 2 = .ok (.putfield 85, 3) := by decide +kernel
theorem dX12_person_5 : decode MX12_person.2.1 5 = .ok (.aload_n 0, 1) := by decide +kernel
theorem dX12_person_6 : decode MX12_person.2.1 6 = .ok (.iload_n 1, 1) := by decide +kernel
theorem dX12_person_7 : decode MX12_person.2.1 7 = .ok (.invokevirtual 99, 3) := by decide +kernel
theorem dX12_person_10 : decode MX12_person.2.1 10 = .ok (.ifCond .eq 13, 3) := by decide +kernel
theorem dX12_person_13 : decode MX12_person.2.1 13 = .ok (.iload_n 2, 1) := by decide +kernel
theorem dX12_person_14 : decode MX12_person.2.1 14 = .ok (.iconst 0, 1) := by decide +kernel
theorem dX12_person_15 : decode MX12_person.2.1 15 = .ok (.bipush 6, 2) := by decide +kernel
theorem dX12_person_17 : decode MX12_person.2.1 17 = .ok (.invokestatic 95, 3) := by decide +kernel
theorem dX12_person_20 : decode MX12_person.2.1 20 = .ok (.ifCond .ne 8, 3) := by decide +kernel
theorem dX12_person_23 : decode MX12_person.2.1 23 = .ok (.aload_n 0, 1) := by decide +kernel
theorem dX12_person_24 : decode MX12_person.2.1 24 = .ok (.invokevirtual 202, 3) := by decide +kernel
theorem dX12_person_27 : decode MX12_person.2.1 27 = .ok (.ireturn, 1) := by decide +kernel
theorem dX12_person_28 : decode MX12_person.2.1 28 = .ok (.iload_n 2, 1) := by decide +kernel
theorem dX12_person_29 : decode MX12_person.2.1 29 = .ok (.tableswitch 99 0 5 #[39, 49, 59, 69, 79, 89], 39) := by decide +kernel
theorem dX12_person_68 : decode MX12_person.2.1 68 = .ok (.aload_n 0, 1) := by decide +kernel
theorem dX12_person_69 : decode MX12_person.2.1 69 = .ok (.getfield 9, 3) := by decide +kernel
theorem dX12_person_72 : decode MX12_person.2.1 72 = .ok (.bipush 36, 2) := by decide +kernel
theorem dX12_person_74 : decode MX12_person.2.1 74 = .ok (.iload_n 1, 1) := by decide +kernel
theorem dX12_person_75 : decode MX12_person.2.1 75 = .ok (.iadd, 1) := by decide +kernel
theorem dX12_person_76 : decode MX12_person.2.1 76 = .ok (.iaload, 1) := by decide +kernel
theorem dX12_person_77 : decode MX12_person.2.1 77 = .ok (.ireturn, 1) := by decide +kernel
theorem dX12_person_78 : decode MX12_person.2.1 78 = .ok (.aload_n 0, 1) := by decide +kernel
theorem dX12_person_79 : decode MX12_person.2.1 79 = .ok (.getfield 9, 3) := by decide +kernel
theorem dX12_person_82 : decode MX12_person.2.1 82 = .ok (.bipush 42, 2) := by decide +kernel
theorem dX12_person_84 : decode MX12_person.2.1 84 = .ok (.iload_n 1, 1) := by decide +kernel
theorem dX12_person_85 : decode MX12_person.2.1 85 = .ok (.iadd, 1) := by decide +kernel
theorem dX12_person_86 : decode MX12_person.2.1 86 = .ok (.iaload, 1) := by decide +kernel
theorem dX12_person_87 : decode MX12_person.2.1 87 = .ok (.ireturn, 1) := by decide +kernel
theorem dX12_person_88 : decode MX12_person.2.1 88 = .ok (.aload_n 0, 1) := by decide +kernel
theorem dX12_person_89 : decode MX12_person.2.1 89 = .ok (.getfield 9, 3) := by decide +kernel
theorem dX12_person_92 : decode MX12_person.2.1 92 = .ok (.bipush 48, 2) := by decide +kernel
theorem dX12_person_94 : decode MX12_person.2.1 94 = .ok (.iload_n 1, 1) := by decide +kernel
theorem dX12_person_95 : decode MX12_person.2.1 95 = .ok (.iadd, 1) := by decide +kernel
theorem dX12_person_96 : decode MX12_person.2.1 96 = .ok (.iaload, 1) := by decide +kernel
theorem dX12_person_97 : decode MX12_person.2.1 97 = .ok (.ireturn, 1) := by decide +kernel
theorem dX12_person_98 : decode MX12_person.2.1 98 = .ok (.aload_n 0, 1) := by decide +kernel
theorem dX12_person_99 : decode MX12_person.2.1 99 = .ok (.getfield 9, 3) := by decide +kernel
theorem dX12_person_102 : decode MX12_person.2.1 102 = .ok (.bipush 54, 2) := by decide +kernel
theorem dX12_person_104 : decode MX12_person.2.1 104 = .ok (.iload_n 1, 1) := by decide +kernel
theorem dX12_person_105 : decode MX12_person.2.1 105 = .ok (.iadd, 1) := by decide +kernel
theorem dX12_person_106 : decode MX12_person.2.1 106 = .ok (.iaload, 1) := by decide +kernel
theorem dX12_person_107 : decode MX12_person.2.1 107 = .ok (.ireturn, 1) := by decide +kernel
theorem dX12_person_108 : decode MX12_person.2.1 108 = .ok (.aload_n 0, 1) := by decide +kernel
theorem dX12_person_109 : decode MX12_person.2.1 109 = .ok (.getfield 9, 3) := by decide +kernel
theorem dX12_person_112 : decode MX12_person.2.1 112 = .ok (.bipush 60, 2) := by decide +kernel
theorem dX12_person_114 : decode MX12_person.2.1 114 = .ok (.iload_n 1, 1) := by decide +kernel
theorem dX12_person_115 : decode MX12_person.2.1 115 = .ok (.iadd, 1) := by decide +kernel
theorem dX12_person_116 : decode MX12_person.2.1 116 = .ok (.iaload, 1) := by decide +kernel
theorem dX12_person_117 : decode MX12_person.2.1 117 = .ok (.ireturn, 1) := by decide +kernel
theorem dX12_person_118 : decode MX12_person.2.1 118 = .ok (.aload_n 0, 1) := by decide +kernel
theorem dX12_person_119 : decode MX12_person.2.1 119 = .ok (.aload_n 0, 1) := by decide +kernel
theorem dX12_person_120 : decode MX12_person.2.1 120 = .ok (.getfield 9, 3) := by decide +kernel
theorem dX12_person_123 : decode MX12_person.2.1 123 = .ok (.iload_n 1, 1) := by decide +kernel
theorem dX12_person_124 : decode MX12_person.2.1 124 = .ok (.invokevirtual 205, 3) := by decide +kernel
theorem dX12_person_127 : decode MX12_person.2.1 127 = .ok (.ireturn, 1) := by decide +kernel
theorem dX12_person_128 : decode MX12_person.2.1 128 = .ok (.aload_n 0, 1) := by decide +kernel
theorem dX12_person_129 : decode MX12_person.2.1 129 = .ok (.aload_n 0, 1) := by decide +kernel
theorem dX12_person_130 : decode MX12_person.2.1 130 = .ok (.getfield 9, 3) := by decide +kernel
theorem dX12_person_133 : decode MX12_person.2.1 133 = .ok (.iload_n 1, 1) := by decide +kernel
theorem dX12_person_134 : decode MX12_person.2.1 134 = .ok (.invokevirtual 209, 3) := by decide +kernel
theorem dX12_person_137 : decode MX12_person.2.1 137 = .ok (.ireturn, 1) := by decide +kernel
theorem dX12_between_0 : decode MX12_between.2.1 0 = .ok (.aload_n 0, 1) := by decide +kernel
theorem dX12_between_1 : decode MX12_between.2.1 1 = .ok (.iconst 0, 1) := by decide +kernel
theorem dX12_between_2 : decode MX12_between.2.1 2 = .ok (.putfield 85, 3) := by decide +kernel
theorem dX12_between_5 : decode MX12_between.2.1 5 = .ok (.aload_n 0, 1) := by decide +kernel
theorem dX12_between_6 : decode MX12_between.2.1 6 = .ok (.iload_n 1, 1) := by decide +kernel
theorem dX12_between_7 : decode MX12_between.2.1 7 = .ok (.iload_n 2, 1) := by decide +kernel
theorem dX12_between_8 : decode MX12_between.2.1 8 = .ok (.invokevirtual 212, 3) := by decide +kernel
theorem dX12_between_11 : decode MX12_between.2.1 11 = .ok (.ifCond .eq 12, 3) := by decide +kernel
theorem dX12_between_14 : decode MX12_between.2.1 14 = .ok (.iload_n 3, 1) := by decide +kernel
theorem dX12_between_15 : decode MX12_between.2.1 15 = .ok (.iconst 0, 1) := by decide +kernel
theorem dX12_between_16 : decode MX12_between.2.1 16 = .ok (.iconst 2, 1) := by decide +kernel
theorem dX12_between_17 : decode MX12_between.2.1 17 = .ok (.invokestatic 95, 3) := by decide +kernel
theorem dX12_between_20 : decode MX12_between.2.1 20 = .ok (.ifCond .ne 8, 3) := by decide +kernel
theorem dX12_between_23 : decode MX12_between.2.1 23 = .ok (.aload_n 0, 1) := by decide +kernel
theorem dX12_between_24 : decode MX12_between.2.1 24 = .ok (.invokevirtual 202, 3) := by decide +kernel
theorem dX12_between_27 : decode MX12_between.2.1 27 = .ok (.ireturn, 1) := by decide +kernel
theorem dX12_between_28 : decode MX12_between.2.1 28 = .ok (.iload_n 3, 1) := by decide +kernel
theorem dX12_between_29 : decode MX12_between.2.1 29 = .ok (.ifCond .ne 16, 3) := by decide +kernel
theorem dX12_between_32 : decode MX12_between.2.1 32 = .ok (.aload_n 0, 1) := by decide +kernel
theorem dX12_between_33 : decode MX12_between.2.1 33 = .ok (.getfield 9, 3) := by decide +kernel
theorem dX12_between_36 : decode MX12_between.2.1 36 = .ok (.iload_n 1, 1) := by decide +kernel
theorem dX12_between_37 : decode MX12_between.2.1 37 = .ok (.iload_n 2, 1) := by decide +kernel
theorem dX12_between_38 : decode MX12_between.2.1 38 = .ok (.invokestatic 151, 3) := by decide +kernel
theorem dX12_between_41 : decode MX12_between.2.1 41 = .ok (.iaload, 1) := by decide +kernel
theorem dX12_between_42 : decode MX12_between.2.1 42 = .ok (.goto 34, 3) := by decide +kernel
theorem dX12_between_45 : decode MX12_between.2.1 45 = .ok (.iload_n 3, 1) := by decide +kernel
theorem dX12_between_46 : decode MX12_between.2.1 46 = .ok (.iconst 1, 1) := by decide +kernel
theorem dX12_between_47 : decode MX12_between.2.1 47 = .ok (.if_icmp .ne 16, 3) := by decide +kernel
theorem dX12_between_50 : decode MX12_between.2.1 50 = .ok (.aload_n 0, 1) := by decide +kernel
theorem dX12_between_51 : decode MX12_between.2.1 51 = .ok (.aload_n 0, 1) := by decide +kernel
theorem dX12_between_52 : decode MX12_between.2.1 52 = .ok (.getfield 9, 3) := by decide +kernel
theorem dX12_between_55 : decode MX12_between.2.1 55 = .ok (.iload_n 1, 1) := by decide +kernel
theorem dX12_between_56 : decode MX12_between.2.1 56 = .ok (.iload_n 2, 1) := by decide +kernel
theorem dX12_between_57 : decode MX12_between.2.1 57 = .ok (.invokevirtual 216, 3) := by decide +kernel
theorem dX12_between_60 : decode MX12_between.2.1 60 = .ok (.goto 16, 3) := by decide +kernel
theorem dX12_between_63 : decode MX12_between.2.1 63 = .ok (.aload_n 0, 1) := by decide +kernel
theorem dX12_between_64 : decode MX12_between.2.1 64 = .ok (.getfield 9, 3) := by decide +kernel
theorem dX12_between_67 : decode MX12_between.2.1 67 = .ok (.bipush 66, 2) := by decide +kernel
theorem dX12_between_69 : decode MX12_between.2.1 69 = .ok (.iload_n 1, 1) := by decide +kernel
theorem dX12_between_70 : decode MX12_between.2.1 70 = .ok (.iload_n 2, 1) := by decide +kernel
theorem dX12_between_71 : decode MX12_between.2.1 71 = .ok (.invokestatic 151, 3) := by decide +kernel
theorem dX12_between_74 : decode MX12_between.2.1 74 = .ok (.iadd, 1) := by decide +kernel
theorem dX12_between_75 : decode MX12_between.2.1 75 = .ok (.iaload, 1) := by decide +kernel
theorem dX12_between_76 : decode MX12_between.2.1 76 = .ok (.ireturn, 1) := by decide +kernel
theorem dX12_sumOf_0 : decode MX12_sumOf.2.1 0 = .ok (.iconst 0, 1) := by decide +kernel
theorem dX12_sumOf_1 : decode MX12_sumOf.2.1 1 = .ok (.istore_n 3, 1) := by decide +kernel
theorem dX12_sumOf_2 : decode MX12_sumOf.2.1 2 = .ok (.iconst 0, 1) := by decide +kernel
theorem dX12_sumOf_3 : decode MX12_sumOf.2.1 3 = .ok (.istore 4, 2) := by decide +kernel
theorem dX12_sumOf_5 : decode MX12_sumOf.2.1 5 = .ok (.iload 4, 2) := by decide +kernel
theorem dX12_sumOf_7 : decode MX12_sumOf.2.1 7 = .ok (.aload_n 0, 1) := by decide +kernel
theorem dX12_sumOf_8 : decode MX12_sumOf.2.1 8 = .ok (.getfield 92, 3) := by decide +kernel
theorem dX12_sumOf_11 : decode MX12_sumOf.2.1 11 = .ok (.if_icmp .ge 18, 3) := by decide +kernel
theorem dX12_sumOf_14 : decode MX12_sumOf.2.1 14 = .ok (.iload_n 3, 1) := by decide +kernel
theorem dX12_sumOf_15 : decode MX12_sumOf.2.1 15 = .ok (.aload_n 1, 1) := by decide +kernel
theorem dX12_sumOf_16 : decode MX12_sumOf.2.1 16 = .ok (.iload_n 2, 1) := by decide +kernel
theorem dX12_sumOf_17 : decode MX12_sumOf.2.1 17 = .ok (.iload 4, 2) := by decide +kernel
theorem dX12_sumOf_19 : decode MX12_sumOf.2.1 19 = .ok (.iadd, 1) := by decide +kernel
theorem dX12_sumOf_20 : decode MX12_sumOf.2.1 20 = .ok (.iaload, 1) := by decide +kernel
theorem dX12_sumOf_21 : decode MX12_sumOf.2.1 21 = .ok (.iadd, 1) := by decide +kernel
theorem dX12_sumOf_22 : decode MX12_sumOf.2.1 22 = .ok (.istore_n 3, 1) := by decide +kernel
theorem dX12_sumOf_23 : decode MX12_sumOf.2.1 23 = .ok (.iinc 4 1, 3) := by decide +kernel
theorem dX12_sumOf_26 : decode MX12_sumOf.2.1 26 = .ok (.goto (-21), 3) := by decide +kernel
theorem dX12_sumOf_29 : decode MX12_sumOf.2.1 29 = .ok (.iload_n 3, 1) := by decide +kernel
theorem dX12_sumOf_30 : decode MX12_sumOf.2.1 30 = .ok (.ireturn, 1) := by decide +kernel
theorem dX12_sheet_0 : decode MX12_sheet.2.1 0 = .ok (.aload_n 0, 1) := by decide +kernel
theorem dX12_sheet_1 : decode MX12_sheet.2.1 1 = .ok (.iconst 0, 1) := by decide +kernel
theorem dX12_sheet_2 : decode MX12_sheet.2.1 2 = .ok (.putfield 85, 3) := by decide +kernel
theorem dX12_sheet_5 : decode MX12_sheet.2.1 5 = .ok (.iload_n 1, 1) := by decide +kernel
theorem dX12_sheet_6 : decode MX12_sheet.2.1 6 = .ok (.iconst 0, 1) := by decide +kernel
theorem dX12_sheet_7 : decode MX12_sheet.2.1 7 = .ok (.iconst 3, 1) := by decide +kernel
theorem dX12_sheet_8 : decode MX12_sheet.2.1 8 = .ok (.invokestatic 95, 3) := by decide +kernel
theorem dX12_sheet_11 : decode MX12_sheet.2.1 11 = .ok (.ifCond .eq 9, 3) := by decide +kernel
theorem dX12_sheet_14 : decode MX12_sheet.2.1 14 = .ok (.iload_n 2, 1) := by decide +kernel
theorem dX12_sheet_15 : decode MX12_sheet.2.1 15 = .ok (.bipush 6, 2) := by decide +kernel
theorem dX12_sheet_17 : decode MX12_sheet.2.1 17 = .ok (.if_icmp .le 5, 3) := by decide +kernel
theorem dX12_sheet_20 : decode MX12_sheet.2.1 20 = .ok (.iconst (-1), 1) := by decide +kernel
theorem dX12_sheet_21 : decode MX12_sheet.2.1 21 = .ok (.ireturn, 1) := by decide +kernel
theorem dX12_sheet_22 : decode MX12_sheet.2.1 22 = .ok (.iload_n 1, 1) := by decide +kernel
theorem dX12_sheet_23 : decode MX12_sheet.2.1 23 = .ok (.iconst 3, 1) := by decide +kernel
theorem dX12_sheet_24 : decode MX12_sheet.2.1 24 = .ok (.if_icmp .ge 10, 3) := by decide +kernel
theorem dX12_sheet_27 : decode MX12_sheet.2.1 27 = .ok (.iload_n 2, 1) := by decide +kernel
theorem dX12_sheet_28 : decode MX12_sheet.2.1 28 = .ok (.ifCond .ge 6, 3) := by decide +kernel
theorem dX12_sheet_31 : decode MX12_sheet.2.1 31 = .ok (.bipush (-2), 2) := by decide +kernel
theorem dX12_sheet_33 : decode MX12_sheet.2.1 33 = .ok (.ireturn, 1) := by decide +kernel
theorem dX12_sheet_34 : decode MX12_sheet.2.1 34 = .ok (.iload_n 3, 1) := by decide +kernel
theorem dX12_sheet_35 : decode MX12_sheet.2.1 35 = .ok (.istore 5, 2) := by decide +kernel
theorem dX12_sheet_37 : decode MX12_sheet.2.1 37 = .ok (.iconst 0, 1) := by decide +kernel
theorem dX12_sheet_38 : decode MX12_sheet.2.1 38 = .ok (.istore 6, 2) := by decide +kernel
theorem dX12_sheet_40 : decode MX12_sheet.2.1 40 = .ok (.iload 6, 2) := by decide +kernel
theorem dX12_sheet_42 : decode MX12_sheet.2.1 42 = .ok (.aload_n 0, 1) := by decide +kernel
theorem dX12_sheet_43 : decode MX12_sheet.2.1 43 = .ok (.getfield 92, 3) := by decide +kernel
theorem dX12_sheet_46 : decode MX12_sheet.2.1 46 = .ok (.if_icmp .ge 77, 3) := by decide +kernel
theorem dX12_sheet_49 : decode MX12_sheet.2.1 49 = .ok (.iload_n 1, 1) := by decide +kernel
theorem dX12_sheet_50 : decode MX12_sheet.2.1 50 = .ok (.ifCond .ne 9, 3) := by decide +kernel
theorem dX12_sheet_53 : decode MX12_sheet.2.1 53 = .ok (.iload 5, 2) := by decide +kernel
theorem dX12_sheet_55 : decode MX12_sheet.2.1 55 = .ok (.i2b, 1) := by decide +kernel
theorem dX12_sheet_56 : decode MX12_sheet.2.1 56 = .ok (.goto 16, 3) := by decide +kernel
theorem dX12_sheet_59 : decode MX12_sheet.2.1 59 = .ok (.iload_n 1, 1) := by decide +kernel
theorem dX12_sheet_60 : decode MX12_sheet.2.1 60 = .ok (.iconst 1, 1) := by decide +kernel
theorem dX12_sheet_61 : decode MX12_sheet.2.1 61 = .ok (.if_icmp .ne 9, 3) := by decide +kernel
theorem dX12_sheet_64 : decode MX12_sheet.2.1 64 = .ok (.iload 5, 2) := by decide +kernel
theorem dX12_sheet_66 : decode MX12_sheet.2.1 66 = .ok (.i2s, 1) := by decide +kernel
theorem dX12_sheet_67 : decode MX12_sheet.2.1 67 = .ok (.goto 5, 3) := by decide +kernel
theorem dX12_sheet_70 : decode MX12_sheet.2.1 70 = .ok (.iload 5, 2) := by decide +kernel
theorem dX12_sheet_72 : decode MX12_sheet.2.1 72 = .ok (.istore 7, 2) := by decide +kernel
theorem dX12_sheet_74 : decode MX12_sheet.2.1 74 = .ok (.aload_n 0, 1) := by decide +kernel
theorem dX12_sheet_75 : decode MX12_sheet.2.1 75 = .ok (.getfield 9, 3) := by decide +kernel
theorem dX12_sheet_78 : decode MX12_sheet.2.1 78 = .ok (.bipush 36, 2) := by decide +kernel
theorem dX12_sheet_80 : decode MX12_sheet.2.1 80 = .ok (.iload 6, 2) := by decide +kernel
theorem dX12_sheet_82 : decode MX12_sheet.2.1 82 = .ok (.iadd, 1) := by decide +kernel
theorem dX12_sheet_83 : decode MX12_sheet.2.1 83 = .ok (.iload_n 1, 1) := by decide +kernel
theorem dX12_sheet_84 : decode MX12_sheet.2.1 84 = .ok (.iconst 3, 1) := by decide +kernel
theorem dX12_sheet_85 : decode MX12_sheet.2.1 85 = .ok (.if_icmp .eq 9, 3) := by decide +kernel
theorem dX12_sheet_88 : decode MX12_sheet.2.1 88 = .ok (.iload 6, 2) := by decide +kernel
theorem dX12_sheet_90 : decode MX12_sheet.2.1 90 = .ok (.iload_n 2, 1) := by decide +kernel
theorem dX12_sheet_91 : decode MX12_sheet.2.1 91 = .ok (.if_icmp .lt 7, 3) := by decide +kernel
theorem dX12_sheet_94 : decode MX12_sheet.2.1 94 = .ok (.iconst 0, 1) := by decide +kernel
theorem dX12_sheet_95 : decode MX12_sheet.2.1 95 = .ok (.goto 14, 3) := by decide +kernel
theorem dX12_sheet_98 : decode MX12_sheet.2.1 98 = .ok (.iconst 0, 1) := by decide +kernel
theorem dX12_sheet_99 : decode MX12_sheet.2.1 99 = .ok (.bipush 99, 2) := by decide +kernel
theorem dX12_sheet_101 : decode MX12_sheet.2.1 101 = .ok (.iload 7, 2) := by decide +kernel
theorem dX12_sheet_103 : decode MX12_sheet.2.1 103 = .ok (.invokestatic 194, 3) := by decide +kernel
theorem dX12_sheet_106 : decode MX12_sheet.2.1 106 = .ok (.invokestatic 199, 3) := by decide +kernel
theorem dX12_sheet_109 : decode MX12_sheet.2.1 109 = .ok (.iastore, 1) := by decide +kernel
theorem dX12_sheet_110 : decode MX12_sheet.2.1 110 = .ok (.iload 5, 2) := by decide +kernel
theorem dX12_sheet_112 : decode MX12_sheet.2.1 112 = .ok (.iload 4, 2) := by decide +kernel
theorem dX12_sheet_114 : decode MX12_sheet.2.1 114 = .ok (.iadd, 1) := by decide +kernel
theorem dX12_sheet_115 : decode MX12_sheet.2.1 115 = .ok (.istore 5, 2) := by decide +kernel
theorem dX12_sheet_117 : decode MX12_sheet.2.1 117 = .ok (.iinc 6 1, 3) := by decide +kernel
theorem dX12_sheet_120 : decode MX12_sheet.2.1 120 = .ok (.goto (-80), 3) := by decide +kernel
theorem dX12_sheet_123 : decode MX12_sheet.2.1 123 = .ok (.iload_n 1, 1) := by decide +kernel
theorem dX12_sheet_124 : decode MX12_sheet.2.1 124 = .ok (.iconst 3, 1) := by decide +kernel
theorem dX12_sheet_125 : decode MX12_sheet.2.1 125 = .ok (.if_icmp .ne 8, 3) := by decide +kernel
theorem dX12_sheet_128 : decode MX12_sheet.2.1 128 = .ok (.bipush (-3), 2) := by decide +kernel
theorem dX12_sheet_130 : decode MX12_sheet.2.1 130 = .ok (.goto 13, 3) := by decide +kernel
theorem dX12_sheet_133 : decode MX12_sheet.2.1 133 = .ok (.aload_n 0, 1) := by decide +kernel
theorem dX12_sheet_134 : decode MX12_sheet.2.1 134 = .ok (.aload_n 0, 1) := by decide +kernel
theorem dX12_sheet_135 : decode MX12_sheet.2.1 135 = .ok (.getfield 9, 3) := by decide +kernel
theorem dX12_sheet_138 : decode MX12_sheet.2.1 138 = .ok (.bipush 36, 2) := by decide +kernel
theorem dX12_sheet_140 : decode MX12_sheet.2.1 140 = .ok (.invokevirtual 220, 3) := by decide +kernel
theorem dX12_sheet_143 : decode MX12_sheet.2.1 143 = .ok (.ireturn, 1) := by decide +kernel
theorem dX12_lay_0 : decode MX12_lay.2.1 0 = .ok (.iconst 0, 1) := by decide +kernel
theorem dX12_lay_1 : decode MX12_lay.2.1 1 = .ok (.istore_n 3, 1) := by decide +kernel
theorem dX12_lay_2 : decode MX12_lay.2.1 2 = .ok (.iload_n 3, 1) := by decide +kernel
theorem dX12_lay_3 : decode MX12_lay.2.1 3 = .ok (.bipush 103, 2) := by decide +kernel
theorem dX12_lay_5 : decode MX12_lay.2.1 5 = .ok (.if_icmp .ge 17, 3) := by decide +kernel
theorem dX12_lay_8 : decode MX12_lay.2.1 8 = .ok (.aload_n 1, 1) := by decide +kernel
theorem dX12_lay_9 : decode MX12_lay.2.1 9 = .ok (.iload_n 2, 1) := by decide +kernel
theorem dX12_lay_10 : decode MX12_lay.2.1 10 = .ok (.iload_n 3, 1) := by decide +kernel
theorem dX12_lay_11 : decode MX12_lay.2.1 11 = .ok (.iadd, 1) := by decide +kernel
theorem dX12_lay_12 : decode MX12_lay.2.1 12 = .ok (.aload_n 0, 1) := by decide +kernel
theorem dX12_lay_13 : decode MX12_lay.2.1 13 = .ok (.iload_n 3, 1) := by decide +kernel
theorem dX12_lay_14 : decode MX12_lay.2.1 14 = .ok (.iaload, 1) := by decide +kernel
theorem dX12_lay_15 : decode MX12_lay.2.1 15 = .ok (.iastore, 1) := by decide +kernel
theorem dX12_lay_16 : decode MX12_lay.2.1 16 = .ok (.iinc 3 1, 3) := by decide +kernel
theorem dX12_lay_19 : decode MX12_lay.2.1 19 = .ok (.goto (-17), 3) := by decide +kernel
theorem dX12_lay_22 : decode MX12_lay.2.1 22 = .ok (.return_, 1) := by decide +kernel
theorem dX12_remember_0 : decode MX12_remember.2.1 0 = .ok (.aload_n 0, 1) := by decide +kernel
theorem dX12_remember_1 : decode MX12_remember.2.1 1 = .ok (.getfield 155, 3) := by decide +kernel
theorem dX12_remember_4 : decode MX12_remember.2.1 4 = .ok (.bipush 12, 2) := by decide +kernel
theorem dX12_remember_6 : decode MX12_remember.2.1 6 = .ok (.if_icmp .ne 43, 3) := by decide +kernel
theorem dX12_remember_9 : decode MX12_remember.2.1 9 = .ok (.iconst 0, 1) := by decide +kernel
theorem dX12_remember_10 : decode MX12_remember.2.1 10 = .ok (.istore_n 2, 1) := by decide +kernel
theorem dX12_remember_11 : decode MX12_remember.2.1 11 = .ok (.iload_n 2, 1) := by decide +kernel
theorem dX12_remember_12 : decode MX12_remember.2.1 12 = .ok (.sipush 1133, 3) := by decide +kernel
theorem dX12_remember_15 : decode MX12_remember.2.1 15 = .ok (.if_icmp .ge 24, 3) := by decide +kernel
theorem dX12_remember_18 : decode MX12_remember.2.1 18 = .ok (.aload_n 0, 1) := by decide +kernel
theorem dX12_remember_19 : decode MX12_remember.2.1 19 = .ok (.getfield 33, 3) := by decide +kernel
theorem dX12_remember_22 : decode MX12_remember.2.1 22 = .ok (.iload_n 2, 1) := by decide +kernel
theorem dX12_remember_23 : decode MX12_remember.2.1 23 = .ok (.aload_n 0, 1) := by decide +kernel
theorem dX12_remember_24 : decode MX12_remember.2.1 24 = .ok (.getfield 33, 3) := by decide +kernel
theorem dX12_remember_27 : decode MX12_remember.2.1 27 = .ok (.iload_n 2, 1) := by decide +kernel
theorem dX12_remember_28 : decode MX12_remember.2.1 28 = .ok (.bipush 103, 2) := by decide +kernel
theorem dX12_remember_30 : decode MX12_remember.2.1 30 = .ok (.iadd, 1) := by decide +kernel
theorem dX12_remember_31 : decode MX12_remember.2.1 31 = .ok (.iaload, 1) := by decide +kernel
theorem dX12_remember_32 : decode MX12_remember.2.1 32 = .ok (.iastore, 1) := by decide +kernel
theorem dX12_remember_33 : decode MX12_remember.2.1 33 = .ok (.iinc 2 1, 3) := by decide +kernel
theorem dX12_remember_36 : decode MX12_remember.2.1 36 = .ok (.goto (-25), 3) := by decide +kernel
theorem dX12_remember_39 : decode MX12_remember.2.1 39 = .ok (.aload_n 0, 1) := by decide +kernel
theorem dX12_remember_40 : decode MX12_remember.2.1 40 = .ok (.dup, 1) := by decide +kernel
theorem dX12_remember_41 : decode MX12_remember.2.1 41 = .ok (.getfield 155, 3) := by decide +kernel
theorem dX12_remember_44 : decode MX12_remember.2.1 44 = .ok (.iconst 1, 1) := by decide +kernel
theorem dX12_remember_45 : decode MX12_remember.2.1 45 = .ok (.isub, 1) := by decide +kernel
theorem dX12_remember_46 : decode MX12_remember.2.1 46 = .ok (.putfield 155, 3) := by decide +kernel
theorem dX12_remember_49 : decode MX12_remember.2.1 49 = .ok (.aload_n 1, 1) := by decide +kernel
theorem dX12_remember_50 : decode MX12_remember.2.1 50 = .ok (.aload_n 0, 1) := by decide +kernel
theorem dX12_remember_51 : decode MX12_remember.2.1 51 = .ok (.getfield 33, 3) := by decide +kernel
theorem dX12_remember_54 : decode MX12_remember.2.1 54 = .ok (.bipush 103, 2) := by decide +kernel
theorem dX12_remember_56 : decode MX12_remember.2.1 56 = .ok (.aload_n 0, 1) := by decide +kernel
theorem dX12_remember_57 : decode MX12_remember.2.1 57 = .ok (.getfield 155, 3) := by decide +kernel
theorem dX12_remember_60 : decode MX12_remember.2.1 60 = .ok (.imul, 1) := by decide +kernel
theorem dX12_remember_61 : decode MX12_remember.2.1 61 = .ok (.invokestatic 223, 3) := by decide +kernel
theorem dX12_remember_64 : decode MX12_remember.2.1 64 = .ok (.aload_n 0, 1) := by decide +kernel
theorem dX12_remember_65 : decode MX12_remember.2.1 65 = .ok (.dup, 1) := by decide +kernel
theorem dX12_remember_66 : decode MX12_remember.2.1 66 = .ok (.getfield 155, 3) := by decide +kernel
theorem dX12_remember_69 : decode MX12_remember.2.1 69 = .ok (.iconst 1, 1) := by decide +kernel
theorem dX12_remember_70 : decode MX12_remember.2.1 70 = .ok (.iadd, 1) := by decide +kernel
theorem dX12_remember_71 : decode MX12_remember.2.1 71 = .ok (.putfield 155, 3) := by decide +kernel
theorem dX12_remember_74 : decode MX12_remember.2.1 74 = .ok (.return_, 1) := by decide +kernel
