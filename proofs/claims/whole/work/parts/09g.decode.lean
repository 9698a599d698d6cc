theorem dX12_draw_0 : decode MX12_draw.2.1 0 = .ok (.aload_n 0, 1) := by decide +kernel
theorem dX12_draw_1 : decode MX12_draw.2.1 1 = .ok (.aload_n 0, 1) := by decide +kernel
theorem dX12_draw_2 : decode MX12_draw.2.1 2 = .ok (.getfield 375, 3) := by decide +kernel
theorem dX12_draw_5 : decode MX12_draw.2.1 5 = .ok (.ldc_w 378, 3) := by decide +kernel
theorem dX12_draw_8 : decode MX12_draw.2.1 8 = .ok (.imul, 1) := by decide +kernel
theorem dX12_draw_9 : decode MX12_draw.2.1 9 = .ok (.sipush 12345, 3) := by decide +kernel
theorem dX12_draw_12 : decode MX12_draw.2.1 12 = .ok (.iadd, 1) := by decide +kernel
theorem dX12_draw_13 : decode MX12_draw.2.1 13 = .ok (.putfield 375, 3) := by decide +kernel
theorem dX12_draw_16 : decode MX12_draw.2.1 16 = .ok (.aload_n 0, 1) := by decide +kernel
theorem dX12_draw_17 : decode MX12_draw.2.1 17 = .ok (.getfield 375, 3) := by decide +kernel
theorem dX12_draw_20 : decode MX12_draw.2.1 20 = .ok (.bipush 16, 2) := by decide +kernel
theorem dX12_draw_22 : decode MX12_draw.2.1 22 = .ok (.iushr, 1) := by decide +kernel
theorem dX12_draw_23 : decode MX12_draw.2.1 23 = .ok (.iload_n 1, 1) := by decide +kernel
theorem dX12_draw_24 : decode MX12_draw.2.1 24 = .ok (.irem, 1) := by decide +kernel
theorem dX12_draw_25 : decode MX12_draw.2.1 25 = .ok (.ireturn, 1) := by decide +kernel
theorem dX12_years_0 : decode MX12_years.2.1 0 = .ok (.aload_n 0, 1) := by decide +kernel
theorem dX12_years_1 : decode MX12_years.2.1 1 = .ok (.iconst 0, 1) := by decide +kernel
theorem dX12_years_2 : decode MX12_years.2.1 2 = .ok (.putfield 85, 3) := by decide +kernel
theorem dX12_years_5 : decode MX12_years.2.1 5 = .ok (.iload_n 2, 1) := by decide +kernel
theorem dX12_years_6 : decode MX12_years.2.1 6 = .ok (.iconst 1, 1) := by decide +kernel
theorem dX12_years_7 : decode MX12_years.2.1 7 = .ok (.bipush 60, 2) := by decide +kernel
theorem dX12_years_9 : decode MX12_years.2.1 9 = .ok (.invokestatic 95, 3) := by decide +kernel
theorem dX12_years_12 : decode MX12_years.2.1 12 = .ok (.ifCond .ne 5, 3) := by decide +kernel
theorem dX12_years_15 : decode MX12_years.2.1 15 = .ok (.iconst (-1), 1) := by decide +kernel
theorem dX12_years_16 : decode MX12_years.2.1 16 = .ok (.ireturn, 1) := by decide +kernel
theorem dX12_years_17 : decode MX12_years.2.1 17 = .ok (.aload_n 0, 1) := by decide +kernel
theorem dX12_years_18 : decode MX12_years.2.1 18 = .ok (.iload_n 1, 1) := by decide +kernel
theorem dX12_years_19 : decode MX12_years.2.1 19 = .ok (.putfield 375, 3) := by decide +kernel
theorem dX12_years_22 : decode MX12_years.2.1 22 = .ok (.aload_n 0, 1) := by decide +kernel
theorem dX12_years_23 : decode MX12_years.2.1 23 = .ok (.getfield 9, 3) := by decide +kernel
theorem dX12_years_26 : decode MX12_years.2.1 26 = .ok (.aload_n 0, 1) := by decide +kernel
theorem dX12_years_27 : decode MX12_years.2.1 27 = .ok (.getfield 39, 3) := by decide +kernel
theorem dX12_years_30 : decode MX12_years.2.1 30 = .ok (.iconst 0, 1) := by decide +kernel
theorem dX12_years_31 : decode MX12_years.2.1 31 = .ok (.invokestatic 223, 3) := by decide +kernel
theorem dX12_years_34 : decode MX12_years.2.1 34 = .ok (.iconst 0, 1) := by decide +kernel
theorem dX12_years_35 : decode MX12_years.2.1 35 = .ok (.istore_n 3, 1) := by decide +kernel
theorem dX12_years_36 : decode MX12_years.2.1 36 = .ok (.iload_n 3, 1) := by decide +kernel
theorem dX12_years_37 : decode MX12_years.2.1 37 = .ok (.iload_n 2, 1) := by decide +kernel
theorem dX12_years_38 : decode MX12_years.2.1 38 = .ok (.if_icmp .ge 124, 3) := by decide +kernel
theorem dX12_years_41 : decode MX12_years.2.1 41 = .ok (.aload_n 0, 1) := by decide +kernel
theorem dX12_years_42 : decode MX12_years.2.1 42 = .ok (.iconst 4, 1) := by decide +kernel
theorem dX12_years_43 : decode MX12_years.2.1 43 = .ok (.invokevirtual 379, 3) := by decide +kernel
theorem dX12_years_46 : decode MX12_years.2.1 46 = .ok (.istore 4, 2) := by decide +kernel
theorem dX12_years_48 : decode MX12_years.2.1 48 = .ok (.iload 4, 2) := by decide +kernel
theorem dX12_years_50 : decode MX12_years.2.1 50 = .ok (.iconst 2, 1) := by decide +kernel
theorem dX12_years_51 : decode MX12_years.2.1 51 = .ok (.if_icmp .ge 12, 3) := by decide +kernel
theorem dX12_years_54 : decode MX12_years.2.1 54 = .ok (.aload_n 0, 1) := by decide +kernel
theorem dX12_years_55 : decode MX12_years.2.1 55 = .ok (.aload_n 0, 1) := by decide +kernel
theorem dX12_years_56 : decode MX12_years.2.1 56 = .ok (.getfield 39, 3) := by decide +kernel
theorem dX12_years_59 : decode MX12_years.2.1 59 = .ok (.invokevirtual 243, 3) := by decide +kernel
theorem dX12_years_62 : decode MX12_years.2.1 62 = .ok (.pop, 1) := by decide +kernel
theorem dX12_years_63 : decode MX12_years.2.1 63 = .ok (.iload 4, 2) := by decide +kernel
theorem dX12_years_65 : decode MX12_years.2.1 65 = .ok (.iconst 2, 1) := by decide +kernel
theorem dX12_years_66 : decode MX12_years.2.1 66 = .ok (.if_icmp .lt 90, 3) := by decide +kernel
theorem dX12_years_69 : decode MX12_years.2.1 69 = .ok (.aload_n 0, 1) := by decide +kernel
theorem dX12_years_70 : decode MX12_years.2.1 70 = .ok (.getfield 92, 3) := by decide +kernel
theorem dX12_years_73 : decode MX12_years.2.1 73 = .ok (.ifCond .ne 6, 3) := by decide +kernel
theorem dX12_years_76 : decode MX12_years.2.1 76 = .ok (.goto 80, 3) := by decide +kernel
theorem dX12_years_79 : decode MX12_years.2.1 79 = .ok (.aload_n 0, 1) := by decide +kernel
theorem dX12_years_80 : decode MX12_years.2.1 80 = .ok (.aload_n 0, 1) := by decide +kernel
theorem dX12_years_81 : decode MX12_years.2.1 81 = .ok (.getfield 92, 3) := by decide +kernel
theorem dX12_years_84 : decode MX12_years.2.1 84 = .ok (.invokevirtual 379, 3) := by decide +kernel
theorem dX12_years_87 : decode MX12_years.2.1 87 = .ok (.istore 5, 2) := by decide +kernel
theorem dX12_years_89 : decode MX12_years.2.1 89 = .ok (.iload 4, 2) := by decide +kernel
theorem dX12_years_91 : decode MX12_years.2.1 91 = .ok (.iconst 2, 1) := by decide +kernel
theorem dX12_years_92 : decode MX12_years.2.1 92 = .ok (.if_icmp .ne 42, 3) := by decide +kernel
theorem dX12_years_95 : decode MX12_years.2.1 95 = .ok (.iconst 1, 1) := by decide +kernel
theorem dX12_years_96 : decode MX12_years.2.1 96 = .ok (.aload_n 0, 1) := by decide +kernel
theorem dX12_years_97 : decode MX12_years.2.1 97 = .ok (.bipush 9, 2) := by decide +kernel
theorem dX12_years_99 : decode MX12_years.2.1 99 = .ok (.invokevirtual 379, 3) := by decide +kernel
theorem dX12_years_102 : decode MX12_years.2.1 102 = .ok (.iadd, 1) := by decide +kernel
theorem dX12_years_103 : decode MX12_years.2.1 103 = .ok (.istore 6, 2) := by decide +kernel
theorem dX12_years_105 : decode MX12_years.2.1 105 = .ok (.aload_n 0, 1) := by decide +kernel
theorem dX12_years_106 : decode MX12_years.2.1 106 = .ok (.aload_n 0, 1) := by decide +kernel
theorem dX12_years_107 : decode MX12_years.2.1 107 = .ok (.getfield 39, 3) := by decide +kernel
theorem dX12_years_110 : decode MX12_years.2.1 110 = .ok (.iload 5, 2) := by decide +kernel
theorem dX12_years_112 : decode MX12_years.2.1 112 = .ok (.iload 6, 2) := by decide +kernel
theorem dX12_years_114 : decode MX12_years.2.1 114 = .ok (.invokevirtual 260, 3) := by decide +kernel
theorem dX12_years_117 : decode MX12_years.2.1 117 = .ok (.ifCond .ne 14, 3) := by decide +kernel
theorem dX12_years_120 : decode MX12_years.2.1 120 = .ok (.aload_n 0, 1) := by decide +kernel
theorem dX12_years_121 : decode MX12_years.2.1 121 = .ok (.getfield 39, 3) := by decide +kernel
theorem dX12_years_124 : decode MX12_years.2.1 124 = .ok (.iload 5, 2) := by decide +kernel
theorem dX12_years_126 : decode MX12_years.2.1 126 = .ok (.iload 6, 2) := by decide +kernel
theorem dX12_years_128 : decode MX12_years.2.1 128 = .ok (.invokestatic 263, 3) := by decide +kernel
theorem dX12_years_131 : decode MX12_years.2.1 131 = .ok (.goto 25, 3) := by decide +kernel
theorem dX12_years_134 : decode MX12_years.2.1 134 = .ok (.aload_n 0, 1) := by decide +kernel
theorem dX12_years_135 : decode MX12_years.2.1 135 = .ok (.aload_n 0, 1) := by decide +kernel
theorem dX12_years_136 : decode MX12_years.2.1 136 = .ok (.getfield 39, 3) := by decide +kernel
theorem dX12_years_139 : decode MX12_years.2.1 139 = .ok (.iload 5, 2) := by decide +kernel
theorem dX12_years_141 : decode MX12_years.2.1 141 = .ok (.invokevirtual 267, 3) := by decide +kernel
theorem dX12_years_144 : decode MX12_years.2.1 144 = .ok (.ifCond .ne 12, 3) := by decide +kernel
theorem dX12_years_147 : decode MX12_years.2.1 147 = .ok (.aload_n 0, 1) := by decide +kernel
theorem dX12_years_148 : decode MX12_years.2.1 148 = .ok (.getfield 39, 3) := by decide +kernel
theorem dX12_years_151 : decode MX12_years.2.1 151 = .ok (.iload 5, 2) := by decide +kernel
theorem dX12_years_153 : decode MX12_years.2.1 153 = .ok (.invokestatic 270, 3) := by decide +kernel
theorem dX12_years_156 : decode MX12_years.2.1 156 = .ok (.iinc 3 1, 3) := by decide +kernel
theorem dX12_years_159 : decode MX12_years.2.1 159 = .ok (.goto (-123), 3) := by decide +kernel
theorem dX12_years_162 : decode MX12_years.2.1 162 = .ok (.aload_n 0, 1) := by decide +kernel
theorem dX12_years_163 : decode MX12_years.2.1 163 = .ok (.iconst 0, 1) := by decide +kernel
theorem dX12_years_164 : decode MX12_years.2.1 164 = .ok (.putfield 89, 3) := by decide +kernel
theorem dX12_years_167 : decode MX12_years.2.1 167 = .ok (.aload_n 0, 1) := by decide +kernel
theorem dX12_years_168 : decode MX12_years.2.1 168 = .ok (.aload_n 0, 1) := by decide +kernel
theorem dX12_years_169 : decode MX12_years.2.1 169 = .ok (.aload_n 0, 1) := by decide +kernel
theorem dX12_years_170 : decode MX12_years.2.1 170 = .ok (.getfield 39, 3) := by decide +kernel
theorem dX12_years_173 : decode MX12_years.2.1 173 = .ok (.invokevirtual 235, 3) := by decide +kernel
theorem dX12_years_176 : decode MX12_years.2.1 176 = .ok (.invokestatic 257, 3) := by decide +kernel
theorem dX12_years_179 : decode MX12_years.2.1 179 = .ok (.i2l, 1) := by decide +kernel
theorem dX12_years_180 : decode MX12_years.2.1 180 = .ok (.invokevirtual 253, 3) := by decide +kernel
theorem dX12_years_183 : decode MX12_years.2.1 183 = .ok (.aload_n 0, 1) := by decide +kernel
theorem dX12_years_184 : decode MX12_years.2.1 184 = .ok (.aload_n 0, 1) := by decide +kernel
theorem dX12_years_185 : decode MX12_years.2.1 185 = .ok (.aload_n 0, 1) := by decide +kernel
theorem dX12_years_186 : decode MX12_years.2.1 186 = .ok (.getfield 39, 3) := by decide +kernel
theorem dX12_years_189 : decode MX12_years.2.1 189 = .ok (.bipush 48, 2) := by decide +kernel
theorem dX12_years_191 : decode MX12_years.2.1 191 = .ok (.invokevirtual 220, 3) := by decide +kernel
theorem dX12_years_194 : decode MX12_years.2.1 194 = .ok (.i2l, 1) := by decide +kernel
theorem dX12_years_195 : decode MX12_years.2.1 195 = .ok (.invokevirtual 253, 3) := by decide +kernel
theorem dX12_years_198 : decode MX12_years.2.1 198 = .ok (.aload_n 0, 1) := by decide +kernel
theorem dX12_years_199 : decode MX12_years.2.1 199 = .ok (.aload_n 0, 1) := by decide +kernel
theorem dX12_years_200 : decode MX12_years.2.1 200 = .ok (.getfield 39, 3) := by decide +kernel
theorem dX12_years_203 : decode MX12_years.2.1 203 = .ok (.bipush 42, 2) := by decide +kernel
theorem dX12_years_205 : decode MX12_years.2.1 205 = .ok (.invokevirtual 220, 3) := by decide +kernel
theorem dX12_years_208 : decode MX12_years.2.1 208 = .ok (.ireturn, 1) := by decide +kernel
theorem dX12_keep_0 : decode MX12_keep.2.1 0 = .ok (.aload_n 0, 1) := by decide +kernel
theorem dX12_keep_1 : decode MX12_keep.2.1 1 = .ok (.iconst 0, 1) := by decide +kernel
theorem dX12_keep_2 : decode MX12_keep.2.1 2 = .ok (.putfield 85, 3) := by decide +kernel
theorem dX12_keep_5 : decode MX12_keep.2.1 5 = .ok (.iload_n 1, 1) := by decide +kernel
theorem dX12_keep_6 : decode MX12_keep.2.1 6 = .ok (.iconst 0, 1) := by decide +kernel
theorem dX12_keep_7 : decode MX12_keep.2.1 7 = .ok (.iconst 1, 1) := by decide +kernel
theorem dX12_keep_8 : decode MX12_keep.2.1 8 = .ok (.invokestatic 95, 3) := by decide +kernel
theorem dX12_keep_11 : decode MX12_keep.2.1 11 = .ok (.ifCond .ne 5, 3) := by decide +kernel
theorem dX12_keep_14 : decode MX12_keep.2.1 14 = .ok (.iconst 0, 1) := by decide +kernel
theorem dX12_keep_15 : decode MX12_keep.2.1 15 = .ok (.ireturn, 1) := by decide +kernel
theorem dX12_keep_16 : decode MX12_keep.2.1 16 = .ok (.aload_n 0, 1) := by decide +kernel
theorem dX12_keep_17 : decode MX12_keep.2.1 17 = .ok (.getfield 78, 3) := by decide +kernel
theorem dX12_keep_20 : decode MX12_keep.2.1 20 = .ok (.iload_n 1, 1) := by decide +kernel
theorem dX12_keep_21 : decode MX12_keep.2.1 21 = .ok (.iconst 1, 1) := by decide +kernel
theorem dX12_keep_22 : decode MX12_keep.2.1 22 = .ok (.bastore, 1) := by decide +kernel
theorem dX12_keep_23 : decode MX12_keep.2.1 23 = .ok (.aload_n 0, 1) := by decide +kernel
theorem dX12_keep_24 : decode MX12_keep.2.1 24 = .ok (.getfield 82, 3) := by decide +kernel
theorem dX12_keep_27 : decode MX12_keep.2.1 27 = .ok (.iload_n 1, 1) := by decide +kernel
theorem dX12_keep_28 : decode MX12_keep.2.1 28 = .ok (.aload_n 0, 1) := by decide +kernel
theorem dX12_keep_29 : decode MX12_keep.2.1 29 = .ok (.getfield 158, 3) := by decide +kernel
theorem dX12_keep_32 : decode MX12_keep.2.1 32 = .ok (.iastore, 1) := by decide +kernel
theorem dX12_keep_33 : decode MX12_keep.2.1 33 = .ok (.aload_n 0, 1) := by decide +kernel
theorem dX12_keep_34 : decode MX12_keep.2.1 34 = .ok (.getfield 9, 3) := by decide +kernel
theorem dX12_keep_37 : decode MX12_keep.2.1 37 = .ok (.aload_n 0, 1) := by decide +kernel
theorem dX12_keep_38 : decode MX12_keep.2.1 38 = .ok (.getfield 75, 3) := by decide +kernel
theorem dX12_keep_41 : decode MX12_keep.2.1 41 = .ok (.bipush 103, 2) := by decide +kernel
theorem dX12_keep_43 : decode MX12_keep.2.1 43 = .ok (.iload_n 1, 1) := by decide +kernel
theorem dX12_keep_44 : decode MX12_keep.2.1 44 = .ok (.imul, 1) := by decide +kernel
theorem dX12_keep_45 : decode MX12_keep.2.1 45 = .ok (.invokestatic 223, 3) := by decide +kernel
theorem dX12_keep_48 : decode MX12_keep.2.1 48 = .ok (.iconst 1, 1) := by decide +kernel
theorem dX12_keep_49 : decode MX12_keep.2.1 49 = .ok (.ireturn, 1) := by decide +kernel
theorem dX12_again_0 : decode MX12_again.2.1 0 = .ok (.aload_n 0, 1) := by decide +kernel
theorem dX12_again_1 : decode MX12_again.2.1 1 = .ok (.iconst 0, 1) := by decide +kernel
theorem dX12_again_2 : decode MX12_again.2.1 2 = .ok (.putfield 85, 3) := by decide +kernel
theorem dX12_again_5 : decode MX12_again.2.1 5 = .ok (.iload_n 1, 1) := by decide +kernel
theorem dX12_again_6 : decode MX12_again.2.1 6 = .ok (.iconst 0, 1) := by decide +kernel
theorem dX12_again_7 : decode MX12_again.2.1 7 = .ok (.iconst 1, 1) := by decide +kernel
theorem dX12_again_8 : decode MX12_again.2.1 8 = .ok (.invokestatic 95, 3) := by decide +kernel
theorem dX12_again_11 : decode MX12_again.2.1 11 = .ok (.ifCond .eq 25, 3) := by decide +kernel
theorem dX12_again_14 : decode MX12_again.2.1 14 = .ok (.aload_n 0, 1) := by decide +kernel
theorem dX12_again_15 : decode MX12_again.2.1 15 = .ok (.getfield 78, 3) := by decide +kernel
theorem dX12_again_18 : decode MX12_again.2.1 18 = .ok (.iload_n 1, 1) := by decide +kernel
theorem dX12_again_19 : decode MX12_again.2.1 19 = .ok (.baload, 1) := by decide +kernel
theorem dX12_again_20 : decode MX12_again.2.1 20 = .ok (.ifCond .eq 16, 3) := by decide +kernel
theorem dX12_again_23 : decode MX12_again.2.1 23 = .ok (.aload_n 0, 1) := by decide +kernel
theorem dX12_again_24 : decode MX12_again.2.1 24 = .ok (.getfield 82, 3) := by decide +kernel
theorem dX12_again_27 : decode MX12_again.2.1 27 = .ok (.iload_n 1, 1) := by decide +kernel
theorem dX12_again_28 : decode MX12_again.2.1 28 = .ok (.iaload, 1) := by decide +kernel
theorem dX12_again_29 : decode MX12_again.2.1 29 = .ok (.aload_n 0, 1) := by decide +kernel
theorem dX12_again_30 : decode MX12_again.2.1 30 = .ok (.getfield 158, 3) := by decide +kernel
theorem dX12_again_33 : decode MX12_again.2.1 33 = .ok (.if_icmp .eq 5, 3) := by decide +kernel
theorem dX12_again_36 : decode MX12_again.2.1 36 = .ok (.iconst 0, 1) := by decide +kernel
theorem dX12_again_37 : decode MX12_again.2.1 37 = .ok (.ireturn, 1) := by decide +kernel
theorem dX12_again_38 : decode MX12_again.2.1 38 = .ok (.iconst 0, 1) := by decide +kernel
theorem dX12_again_39 : decode MX12_again.2.1 39 = .ok (.istore_n 2, 1) := by decide +kernel
theorem dX12_again_40 : decode MX12_again.2.1 40 = .ok (.iload_n 2, 1) := by decide +kernel
theorem dX12_again_41 : decode MX12_again.2.1 41 = .ok (.bipush 103, 2) := by decide +kernel
theorem dX12_again_43 : decode MX12_again.2.1 43 = .ok (.if_icmp .ge 26, 3) := by decide +kernel
theorem dX12_again_46 : decode MX12_again.2.1 46 = .ok (.aload_n 0, 1) := by decide +kernel
theorem dX12_again_47 : decode MX12_again.2.1 47 = .ok (.getfield 9, 3) := by decide +kernel
theorem dX12_again_50 : decode MX12_again.2.1 50 = .ok (.iload_n 2, 1) := by decide +kernel
theorem dX12_again_51 : decode MX12_again.2.1 51 = .ok (.aload_n 0, 1) := by decide +kernel
theorem dX12_again_52 : decode MX12_again.2.1 52 = .ok (.getfield 75, 3) := by decide +kernel
theorem dX12_again_55 : decode MX12_again.2.1 55 = .ok (.bipush 103, 2) := by decide +kernel
theorem dX12_again_57 : decode MX12_again.2.1 57 = .ok (.iload_n 1, 1) := by decide +kernel
theorem dX12_again_58 : decode MX12_again.2.1 58 = .ok (.imul, 1) := by decide +kernel
theorem dX12_again_59 : decode MX12_again.2.1 59 = .ok (.iload_n 2, 1) := by decide +kernel
theorem dX12_again_60 : decode MX12_again.2.1 60 = .ok (.iadd, 1) := by decide +kernel
theorem dX12_again_61 : decode MX12_again.2.1 61 = .ok (.iaload, 1) := by decide +kernel
theorem dX12_again_62 : decode MX12_again.2.1 62 = .ok (.iastore, 1) := by decide +kernel
theorem dX12_again_63 : decode MX12_again.2.1 63 = .ok (.iinc 2 1, 3) := by decide +kernel
theorem dX12_again_66 : decode MX12_again.2.1 66 = .ok (.goto (-26), 3) := by decide +kernel
theorem dX12_again_69 : decode MX12_again.2.1 69 = .ok (.aload_n 0, 1) := by decide +kernel
theorem dX12_again_70 : decode MX12_again.2.1 70 = .ok (.iconst 0, 1) := by decide +kernel
theorem dX12_again_71 : decode MX12_again.2.1 71 = .ok (.putfield 155, 3) := by decide +kernel
theorem dX12_again_74 : decode MX12_again.2.1 74 = .ok (.iconst 1, 1) := by decide +kernel
theorem dX12_again_75 : decode MX12_again.2.1 75 = .ok (.ireturn, 1) := by decide +kernel
theorem dX12_debts_0 : decode MX12_debts.2.1 0 = .ok (.iconst 0, 1) := by decide +kernel
theorem dX12_debts_1 : decode MX12_debts.2.1 1 = .ok (.istore_n 1, 1) := by decide +kernel
theorem dX12_debts_2 : decode MX12_debts.2.1 2 = .ok (.iconst 0, 1) := by decide +kernel
theorem dX12_debts_3 : decode MX12_debts.2.1 3 = .ok (.istore_n 2, 1) := by decide +kernel
theorem dX12_debts_4 : decode MX12_debts.2.1 4 = .ok (.iload_n 2, 1) := by decide +kernel
theorem dX12_debts_5 : decode MX12_debts.2.1 5 = .ok (.aload_n 0, 1) := by decide +kernel
theorem dX12_debts_6 : decode MX12_debts.2.1 6 = .ok (.getfield 92, 3) := by decide +kernel
theorem dX12_debts_9 : decode MX12_debts.2.1 9 = .ok (.if_icmp .ge 21, 3) := by decide +kernel
theorem dX12_debts_12 : decode MX12_debts.2.1 12 = .ok (.iload_n 1, 1) := by decide +kernel
theorem dX12_debts_13 : decode MX12_debts.2.1 13 = .ok (.aload_n 0, 1) := by decide +kernel
theorem dX12_debts_14 : decode MX12_debts.2.1 14 = .ok (.aload_n 0, 1) := by decide +kernel
theorem dX12_debts_15 : decode MX12_debts.2.1 15 = .ok (.getfield 9, 3) := by decide +kernel
theorem dX12_debts_18 : decode MX12_debts.2.1 18 = .ok (.iload_n 2, 1) := by decide +kernel
theorem dX12_debts_19 : decode MX12_debts.2.1 19 = .ok (.invokevirtual 205, 3) := by decide +kernel
theorem dX12_debts_22 : decode MX12_debts.2.1 22 = .ok (.iadd, 1) := by decide +kernel
theorem dX12_debts_23 : decode MX12_debts.2.1 23 = .ok (.istore_n 1, 1) := by decide +kernel
theorem dX12_debts_24 : decode MX12_debts.2.1 24 = .ok (.iinc 2 1, 3) := by decide +kernel
theorem dX12_debts_27 : decode MX12_debts.2.1 27 = .ok (.goto (-23), 3) := by decide +kernel
theorem dX12_debts_30 : decode MX12_debts.2.1 30 = .ok (.iload_n 1, 1) := by decide +kernel
theorem dX12_debts_31 : decode MX12_debts.2.1 31 = .ok (.ireturn, 1) := by decide +kernel
theorem dX12_ofAll_0 : decode MX12_ofAll.2.1 0 = .ok (.iconst 0, 1) := by decide +kernel
theorem dX12_ofAll_1 : decode MX12_ofAll.2.1 1 = .ok (.istore_n 2, 1) := by decide +kernel
theorem dX12_ofAll_2 : decode MX12_ofAll.2.1 2 = .ok (.iconst 0, 1) := by decide +kernel
theorem dX12_ofAll_3 : decode MX12_ofAll.2.1 3 = .ok (.istore_n 3, 1) := by decide +kernel
theorem dX12_ofAll_4 : decode MX12_ofAll.2.1 4 = .ok (.iload_n 3, 1) := by decide +kernel
theorem dX12_ofAll_5 : decode MX12_ofAll.2.1 5 = .ok (.aload_n 0, 1) := by decide +kernel
theorem dX12_ofAll_6 : decode MX12_ofAll.2.1 6 = .ok (.getfield 92, 3) := by decide +kernel
theorem dX12_ofAll_9 : decode MX12_ofAll.2.1 9 = .ok (.if_icmp .ge 69, 3) := by decide +kernel
theorem dX12_ofAll_12 : decode MX12_ofAll.2.1 12 = .ok (.iconst 0, 1) := by decide +kernel
theorem dX12_ofAll_13 : decode MX12_ofAll.2.1 13 = .ok (.istore 4, 2) := by decide +kernel
theorem dX12_ofAll_15 : decode MX12_ofAll.2.1 15 = .ok (.iload 4, 2) := by decide +kernel
theorem dX12_ofAll_17 : decode MX12_ofAll.2.1 17 = .ok (.aload_n 0, 1) := by decide +kernel
theorem dX12_ofAll_18 : decode MX12_ofAll.2.1 18 = .ok (.getfield 92, 3) := by decide +kernel
theorem dX12_ofAll_21 : decode MX12_ofAll.2.1 21 = .ok (.if_icmp .ge 51, 3) := by decide +kernel
theorem dX12_ofAll_24 : decode MX12_ofAll.2.1 24 = .ok (.iload_n 2, 1) := by decide +kernel
theorem dX12_ofAll_25 : decode MX12_ofAll.2.1 25 = .ok (.iload_n 3, 1) := by decide +kernel
theorem dX12_ofAll_26 : decode MX12_ofAll.2.1 26 = .ok (.iload 4, 2) := by decide +kernel
theorem dX12_ofAll_28 : decode MX12_ofAll.2.1 28 = .ok (.if_icmp .ne 7, 3) := by decide +kernel
theorem dX12_ofAll_31 : decode MX12_ofAll.2.1 31 = .ok (.iconst 0, 1) := by decide +kernel
theorem dX12_ofAll_32 : decode MX12_ofAll.2.1 32 = .ok (.goto 32, 3) := by decide +kernel
theorem dX12_ofAll_35 : decode MX12_ofAll.2.1 35 = .ok (.iload_n 1, 1) := by decide +kernel
theorem dX12_ofAll_36 : decode MX12_ofAll.2.1 36 = .ok (.ifCond .eq 17, 3) := by decide +kernel
theorem dX12_ofAll_39 : decode MX12_ofAll.2.1 39 = .ok (.aload_n 0, 1) := by decide +kernel
theorem dX12_ofAll_40 : decode MX12_ofAll.2.1 40 = .ok (.aload_n 0, 1) := by decide +kernel
theorem dX12_ofAll_41 : decode MX12_ofAll.2.1 41 = .ok (.getfield 9, 3) := by decide +kernel
theorem dX12_ofAll_44 : decode MX12_ofAll.2.1 44 = .ok (.iload_n 3, 1) := by decide +kernel
theorem dX12_ofAll_45 : decode MX12_ofAll.2.1 45 = .ok (.iload 4, 2) := by decide +kernel
theorem dX12_ofAll_47 : decode MX12_ofAll.2.1 47 = .ok (.invokevirtual 216, 3) := by decide +kernel
theorem dX12_ofAll_50 : decode MX12_ofAll.2.1 50 = .ok (.goto 14, 3) := by decide +kernel
theorem dX12_ofAll_53 : decode MX12_ofAll.2.1 53 = .ok (.aload_n 0, 1) := by decide +kernel
theorem dX12_ofAll_54 : decode MX12_ofAll.2.1 54 = .ok (.getfield 9, 3) := by decide +kernel
theorem dX12_ofAll_57 : decode MX12_ofAll.2.1 57 = .ok (.iload_n 3, 1) := by decide +kernel
theorem dX12_ofAll_58 : decode MX12_ofAll.2.1 58 = .ok (.iload 4, 2) := by decide +kernel
theorem dX12_ofAll_60 : decode MX12_ofAll.2.1 60 = .ok (.invokestatic 151, 3) := by decide +kernel
theorem dX12_ofAll_63 : decode MX12_ofAll.2.1 63 = .ok (.iaload, 1) := by decide +kernel
theorem dX12_ofAll_64 : decode MX12_ofAll.2.1 64 = .ok (.iadd, 1) := by decide +kernel
theorem dX12_ofAll_65 : decode MX12_ofAll.2.1 65 = .ok (.istore_n 2, 1) := by decide +kernel
theorem dX12_ofAll_66 : decode MX12_ofAll.2.1 66 = .ok (.iinc 4 1, 3) := by decide +kernel
theorem dX12_ofAll_69 : decode MX12_ofAll.2.1 69 = .ok (.goto (-54), 3) := by decide +kernel
theorem dX12_ofAll_72 : decode MX12_ofAll.2.1 72 = .ok (.iinc 3 1, 3) := by decide +kernel
theorem dX12_ofAll_75 : decode MX12_ofAll.2.1 75 = .ok (.goto (-71), 3) := by decide +kernel
theorem dX12_ofAll_78 : decode MX12_ofAll.2.1 78 = .ok (.iload_n 2, 1) := by decide +kernel
theorem dX12_ofAll_79 : decode MX12_ofAll.2.1 79 = .ok (.ireturn, 1) := by decide +kernel
theorem dX12_count_0 : decode MX12_count.2.1 0 = .ok (.aload_n 0, 1) := by decide +kernel
theorem dX12_count_1 : decode MX12_count.2.1 1 = .ok (.iconst 0, 1) := by decide +kernel
theorem dX12_count_2 : decode MX12_count.2.1 2 = .ok (.putfield 85, 3) := by decide +kernel
theorem dX12_count_5 : decode MX12_count.2.1 5 = .ok (.iload_n 1, 1) := by decide +kernel
theorem dX12_count_6 : decode MX12_count.2.1 6 = .ok (.tableswitch 167 0 13 #[70, 75, 83, 92, 103, 114, 125, 130, 136, 141, 146, 151, 156, 161], 70) := by decide +kernel
theorem dX12_count_76 : decode MX12_count.2.1 76 = .ok (.aload_n 0, 1) := by decide +kernel
theorem dX12_count_77 : decode MX12_count.2.1 77 = .ok (.getfield 92, 3) := by decide +kernel
theorem dX12_count_80 : decode MX12_count.2.1 80 = .ok (.ireturn, 1) := by decide +kernel
theorem dX12_count_81 : decode MX12_count.2.1 81 = .ok (.aload_n 0, 1) := by decide +kernel
theorem dX12_count_82 : decode MX12_count.2.1 82 = .ok (.getfield 9, 3) := by decide +kernel
theorem dX12_count_85 : decode MX12_count.2.1 85 = .ok (.bipush 102, 2) := by decide +kernel
theorem dX12_count_87 : decode MX12_count.2.1 87 = .ok (.iaload, 1) := by decide +kernel
theorem dX12_count_88 : decode MX12_count.2.1 88 = .ok (.ireturn, 1) := by decide +kernel
theorem dX12_count_89 : decode MX12_count.2.1 89 = .ok (.aload_n 0, 1) := by decide +kernel
theorem dX12_count_90 : decode MX12_count.2.1 90 = .ok (.aload_n 0, 1) := by decide +kernel
theorem dX12_count_91 : decode MX12_count.2.1 91 = .ok (.getfield 9, 3) := by decide +kernel
theorem dX12_count_94 : decode MX12_count.2.1 94 = .ok (.invokevirtual 235, 3) := by decide +kernel
theorem dX12_count_97 : decode MX12_count.2.1 97 = .ok (.ireturn, 1) := by decide +kernel
theorem dX12_count_98 : decode MX12_count.2.1 98 = .ok (.aload_n 0, 1) := by decide +kernel
theorem dX12_count_99 : decode MX12_count.2.1 99 = .ok (.aload_n 0, 1) := by decide +kernel
theorem dX12_count_100 : decode MX12_count.2.1 100 = .ok (.getfield 9, 3) := by decide +kernel
theorem dX12_count_103 : decode MX12_count.2.1 103 = .ok (.bipush 36, 2) := by decide +kernel
theorem dX12_count_105 : decode MX12_count.2.1 105 = .ok (.invokevirtual 220, 3) := by decide +kernel
theorem dX12_count_108 : decode MX12_count.2.1 108 = .ok (.ireturn, 1) := by decide +kernel
theorem dX12_count_109 : decode MX12_count.2.1 109 = .ok (.aload_n 0, 1) := by decide +kernel
theorem dX12_count_110 : decode MX12_count.2.1 110 = .ok (.aload_n 0, 1) := by decide +kernel
theorem dX12_count_111 : decode MX12_count.2.1 111 = .ok (.getfield 9, 3) := by decide +kernel
theorem dX12_count_114 : decode MX12_count.2.1 114 = .ok (.bipush 42, 2) := by decide +kernel
theorem dX12_count_116 : decode MX12_count.2.1 116 = .ok (.invokevirtual 220, 3) := by decide +kernel
theorem dX12_count_119 : decode MX12_count.2.1 119 = .ok (.ireturn, 1) := by decide +kernel
theorem dX12_count_120 : decode MX12_count.2.1 120 = .ok (.aload_n 0, 1) := by decide +kernel
theorem dX12_count_121 : decode MX12_count.2.1 121 = .ok (.aload_n 0, 1) := by decide +kernel
theorem dX12_count_122 : decode MX12_count.2.1 122 = .ok (.getfield 9, 3) := by decide +kernel
theorem dX12_count_125 : decode MX12_count.2.1 125 = .ok (.bipush 48, 2) := by decide +kernel
theorem dX12_count_127 : decode MX12_count.2.1 127 = .ok (.invokevirtual 220, 3) := by decide +kernel
theorem dX12_count_130 : decode MX12_count.2.1 130 = .ok (.ireturn, 1) := by decide +kernel
theorem dX12_count_131 : decode MX12_count.2.1 131 = .ok (.aload_n 0, 1) := by decide +kernel
theorem dX12_count_132 : decode MX12_count.2.1 132 = .ok (.invokevirtual 382, 3) := by decide +kernel
theorem dX12_count_135 : decode MX12_count.2.1 135 = .ok (.ireturn, 1) := by decide +kernel
theorem dX12_count_136 : decode MX12_count.2.1 136 = .ok (.aload_n 0, 1) := by decide +kernel
theorem dX12_count_137 : decode MX12_count.2.1 137 = .ok (.iconst 0, 1) := by decide +kernel
theorem dX12_count_138 : decode MX12_count.2.1 138 = .ok (.invokevirtual 385, 3) := by decide +kernel
theorem dX12_count_141 : decode MX12_count.2.1 141 = .ok (.ireturn, 1) := by decide +kernel
theorem dX12_count_142 : decode MX12_count.2.1 142 = .ok (.aload_n 0, 1) := by decide +kernel
theorem dX12_count_143 : decode MX12_count.2.1 143 = .ok (.getfield 318, 3) := by decide +kernel
theorem dX12_count_146 : decode MX12_count.2.1 146 = .ok (.ireturn, 1) := by decide +kernel
theorem dX12_count_147 : decode MX12_count.2.1 147 = .ok (.aload_n 0, 1) := by decide +kernel
theorem dX12_count_148 : decode MX12_count.2.1 148 = .ok (.getfield 328, 3) := by decide +kernel
theorem dX12_count_151 : decode MX12_count.2.1 151 = .ok (.ireturn, 1) := by decide +kernel
theorem dX12_count_152 : decode MX12_count.2.1 152 = .ok (.aload_n 0, 1) := by decide +kernel
theorem dX12_count_153 : decode MX12_count.2.1 153 = .ok (.getfield 155, 3) := by decide +kernel
theorem dX12_count_156 : decode MX12_count.2.1 156 = .ok (.ireturn, 1) := by decide +kernel
theorem dX12_count_157 : decode MX12_count.2.1 157 = .ok (.aload_n 0, 1) := by decide +kernel
theorem dX12_count_158 : decode MX12_count.2.1 158 = .ok (.getfield 89, 3) := by decide +kernel
theorem dX12_count_161 : decode MX12_count.2.1 161 = .ok (.ireturn, 1) := by decide +kernel
theorem dX12_count_162 : decode MX12_count.2.1 162 = .ok (.aload_n 0, 1) := by decide +kernel
theorem dX12_count_163 : decode MX12_count.2.1 163 = .ok (.getfield 103, 3) := by decide +kernel
theorem dX12_count_166 : decode MX12_count.2.1 166 = .ok (.ireturn, 1) := by decide +kernel
theorem dX12_count_167 : decode MX12_count.2.1 167 = .ok (.aload_n 0, 1) := by decide +kernel
theorem dX12_count_168 : decode MX12_count.2.1 168 = .ok (.iconst 1, 1) := by decide +kernel
theorem dX12_count_169 : decode MX12_count.2.1 169 = .ok (.invokevirtual 385, 3) := by decide +kernel
theorem dX12_count_172 : decode MX12_count.2.1 172 = .ok (.ireturn, 1) := by decide +kernel
theorem dX12_count_173 : decode MX12_count.2.1 173 = .ok (.iconst (-1), 1) := by decide +kernel
theorem dX12_count_174 : decode MX12_count.2.1 174 = .ok (.ireturn, 1) := by decide +kernel
theorem dX12_row_0 : decode MX12_row.2.1 0 = .ok (.aload_n 0, 1) := by decide +kernel
theorem dX12_row_1 : decode MX12_row.2.1 1 = .ok (.iconst 0, 1) := by decide +kernel
theorem dX12_row_2 : decode MX12_row.2.1 2 = .ok (.putfield 85, 3) := by decide +kernel
theorem dX12_row_5 : decode MX12_row.2.1 5 = .ok (.iload_n 1, 1) := by decide +kernel
theorem dX12_row_6 : decode MX12_row.2.1 6 = .ok (.iconst 0, 1) := by decide +kernel
theorem dX12_row_7 : decode MX12_row.2.1 7 = .ok (.aload_n 0, 1) := by decide +kernel
theorem dX12_row_8 : decode MX12_row.2.1 8 = .ok (.getfield 89, 3) := by decide +kernel
theorem dX12_row_11 : decode MX12_row.2.1 11 = .ok (.iconst 1, 1) := by decide +kernel
theorem dX12_row_12 : decode MX12_row.2.1 12 = .ok (.isub, 1) := by decide +kernel
theorem dX12_row_13 : decode MX12_row.2.1 13 = .ok (.invokestatic 95, 3) := by decide +kernel
theorem dX12_row_16 : decode MX12_row.2.1 16 = .ok (.ifCond .eq 12, 3) := by decide +kernel
theorem dX12_row_19 : decode MX12_row.2.1 19 = .ok (.aload_n 0, 1) := by decide +kernel
theorem dX12_row_20 : decode MX12_row.2.1 20 = .ok (.getfield 17, 3) := by decide +kernel
theorem dX12_row_23 : decode MX12_row.2.1 23 = .ok (.iload_n 1, 1) := by decide +kernel
theorem dX12_row_24 : decode MX12_row.2.1 24 = .ok (.laload, 1) := by decide +kernel
theorem dX12_row_25 : decode MX12_row.2.1 25 = .ok (.goto 8, 3) := by decide +kernel
theorem dX12_row_28 : decode MX12_row.2.1 28 = .ok (.aload_n 0, 1) := by decide +kernel
theorem dX12_row_29 : decode MX12_row.2.1 29 = .ok (.invokevirtual 202, 3) := by decide +kernel
theorem dX12_row_32 : decode MX12_row.2.1 32 = .ok (.i2l, 1) := by decide +kernel
theorem dX12_row_33 : decode MX12_row.2.1 33 = .ok (.lreturn, 1) := by decide +kernel
theorem dJ6_compare_7cf53_0 : decode MJ6_compare_7cf53.2.1 0 = .ok (.iload_n 0, 1) := by decide +kernel
theorem dJ6_compare_7cf53_1 : decode MJ6_compare_7cf53.2.1 1 = .ok (.iload_n 1, 1) := by decide +kernel
theorem dJ6_compare_7cf53_2 : decode MJ6_compare_7cf53.2.1 2 = .ok (.if_icmp .ge 7, 3) := by decide +kernel
theorem dJ6_compare_7cf53_5 : decode MJ6_compare_7cf53.2.1 5 = .ok (.iconst (-1), 1) := by decide +kernel
theorem dJ6_compare_7cf53_6 : decode MJ6_compare_7cf53.2.1 6 = .ok (.goto 13, 3) := by decide +kernel
theorem dJ6_compare_7cf53_9 : decode MJ6_compare_7cf53.2.1 9 = .ok (.iload_n 0, 1) := by decide +kernel
theorem dJ6_compare_7cf53_10 : decode MJ6_compare_7cf53.2.1 10 = .ok (.iload_n 1, 1) := by decide +kernel
theorem dJ6_compare_7cf53_11 : decode MJ6_compare_7cf53.2.1 11 = .ok (.if_icmp .ne 7, 3) := by decide +kernel
theorem dJ6_compare_7cf53_14 : decode MJ6_compare_7cf53.2.1 14 = .ok (.iconst 0, 1) := by decide +kernel
theorem dJ6_compare_7cf53_15 : decode MJ6_compare_7cf53.2.1 15 = .ok (.goto 4, 3) := by decide +kernel
theorem dJ6_compare_7cf53_18 : decode MJ6_compare_7cf53.2.1 18 = .ok (.iconst 1, 1) := by decide +kernel
theorem dJ6_compare_7cf53_19 : decode MJ6_compare_7cf53.2.1 19 = .ok (.ireturn, 1) := by decide +kernel
theorem dJ6_bitCount_0f7a4_0 : decode MJ6_bitCount_0f7a4.2.1 0 = .ok (.iload_n 0, 1) := by decide +kernel
theorem dJ6_bitCount_0f7a4_1 : decode MJ6_bitCount_0f7a4.2.1 1 = .ok (.iload_n 0, 1) := by decide +kernel
theorem dJ6_bitCount_0f7a4_2 : decode MJ6_bitCount_0f7a4.2.1 2 = .ok (.iconst 1, 1) := by decide +kernel
theorem dJ6_bitCount_0f7a4_3 : decode MJ6_bitCount_0f7a4.2.1 3 = .ok (.iushr, 1) := by decide +kernel
theorem dJ6_bitCount_0f7a4_4 : decode MJ6_bitCount_0f7a4.2.1 4 = .ok (.ldc_w 265, 3) := by decide +kernel
theorem dJ6_bitCount_0f7a4_7 : decode MJ6_bitCount_0f7a4.2.1 7 = .ok (.iand, 1) := by decide +kernel
theorem dJ6_bitCount_0f7a4_8 : decode MJ6_bitCount_0f7a4.2.1 8 = .ok (.isub, 1) := by decide +kernel
theorem dJ6_bitCount_0f7a4_9 : decode MJ6_bitCount_0f7a4.2.1 9 = .ok (.istore_n 0, 1) := by decide +kernel
theorem dJ6_bitCount_0f7a4_10 : decode MJ6_bitCount_0f7a4.2.1 10 = .ok (.iload_n 0, 1) := by decide +kernel
theorem dJ6_bitCount_0f7a4_11 : decode MJ6_bitCount_0f7a4.2.1 11 = .ok (.ldc_w 266, 3) := by decide +kernel
theorem dJ6_bitCount_0f7a4_14 : decode MJ6_bitCount_0f7a4.2.1 14 = .ok (.iand, 1) := by decide +kernel
theorem dJ6_bitCount_0f7a4_15 : decode MJ6_bitCount_0f7a4.2.1 15 = .ok (.iload_n 0, 1) := by decide +kernel
theorem dJ6_bitCount_0f7a4_16 : decode MJ6_bitCount_0f7a4.2.1 16 = .ok (.iconst 2, 1) := by decide +kernel
theorem dJ6_bitCount_0f7a4_17 : decode MJ6_bitCount_0f7a4.2.1 17 = .ok (.iushr, 1) := by decide +kernel
theorem dJ6_bitCount_0f7a4_18 : decode MJ6_bitCount_0f7a4.2.1 18 = .ok (.ldc_w 266, 3) := by decide +kernel
theorem dJ6_bitCount_0f7a4_21 : decode MJ6_bitCount_0f7a4.2.1 21 = .ok (.iand, 1) := by decide +kernel
theorem dJ6_bitCount_0f7a4_22 : decode MJ6_bitCount_0f7a4.2.1 22 = .ok (.iadd, 1) := by decide +kernel
theorem dJ6_bitCount_0f7a4_23 : decode MJ6_bitCount_0f7a4.2.1 23 = .ok (.istore_n 0, 1) := by decide +kernel
theorem dJ6_bitCount_0f7a4_24 : decode MJ6_bitCount_0f7a4.2.1 24 = .ok (.iload_n 0, 1) := by decide +kernel
theorem dJ6_bitCount_0f7a4_25 : decode MJ6_bitCount_0f7a4.2.1 25 = .ok (.iload_n 0, 1) := by decide +kernel
theorem dJ6_bitCount_0f7a4_26 : decode MJ6_bitCount_0f7a4.2.1 26 = .ok (.iconst 4, 1) := by decide +kernel
theorem dJ6_bitCount_0f7a4_27 : decode MJ6_bitCount_0f7a4.2.1 27 = .ok (.iushr, 1) := by decide +kernel
theorem dJ6_bitCount_0f7a4_28 : decode MJ6_bitCount_0f7a4.2.1 28 = .ok (.iadd, 1) := by decide +kernel
theorem dJ6_bitCount_0f7a4_29 : decode MJ6_bitCount_0f7a4.2.1 29 = .ok (.ldc_w 267, 3) := by decide +kernel
theorem dJ6_bitCount_0f7a4_32 : decode MJ6_bitCount_0f7a4.2.1 32 = .ok (.iand, 1) := by decide +kernel
theorem dJ6_bitCount_0f7a4_33 : decode MJ6_bitCount_0f7a4.2.1 33 = .ok (.istore_n 0, 1) := by decide +kernel
theorem dJ6_bitCount_0f7a4_34 : decode MJ6_bitCount_0f7a4.2.1 34 = .ok (.iload_n 0, 1) := by decide +kernel
theorem dJ6_bitCount_0f7a4_35 : decode MJ6_bitCount_0f7a4.2.1 35 = .ok (.iload_n 0, 1) := by decide +kernel
theorem dJ6_bitCount_0f7a4_36 : decode MJ6_bitCount_0f7a4.2.1 36 = .ok (.bipush 8, 2) := by decide +kernel
theorem dJ6_bitCount_0f7a4_38 : decode MJ6_bitCount_0f7a4.2.1 38 = .ok (.iushr, 1) := by decide +kernel
theorem dJ6_bitCount_0f7a4_39 : decode MJ6_bitCount_0f7a4.2.1 39 = .ok (.iadd, 1) := by decide +kernel
theorem dJ6_bitCount_0f7a4_40 : decode MJ6_bitCount_0f7a4.2.1 40 = .ok (.istore_n 0, 1) := by decide +kernel
theorem dJ6_bitCount_0f7a4_41 : decode MJ6_bitCount_0f7a4.2.1 41 = .ok (.iload_n 0, 1) := by decide +kernel
theorem dJ6_bitCount_0f7a4_42 : decode MJ6_bitCount_0f7a4.2.1 42 = .ok (.iload_n 0, 1) := by decide +kernel
theorem dJ6_bitCount_0f7a4_43 : decode MJ6_bitCount_0f7a4.2.1 43 = .ok (.bipush 16, 2) := by decide +kernel
theorem dJ6_bitCount_0f7a4_45 : decode MJ6_bitCount_0f7a4.2.1 45 = .ok (.iushr, 1) := by decide +kernel
theorem dJ6_bitCount_0f7a4_46 : decode MJ6_bitCount_0f7a4.2.1 46 = .ok (.iadd, 1) := by decide +kernel
theorem dJ6_bitCount_0f7a4_47 : decode MJ6_bitCount_0f7a4.2.1 47 = .ok (.istore_n 0, 1) := by decide +kernel
theorem dJ6_bitCount_0f7a4_48 : decode MJ6_bitCount_0f7a4.2.1 48 = .ok (.iload_n 0, 1) := by decide +kernel
theorem dJ6_bitCount_0f7a4_49 : decode MJ6_bitCount_0f7a4.2.1 49 = .ok (.bipush 63, 2) := by decide +kernel
theorem dJ6_bitCount_0f7a4_51 : decode MJ6_bitCount_0f7a4.2.1 51 = .ok (.iand, 1) := by decide +kernel
theorem dJ6_bitCount_0f7a4_52 : decode MJ6_bitCount_0f7a4.2.1 52 = .ok (.ireturn, 1) := by decide +kernel
theorem dJ9_abs_0f7a4_0 : decode MJ9_abs_0f7a4.2.1 0 = .ok (.iload_n 0, 1) := by decide +kernel
theorem dJ9_abs_0f7a4_1 : decode MJ9_abs_0f7a4.2.1 1 = .ok (.ifCond .ge 8, 3) := by decide +kernel
theorem dJ9_abs_0f7a4_4 : decode MJ9_abs_0f7a4.2.1 4 = .ok (.iload_n 0, 1) := by decide +kernel
theorem dJ9_abs_0f7a4_5 : decode MJ9_abs_0f7a4.2.1 5 = .ok (.ineg, 1) := by decide +kernel
theorem dJ9_abs_0f7a4_6 : decode MJ9_abs_0f7a4.2.1 6 = .ok (.goto 4, 3) := by decide +kernel
theorem dJ9_abs_0f7a4_9 : decode MJ9_abs_0f7a4.2.1 9 = .ok (.iload_n 0, 1) := by decide +kernel
theorem dJ9_abs_0f7a4_10 : decode MJ9_abs_0f7a4.2.1 10 = .ok (.ireturn, 1) := by decide +kernel
theorem dJ9_max_7cf53_0 : decode MJ9_max_7cf53.2.1 0 = .ok (.iload_n 0, 1) := by decide +kernel
theorem dJ9_max_7cf53_1 : decode MJ9_max_7cf53.2.1 1 = .ok (.iload_n 1, 1) := by decide +kernel
theorem dJ9_max_7cf53_2 : decode MJ9_max_7cf53.2.1 2 = .ok (.if_icmp .lt 7, 3) := by decide +kernel
theorem dJ9_max_7cf53_5 : decode MJ9_max_7cf53.2.1 5 = .ok (.iload_n 0, 1) := by decide +kernel
theorem dJ9_max_7cf53_6 : decode MJ9_max_7cf53.2.1 6 = .ok (.goto 4, 3) := by decide +kernel
theorem dJ9_max_7cf53_9 : decode MJ9_max_7cf53.2.1 9 = .ok (.iload_n 1, 1) := by decide +kernel
theorem dJ9_max_7cf53_10 : decode MJ9_max_7cf53.2.1 10 = .ok (.ireturn, 1) := by decide +kernel
theorem dJ9_max_f86c9_0 : decode MJ9_max_f86c9.2.1 0 = .ok (.lload_n 0, 1) := by decide +kernel
theorem dJ9_max_f86c9_1 : decode MJ9_max_f86c9.2.1 1 = .ok (.lload_n 2, 1) := by decide +kernel
theorem dJ9_max_f86c9_2 : decode MJ9_max_f86c9.2.1 2 = .ok (.lcmp, 1) := by decide +kernel
theorem dJ9_max_f86c9_3 : decode MJ9_max_f86c9.2.1 3 = .ok (.ifCond .lt 7, 3) := by decide +kernel
theorem dJ9_max_f86c9_6 : decode MJ9_max_f86c9.2.1 6 = .ok (.lload_n 0, 1) := by decide +kernel
theorem dJ9_max_f86c9_7 : decode MJ9_max_f86c9.2.1 7 = .ok (.goto 4, 3) := by decide +kernel
theorem dJ9_max_f86c9_10 : decode MJ9_max_f86c9.2.1 10 = .ok (.lload_n 2, 1) := by decide +kernel
theorem dJ9_max_f86c9_11 : decode MJ9_max_f86c9.2.1 11 = .ok (.lreturn, 1) := by decide +kernel
theorem dJ9_min_7cf53_0 : decode MJ9_min_7cf53.2.1 0 = .ok (.iload_n 0, 1) := by decide +kernel
theorem dJ9_min_7cf53_1 : decode MJ9_min_7cf53.2.1 1 = .ok (.iload_n 1, 1) := by decide +kernel
theorem dJ9_min_7cf53_2 : decode MJ9_min_7cf53.2.1 2 = .ok (.if_icmp .gt 7, 3) := by decide +kernel
theorem dJ9_min_7cf53_5 : decode MJ9_min_7cf53.2.1 5 = .ok (.iload_n 0, 1) := by decide +kernel
theorem dJ9_min_7cf53_6 : decode MJ9_min_7cf53.2.1 6 = .ok (.goto 4, 3) := by decide +kernel
theorem dJ9_min_7cf53_9 : decode MJ9_min_7cf53.2.1 9 = .ok (.iload_n 1, 1) := by decide +kernel
theorem dJ9_min_7cf53_10 : decode MJ9_min_7cf53.2.1 10 = .ok (.ireturn, 1) := by decide +kernel
theorem dL_person_0 : decode ML_person.2.1 0 = .ok (.aload_n 3, 1) := by decide +kernel
theorem dL_person_1 : decode ML_person.2.1 1 = .ok (.iconst 0, 1) := by decide +kernel
theorem dL_person_2 : decode ML_person.2.1 2 = .ok (.aload_n 0, 1) := by decide +kernel
theorem dL_person_3 : decode ML_person.2.1 3 = .ok (.iload_n 1, 1) := by decide +kernel
theorem dL_person_4 : decode ML_person.2.1 4 = .ok (.iload_n 2, 1) := by decide +kernel
theorem dL_person_5 : decode ML_person.2.1 5 = .ok (.invokevirtual 7, 3) := by decide +kernel
theorem dL_person_8 : decode ML_person.2.1 8 = .ok (.i2l, 1) := by decide +kernel
theorem dL_person_9 : decode ML_person.2.1 9 = .ok (.lastore, 1) := by decide +kernel
theorem dL_person_10 : decode ML_person.2.1 10 = .ok (.goto 7, 3) := by decide +kernel
theorem dL_person_13 : decode ML_person.2.1 13 = .ok (.astore 4, 2) := by decide +kernel
theorem dL_person_15 : decode ML_person.2.1 15 = .ok (.iconst 1, 1) := by decide +kernel
theorem dL_person_16 : decode ML_person.2.1 16 = .ok (.ireturn, 1) := by decide +kernel
theorem dL_person_17 : decode ML_person.2.1 17 = .ok (.iconst 0, 1) := by decide +kernel
theorem dL_person_18 : decode ML_person.2.1 18 = .ok (.ireturn, 1) := by decide +kernel
theorem dL_between_0 : decode ML_between.2.1 0 = .ok (.aload 4, 2) := by decide +kernel
theorem dL_between_2 : decode ML_between.2.1 2 = .ok (.iconst 0, 1) := by decide +kernel
theorem dL_between_3 : decode ML_between.2.1 3 = .ok (.aload_n 0, 1) := by decide +kernel
theorem dL_between_4 : decode ML_between.2.1 4 = .ok (.iload_n 1, 1) := by decide +kernel
theorem dL_between_5 : decode ML_between.2.1 5 = .ok (.iload_n 2, 1) := by decide +kernel
theorem dL_between_6 : decode ML_between.2.1 6 = .ok (.iload_n 3, 1) := by decide +kernel
theorem dL_between_7 : decode ML_between.2.1 7 = .ok (.invokevirtual 15, 3) := by decide +kernel
theorem dL_between_10 : decode ML_between.2.1 10 = .ok (.i2l, 1) := by decide +kernel
theorem dL_between_11 : decode ML_between.2.1 11 = .ok (.lastore, 1) := by decide +kernel
theorem dL_between_12 : decode ML_between.2.1 12 = .ok (.goto 7, 3) := by decide +kernel
theorem dL_between_15 : decode ML_between.2.1 15 = .ok (.astore 5, 2) := by decide +kernel
theorem dL_between_17 : decode ML_between.2.1 17 = .ok (.iconst 1, 1) := by decide +kernel
theorem dL_between_18 : decode ML_between.2.1 18 = .ok (.ireturn, 1) := by decide +kernel
theorem dL_between_19 : decode ML_between.2.1 19 = .ok (.iconst 0, 1) := by decide +kernel
theorem dL_between_20 : decode ML_between.2.1 20 = .ok (.ireturn, 1) := by decide +kernel
theorem dL_row_0 : decode ML_row.2.1 0 = .ok (.aload_n 2, 1) := by decide +kernel
theorem dL_row_1 : decode ML_row.2.1 1 = .ok (.iconst 0, 1) := by decide +kernel
theorem dL_row_2 : decode ML_row.2.1 2 = .ok (.aload_n 0, 1) := by decide +kernel
theorem dL_row_3 : decode ML_row.2.1 3 = .ok (.iload_n 1, 1) := by decide +kernel
theorem dL_row_4 : decode ML_row.2.1 4 = .ok (.invokevirtual 19, 3) := by decide +kernel
theorem dL_row_7 : decode ML_row.2.1 7 = .ok (.lastore, 1) := by decide +kernel
theorem dL_row_8 : decode ML_row.2.1 8 = .ok (.goto 6, 3) := by decide +kernel
theorem dL_row_11 : decode ML_row.2.1 11 = .ok (.astore_n 3, 1) := by decide +kernel
theorem dL_row_12 : decode ML_row.2.1 12 = .ok (.iconst 1, 1) := by decide +kernel
theorem dL_row_13 : decode ML_row.2.1 13 = .ok (.ireturn, 1) := by decide +kernel
theorem dL_row_14 : decode ML_row.2.1 14 = .ok (.iconst 0, 1) := by decide +kernel
theorem dL_row_15 : decode ML_row.2.1 15 = .ok (.ireturn, 1) := by decide +kernel
theorem dL_law_0 : decode ML_law.2.1 0 = .ok (.new 8, 3) := by decide +kernel
theorem dL_law_3 : decode ML_law.2.1 3 = .ok (.dup, 1) := by decide +kernel
theorem dL_law_4 : decode ML_law.2.1 4 = .ok (.invokespecial 23, 3) := by decide +kernel
theorem dL_law_7 : decode ML_law.2.1 7 = .ok (.astore_n 1, 1) := by decide +kernel
theorem dL_law_8 : decode ML_law.2.1 8 = .ok (.new 24, 3) := by decide +kernel
theorem dL_law_11 : decode ML_law.2.1 11 = .ok (.dup, 1) := by decide +kernel
theorem dL_law_12 : decode ML_law.2.1 12 = .ok (.invokespecial 26, 3) := by decide +kernel
theorem dL_law_15 : decode ML_law.2.1 15 = .ok (.astore_n 2, 1) := by decide +kernel
theorem dL_law_16 : decode ML_law.2.1 16 = .ok (.iconst 1, 1) := by decide +kernel
theorem dL_law_17 : decode ML_law.2.1 17 = .ok (.newarray .long, 2) := by decide +kernel
theorem dL_law_19 : decode ML_law.2.1 19 = .ok (.astore_n 3, 1) := by decide +kernel
theorem dL_law_20 : decode ML_law.2.1 20 = .ok (.iconst 0, 1) := by decide +kernel
theorem dL_law_21 : decode ML_law.2.1 21 = .ok (.istore 4, 2) := by decide +kernel
theorem dL_law_23 : decode ML_law.2.1 23 = .ok (.iload 4, 2) := by decide +kernel
theorem dL_law_25 : decode ML_law.2.1 25 = .ok (.aload_n 0, 1) := by decide +kernel
theorem dL_law_26 : decode ML_law.2.1 26 = .ok (.arraylength, 1) := by decide +kernel
theorem dL_law_27 : decode ML_law.2.1 27 = .ok (.iconst 5, 1) := by decide +kernel
theorem dL_law_28 : decode ML_law.2.1 28 = .ok (.isub, 1) := by decide +kernel
theorem dL_law_29 : decode ML_law.2.1 29 = .ok (.if_icmp .gt 1522, 3) := by decide +kernel
theorem dL_law_32 : decode ML_law.2.1 32 = .ok (.aload_n 0, 1) := by decide +kernel
theorem dL_law_33 : decode ML_law.2.1 33 = .ok (.iload 4, 2) := by decide +kernel
theorem dL_law_35 : decode ML_law.2.1 35 = .ok (.iaload, 1) := by decide +kernel
theorem dL_law_36 : decode ML_law.2.1 36 = .ok (.bipush 63, 2) := by decide +kernel
theorem dL_law_38 : decode ML_law.2.1 38 = .ok (.iand, 1) := by decide +kernel
theorem dL_law_39 : decode ML_law.2.1 39 = .ok (.tableswitch 1506 0 44 #[193, 218, 243, 256, 269, 337, 417, 478, 503, 540, 565, 614, 663, 676, 689, 714, 751, 776, 801, 826, 863, 912, 925, 938, 963, 1012, 1025, 1038, 1051, 1088, 1101, 1114, 1127, 1176, 1189, 1202, 1215, 1252, 1289, 1326, 1339, 1376, 1401, 1426, 1451], 193) := by decide +kernel
theorem dL_law_232 : decode ML_law.2.1 232 = .ok (.aload_n 1, 1) := by decide +kernel
theorem dL_law_233 : decode ML_law.2.1 233 = .ok (.aload_n 0, 1) := by decide +kernel
theorem dL_law_234 : decode ML_law.2.1 234 = .ok (.iload 4, 2) := by decide +kernel
theorem dL_law_236 : decode ML_law.2.1 236 = .ok (.iconst 1, 1) := by decide +kernel
theorem dL_law_237 : decode ML_law.2.1 237 = .ok (.iadd, 1) := by decide +kernel
theorem dL_law_238 : decode ML_law.2.1 238 = .ok (.iaload, 1) := by decide +kernel
theorem dL_law_239 : decode ML_law.2.1 239 = .ok (.invokevirtual 27, 3) := by decide +kernel
theorem dL_law_242 : decode ML_law.2.1 242 = .ok (.aload_n 2, 1) := by decide +kernel
theorem dL_law_243 : decode ML_law.2.1 243 = .ok (.aload_n 0, 1) := by decide +kernel
theorem dL_law_244 : decode ML_law.2.1 244 = .ok (.iload 4, 2) := by decide +kernel
theorem dL_law_246 : decode ML_law.2.1 246 = .ok (.iconst 1, 1) := by decide +kernel
theorem dL_law_247 : decode ML_law.2.1 247 = .ok (.iadd, 1) := by decide +kernel
theorem dL_law_248 : decode ML_law.2.1 248 = .ok (.iaload, 1) := by decide +kernel
theorem dL_law_249 : decode ML_law.2.1 249 = .ok (.invokevirtual 31, 3) := by decide +kernel
theorem dL_law_252 : decode ML_law.2.1 252 = .ok (.if_icmp .eq 1293, 3) := by decide +kernel
theorem dL_law_255 : decode ML_law.2.1 255 = .ok (.iconst 0, 1) := by decide +kernel
theorem dL_law_256 : decode ML_law.2.1 256 = .ok (.ireturn, 1) := by decide +kernel
theorem dL_law_257 : decode ML_law.2.1 257 = .ok (.aload_n 1, 1) := by decide +kernel
theorem dL_law_258 : decode ML_law.2.1 258 = .ok (.aload_n 0, 1) := by decide +kernel
theorem dL_law_259 : decode ML_law.2.1 259 = .ok (.iload 4, 2) := by decide +kernel
theorem dL_law_261 : decode ML_law.2.1 261 = .ok (.iconst 1, 1) := by decide +kernel
theorem dL_law_262 : decode ML_law.2.1 262 = .ok (.iadd, 1) := by decide +kernel
theorem dL_law_263 : decode ML_law.2.1 263 = .ok (.iaload, 1) := by decide +kernel
theorem dL_law_264 : decode ML_law.2.1 264 = .ok (.invokevirtual 32, 3) := by decide +kernel
theorem dL_law_267 : decode ML_law.2.1 267 = .ok (.aload_n 2, 1) := by decide +kernel
theorem dL_law_268 : decode ML_law.2.1 268 = .ok (.aload_n 0, 1) := by decide +kernel
theorem dL_law_269 : decode ML_law.2.1 269 = .ok (.iload 4, 2) := by decide +kernel
theorem dL_law_271 : decode ML_law.2.1 271 = .ok (.iconst 1, 1) := by decide +kernel
theorem dL_law_272 : decode ML_law.2.1 272 = .ok (.iadd, 1) := by decide +kernel
theorem dL_law_273 : decode ML_law.2.1 273 = .ok (.iaload, 1) := by decide +kernel
theorem dL_law_274 : decode ML_law.2.1 274 = .ok (.invokevirtual 36, 3) := by decide +kernel
theorem dL_law_277 : decode ML_law.2.1 277 = .ok (.if_icmp .eq 1268, 3) := by decide +kernel
theorem dL_law_280 : decode ML_law.2.1 280 = .ok (.iconst 0, 1) := by decide +kernel
theorem dL_law_281 : decode ML_law.2.1 281 = .ok (.ireturn, 1) := by decide +kernel
theorem dL_law_282 : decode ML_law.2.1 282 = .ok (.aload_n 1, 1) := by decide +kernel
theorem dL_law_283 : decode ML_law.2.1 283 = .ok (.invokevirtual 37, 3) := by decide +kernel
theorem dL_law_286 : decode ML_law.2.1 286 = .ok (.aload_n 2, 1) := by decide +kernel
theorem dL_law_287 : decode ML_law.2.1 287 = .ok (.invokevirtual 41, 3) := by decide +kernel
theorem dL_law_290 : decode ML_law.2.1 290 = .ok (.if_icmp .eq 1255, 3) := by decide +kernel
theorem dL_law_293 : decode ML_law.2.1 293 = .ok (.iconst 0, 1) := by decide +kernel
theorem dL_law_294 : decode ML_law.2.1 294 = .ok (.ireturn, 1) := by decide +kernel
theorem dL_law_295 : decode ML_law.2.1 295 = .ok (.aload_n 1, 1) := by decide +kernel
theorem dL_law_296 : decode ML_law.2.1 296 = .ok (.invokevirtual 42, 3) := by decide +kernel
theorem dL_law_299 : decode ML_law.2.1 299 = .ok (.aload_n 2, 1) := by decide +kernel
theorem dL_law_300 : decode ML_law.2.1 300 = .ok (.invokevirtual 45, 3) := by decide +kernel
theorem dL_law_303 : decode ML_law.2.1 303 = .ok (.if_icmp .eq 1242, 3) := by decide +kernel
theorem dL_law_306 : decode ML_law.2.1 306 = .ok (.iconst 0, 1) := by decide +kernel
theorem dL_law_307 : decode ML_law.2.1 307 = .ok (.ireturn, 1) := by decide +kernel
theorem dL_law_308 : decode ML_law.2.1 308 = .ok (.aload_n 1, 1) := by decide +kernel
theorem dL_law_309 : decode ML_law.2.1 309 = .ok (.aload_n 0, 1) := by decide +kernel
theorem dL_law_310 : decode ML_law.2.1 310 = .ok (.iload 4, 2) := by decide +kernel
theorem dL_law_312 : decode ML_law.2.1 312 = .ok (.iconst 1, 1) := by decide +kernel
theorem dL_law_313 : decode ML_law.2.1 313 = .ok (.iadd, 1) := by decide +kernel
theorem dL_law_314 : decode ML_law.2.1 314 = .ok (.iaload, 1) := by decide +kernel
theorem dL_law_315 : decode ML_law.2.1 315 = .ok (.aload_n 0, 1) := by decide +kernel
theorem dL_law_316 : decode ML_law.2.1 316 = .ok (.iload 4, 2) := by decide +kernel
theorem dL_law_318 : decode ML_law.2.1 318 = .ok (.iconst 2, 1) := by decide +kernel
theorem dL_law_319 : decode ML_law.2.1 319 = .ok (.iadd, 1) := by decide +kernel
theorem dL_law_320 : decode ML_law.2.1 320 = .ok (.iaload, 1) := by decide +kernel
theorem dL_law_321 : decode ML_law.2.1 321 = .ok (.aload_n 3, 1) := by decide +kernel
theorem dL_law_322 : decode ML_law.2.1 322 = .ok (.invokestatic 46, 3) := by decide +kernel
theorem dL_law_325 : decode ML_law.2.1 325 = .ok (.istore 5, 2) := by decide +kernel
theorem dL_law_327 : decode ML_law.2.1 327 = .ok (.aload_n 2, 1) := by decide +kernel
theorem dL_law_328 : decode ML_law.2.1 328 = .ok (.aload_n 0, 1) := by decide +kernel
theorem dL_law_329 : decode ML_law.2.1 329 = .ok (.iload 4, 2) := by decide +kernel
theorem dL_law_331 : decode ML_law.2.1 331 = .ok (.iconst 1, 1) := by decide +kernel
theorem dL_law_332 : decode ML_law.2.1 332 = .ok (.iadd, 1) := by decide +kernel
theorem dL_law_333 : decode ML_law.2.1 333 = .ok (.iaload, 1) := by decide +kernel
theorem dL_law_334 : decode ML_law.2.1 334 = .ok (.aload_n 0, 1) := by decide +kernel
theorem dL_law_335 : decode ML_law.2.1 335 = .ok (.iload 4, 2) := by decide +kernel
theorem dL_law_337 : decode ML_law.2.1 337 = .ok (.iconst 2, 1) := by decide +kernel
theorem dL_law_338 : decode ML_law.2.1 338 = .ok (.iadd, 1) := by decide +kernel
theorem dL_law_339 : decode ML_law.2.1 339 = .ok (.iaload, 1) := by decide +kernel
theorem dL_law_340 : decode ML_law.2.1 340 = .ok (.invokevirtual 51, 3) := by decide +kernel
theorem dL_law_343 : decode ML_law.2.1 343 = .ok (.istore 6, 2) := by decide +kernel
theorem dL_law_345 : decode ML_law.2.1 345 = .ok (.aload_n 2, 1) := by decide +kernel
theorem dL_law_346 : decode ML_law.2.1 346 = .ok (.invokevirtual 52, 3) := by decide +kernel
theorem dL_law_349 : decode ML_law.2.1 349 = .ok (.iload 5, 2) := by decide +kernel
theorem dL_law_351 : decode ML_law.2.1 351 = .ok (.if_icmp .eq 5, 3) := by decide +kernel
theorem dL_law_354 : decode ML_law.2.1 354 = .ok (.iconst 0, 1) := by decide +kernel
theorem dL_law_355 : decode ML_law.2.1 355 = .ok (.ireturn, 1) := by decide +kernel
theorem dL_law_356 : decode ML_law.2.1 356 = .ok (.iload 5, 2) := by decide +kernel
theorem dL_law_358 : decode ML_law.2.1 358 = .ok (.ifCond .ne 15, 3) := by decide +kernel
theorem dL_law_361 : decode ML_law.2.1 361 = .ok (.aload_n 3, 1) := by decide +kernel
theorem dL_law_362 : decode ML_law.2.1 362 = .ok (.iconst 0, 1) := by decide +kernel
theorem dL_law_363 : decode ML_law.2.1 363 = .ok (.laload, 1) := by decide +kernel
theorem dL_law_364 : decode ML_law.2.1 364 = .ok (.iload 6, 2) := by decide +kernel
theorem dL_law_366 : decode ML_law.2.1 366 = .ok (.i2l, 1) := by decide +kernel
theorem dL_law_367 : decode ML_law.2.1 367 = .ok (.lcmp, 1) := by decide +kernel
theorem dL_law_368 : decode ML_law.2.1 368 = .ok (.ifCond .eq 5, 3) := by decide +kernel
theorem dL_law_371 : decode ML_law.2.1 371 = .ok (.iconst 0, 1) := by decide +kernel
theorem dL_law_372 : decode ML_law.2.1 372 = .ok (.ireturn, 1) := by decide +kernel
theorem dL_law_373 : decode ML_law.2.1 373 = .ok (.goto 1172, 3) := by decide +kernel
theorem dL_law_376 : decode ML_law.2.1 376 = .ok (.aload_n 1, 1) := by decide +kernel
theorem dL_law_377 : decode ML_law.2.1 377 = .ok (.aload_n 0, 1) := by decide +kernel
theorem dL_law_378 : decode ML_law.2.1 378 = .ok (.iload 4, 2) := by decide +kernel
theorem dL_law_380 : decode ML_law.2.1 380 = .ok (.iconst 1, 1) := by decide +kernel
theorem dL_law_381 : decode ML_law.2.1 381 = .ok (.iadd, 1) := by decide +kernel
theorem dL_law_382 : decode ML_law.2.1 382 = .ok (.iaload, 1) := by decide +kernel
theorem dL_law_383 : decode ML_law.2.1 383 = .ok (.aload_n 0, 1) := by decide +kernel
theorem dL_law_384 : decode ML_law.2.1 384 = .ok (.iload 4, 2) := by decide +kernel
theorem dL_law_386 : decode ML_law.2.1 386 = .ok (.iconst 2, 1) := by decide +kernel
theorem dL_law_387 : decode ML_law.2.1 387 = .ok (.iadd, 1) := by decide +kernel
theorem dL_law_388 : decode ML_law.2.1 388 = .ok (.iaload, 1) := by decide +kernel
theorem dL_law_389 : decode ML_law.2.1 389 = .ok (.aload_n 0, 1) := by decide +kernel
theorem dL_law_390 : decode ML_law.2.1 390 = .ok (.iload 4, 2) := by decide +kernel
theorem dL_law_392 : decode ML_law.2.1 392 = .ok (.iconst 3, 1) := by decide +kernel
theorem dL_law_393 : decode ML_law.2.1 393 = .ok (.iadd, 1) := by decide +kernel
theorem dL_law_394 : decode ML_law.2.1 394 = .ok (.iaload, 1) := by decide +kernel
theorem dL_law_395 : decode ML_law.2.1 395 = .ok (.aload_n 3, 1) := by decide +kernel
theorem dL_law_396 : decode ML_law.2.1 396 = .ok (.invokestatic 55, 3) := by decide +kernel
theorem dL_law_399 : decode ML_law.2.1 399 = .ok (.istore 5, 2) := by decide +kernel
theorem dL_law_401 : decode ML_law.2.1 401 = .ok (.aload_n 2, 1) := by decide +kernel
theorem dL_law_402 : decode ML_law.2.1 402 = .ok (.aload_n 0, 1) := by decide +kernel
theorem dL_law_403 : decode ML_law.2.1 403 = .ok (.iload 4, 2) := by decide +kernel
theorem dL_law_405 : decode ML_law.2.1 405 = .ok (.iconst 1, 1) := by decide +kernel
theorem dL_law_406 : decode ML_law.2.1 406 = .ok (.iadd, 1) := by decide +kernel
theorem dL_law_407 : decode ML_law.2.1 407 = .ok (.iaload, 1) := by decide +kernel
theorem dL_law_408 : decode ML_law.2.1 408 = .ok (.aload_n 0, 1) := by decide +kernel
theorem dL_law_409 : decode ML_law.2.1 409 = .ok (.iload 4, 2) := by decide +kernel
theorem dL_law_411 : decode ML_law.2.1 411 = .ok (.iconst 2, 1) := by decide +kernel
theorem dL_law_412 : decode ML_law.2.1 412 = .ok (.iadd, 1) := by decide +kernel
theorem dL_law_413 : decode ML_law.2.1 413 = .ok (.iaload, 1) := by decide +kernel
theorem dL_law_414 : decode ML_law.2.1 414 = .ok (.aload_n 0, 1) := by decide +kernel
theorem dL_law_415 : decode ML_law.2.1 415 = .ok (.iload 4, 2) := by decide +kernel
theorem dL_law_417 : decode ML_law.2.1 417 = .ok (.iconst 3, 1) := by decide +kernel
theorem dL_law_418 : decode ML_law.2.1 418 = .ok (.iadd, 1) := by decide +kernel
theorem dL_law_419 : decode ML_law.2.1 419 = .ok (.iaload, 1) := by decide +kernel
theorem dL_law_420 : decode ML_law.2.1 420 = .ok (.invokevirtual 58, 3) := by decide +kernel
theorem dL_law_423 : decode ML_law.2.1 423 = .ok (.istore 6, 2) := by decide +kernel
theorem dL_law_425 : decode ML_law.2.1 425 = .ok (.aload_n 2, 1) := by decide +kernel
theorem dL_law_426 : decode ML_law.2.1 426 = .ok (.invokevirtual 52, 3) := by decide +kernel
theorem dL_law_429 : decode ML_law.2.1 429 = .ok (.iload 5, 2) := by decide +kernel
theorem dL_law_431 : decode ML_law.2.1 431 = .ok (.if_icmp .eq 5, 3) := by decide +kernel
theorem dL_law_434 : decode ML_law.2.1 434 = .ok (.iconst 0, 1) := by decide +kernel
theorem dL_law_435 : decode ML_law.2.1 435 = .ok (.ireturn, 1) := by decide +kernel
theorem dL_law_436 : decode ML_law.2.1 436 = .ok (.iload 5, 2) := by decide +kernel
theorem dL_law_438 : decode ML_law.2.1 438 = .ok (.ifCond .ne 15, 3) := by decide +kernel
theorem dL_law_441 : decode ML_law.2.1 441 = .ok (.aload_n 3, 1) := by decide +kernel
theorem dL_law_442 : decode ML_law.2.1 442 = .ok (.iconst 0, 1) := by decide +kernel
theorem dL_law_443 : decode ML_law.2.1 443 = .ok (.laload, 1) := by decide +kernel
theorem dL_law_444 : decode ML_law.2.1 444 = .ok (.iload 6, 2) := by decide +kernel
theorem dL_law_446 : decode ML_law.2.1 446 = .ok (.i2l, 1) := by decide +kernel
theorem dL_law_447 : decode ML_law.2.1 447 = .ok (.lcmp, 1) := by decide +kernel
theorem dL_law_448 : decode ML_law.2.1 448 = .ok (.ifCond .eq 5, 3) := by decide +kernel
theorem dL_law_451 : decode ML_law.2.1 451 = .ok (.iconst 0, 1) := by decide +kernel
theorem dL_law_452 : decode ML_law.2.1 452 = .ok (.ireturn, 1) := by decide +kernel
theorem dL_law_453 : decode ML_law.2.1 453 = .ok (.goto 1092, 3) := by decide +kernel
theorem dL_law_456 : decode ML_law.2.1 456 = .ok (.aload_n 1, 1) := by decide +kernel
theorem dL_law_457 : decode ML_law.2.1 457 = .ok (.aload_n 0, 1) := by decide +kernel
theorem dL_law_458 : decode ML_law.2.1 458 = .ok (.iload 4, 2) := by decide +kernel
theorem dL_law_460 : decode ML_law.2.1 460 = .ok (.iconst 1, 1) := by decide +kernel
theorem dL_law_461 : decode ML_law.2.1 461 = .ok (.iadd, 1) := by decide +kernel
theorem dL_law_462 : decode ML_law.2.1 462 = .ok (.iaload, 1) := by decide +kernel
theorem dL_law_463 : decode ML_law.2.1 463 = .ok (.aload_n 0, 1) := by decide +kernel
theorem dL_law_464 : decode ML_law.2.1 464 = .ok (.iload 4, 2) := by decide +kernel
theorem dL_law_466 : decode ML_law.2.1 466 = .ok (.iconst 2, 1) := by decide +kernel
theorem dL_law_467 : decode ML_law.2.1 467 = .ok (.iadd, 1) := by decide +kernel
theorem dL_law_468 : decode ML_law.2.1 468 = .ok (.iaload, 1) := by decide +kernel
theorem dL_law_469 : decode ML_law.2.1 469 = .ok (.aload_n 0, 1) := by decide +kernel
theorem dL_law_470 : decode ML_law.2.1 470 = .ok (.iload 4, 2) := by decide +kernel
theorem dL_law_472 : decode ML_law.2.1 472 = .ok (.iconst 3, 1) := by decide +kernel
theorem dL_law_473 : decode ML_law.2.1 473 = .ok (.iadd, 1) := by decide +kernel
theorem dL_law_474 : decode ML_law.2.1 474 = .ok (.iaload, 1) := by decide +kernel
theorem dL_law_475 : decode ML_law.2.1 475 = .ok (.aload_n 0, 1) := by decide +kernel
theorem dL_law_476 : decode ML_law.2.1 476 = .ok (.iload 4, 2) := by decide +kernel
theorem dL_law_478 : decode ML_law.2.1 478 = .ok (.iconst 4, 1) := by decide +kernel
theorem dL_law_479 : decode ML_law.2.1 479 = .ok (.iadd, 1) := by decide +kernel
theorem dL_law_480 : decode ML_law.2.1 480 = .ok (.iaload, 1) := by decide +kernel
theorem dL_law_481 : decode ML_law.2.1 481 = .ok (.invokevirtual 59, 3) := by decide +kernel
theorem dL_law_484 : decode ML_law.2.1 484 = .ok (.aload_n 2, 1) := by decide +kernel
theorem dL_law_485 : decode ML_law.2.1 485 = .ok (.aload_n 0, 1) := by decide +kernel
theorem dL_law_486 : decode ML_law.2.1 486 = .ok (.iload 4, 2) := by decide +kernel
theorem dL_law_488 : decode ML_law.2.1 488 = .ok (.iconst 1, 1) := by decide +kernel
theorem dL_law_489 : decode ML_law.2.1 489 = .ok (.iadd, 1) := by decide +kernel
theorem dL_law_490 : decode ML_law.2.1 490 = .ok (.iaload, 1) := by decide +kernel
theorem dL_law_491 : decode ML_law.2.1 491 = .ok (.aload_n 0, 1) := by decide +kernel
theorem dL_law_492 : decode ML_law.2.1 492 = .ok (.iload 4, 2) := by decide +kernel
theorem dL_law_494 : decode ML_law.2.1 494 = .ok (.iconst 2, 1) := by decide +kernel
theorem dL_law_495 : decode ML_law.2.1 495 = .ok (.iadd, 1) := by decide +kernel
theorem dL_law_496 : decode ML_law.2.1 496 = .ok (.iaload, 1) := by decide +kernel
theorem dL_law_497 : decode ML_law.2.1 497 = .ok (.aload_n 0, 1) := by decide +kernel
theorem dL_law_498 : decode ML_law.2.1 498 = .ok (.iload 4, 2) := by decide +kernel
theorem dL_law_500 : decode ML_law.2.1 500 = .ok (.iconst 3, 1) := by decide +kernel
theorem dL_law_501 : decode ML_law.2.1 501 = .ok (.iadd, 1) := by decide +kernel
theorem dL_law_502 : decode ML_law.2.1 502 = .ok (.iaload, 1) := by decide +kernel
theorem dL_law_503 : decode ML_law.2.1 503 = .ok (.aload_n 0, 1) := by decide +kernel
theorem dL_law_504 : decode ML_law.2.1 504 = .ok (.iload 4, 2) := by decide +kernel
theorem dL_law_506 : decode ML_law.2.1 506 = .ok (.iconst 4, 1) := by decide +kernel
theorem dL_law_507 : decode ML_law.2.1 507 = .ok (.iadd, 1) := by decide +kernel
theorem dL_law_508 : decode ML_law.2.1 508 = .ok (.iaload, 1) := by decide +kernel
theorem dL_law_509 : decode ML_law.2.1 509 = .ok (.invokevirtual 63, 3) := by decide +kernel
theorem dL_law_512 : decode ML_law.2.1 512 = .ok (.if_icmp .eq 1033, 3) := by decide +kernel
theorem dL_law_515 : decode ML_law.2.1 515 = .ok (.iconst 0, 1) := by decide +kernel
theorem dL_law_516 : decode ML_law.2.1 516 = .ok (.ireturn, 1) := by decide +kernel
theorem dL_law_517 : decode ML_law.2.1 517 = .ok (.aload_n 1, 1) := by decide +kernel
theorem dL_law_518 : decode ML_law.2.1 518 = .ok (.aload_n 0, 1) := by decide +kernel
theorem dL_law_519 : decode ML_law.2.1 519 = .ok (.iload 4, 2) := by decide +kernel
theorem dL_law_521 : decode ML_law.2.1 521 = .ok (.iconst 1, 1) := by decide +kernel
theorem dL_law_522 : decode ML_law.2.1 522 = .ok (.iadd, 1) := by decide +kernel
theorem dL_law_523 : decode ML_law.2.1 523 = .ok (.iaload, 1) := by decide +kernel
theorem dL_law_524 : decode ML_law.2.1 524 = .ok (.invokevirtual 64, 3) := by decide +kernel
theorem dL_law_527 : decode ML_law.2.1 527 = .ok (.aload_n 2, 1) := by decide +kernel
theorem dL_law_528 : decode ML_law.2.1 528 = .ok (.aload_n 0, 1) := by decide +kernel
theorem dL_law_529 : decode ML_law.2.1 529 = .ok (.iload 4, 2) := by decide +kernel
theorem dL_law_531 : decode ML_law.2.1 531 = .ok (.iconst 1, 1) := by decide +kernel
theorem dL_law_532 : decode ML_law.2.1 532 = .ok (.iadd, 1) := by decide +kernel
theorem dL_law_533 : decode ML_law.2.1 533 = .ok (.iaload, 1) := by decide +kernel
theorem dL_law_534 : decode ML_law.2.1 534 = .ok (.invokevirtual 67, 3) := by decide +kernel
theorem dL_law_537 : decode ML_law.2.1 537 = .ok (.if_icmp .eq 1008, 3) := by decide +kernel
theorem dL_law_540 : decode ML_law.2.1 540 = .ok (.iconst 0, 1) := by decide +kernel
theorem dL_law_541 : decode ML_law.2.1 541 = .ok (.ireturn, 1) := by decide +kernel
theorem dL_law_542 : decode ML_law.2.1 542 = .ok (.aload_n 1, 1) := by decide +kernel
theorem dL_law_543 : decode ML_law.2.1 543 = .ok (.aload_n 0, 1) := by decide +kernel
theorem dL_law_544 : decode ML_law.2.1 544 = .ok (.iload 4, 2) := by decide +kernel
theorem dL_law_546 : decode ML_law.2.1 546 = .ok (.iconst 1, 1) := by decide +kernel
theorem dL_law_547 : decode ML_law.2.1 547 = .ok (.iadd, 1) := by decide +kernel
theorem dL_law_548 : decode ML_law.2.1 548 = .ok (.iaload, 1) := by decide +kernel
theorem dL_law_549 : decode ML_law.2.1 549 = .ok (.aload_n 0, 1) := by decide +kernel
theorem dL_law_550 : decode ML_law.2.1 550 = .ok (.iload 4, 2) := by decide +kernel
theorem dL_law_552 : decode ML_law.2.1 552 = .ok (.iconst 2, 1) := by decide +kernel
theorem dL_law_553 : decode ML_law.2.1 553 = .ok (.iadd, 1) := by decide +kernel
theorem dL_law_554 : decode ML_law.2.1 554 = .ok (.iaload, 1) := by decide +kernel
theorem dL_law_555 : decode ML_law.2.1 555 = .ok (.invokevirtual 68, 3) := by decide +kernel
theorem dL_law_558 : decode ML_law.2.1 558 = .ok (.aload_n 2, 1) := by decide +kernel
theorem dL_law_559 : decode ML_law.2.1 559 = .ok (.aload_n 0, 1) := by decide +kernel
theorem dL_law_560 : decode ML_law.2.1 560 = .ok (.iload 4, 2) := by decide +kernel
theorem dL_law_562 : decode ML_law.2.1 562 = .ok (.iconst 1, 1) := by decide +kernel
theorem dL_law_563 : decode ML_law.2.1 563 = .ok (.iadd, 1) := by decide +kernel
theorem dL_law_564 : decode ML_law.2.1 564 = .ok (.iaload, 1) := by decide +kernel
theorem dL_law_565 : decode ML_law.2.1 565 = .ok (.aload_n 0, 1) := by decide +kernel
theorem dL_law_566 : decode ML_law.2.1 566 = .ok (.iload 4, 2) := by decide +kernel
theorem dL_law_568 : decode ML_law.2.1 568 = .ok (.iconst 2, 1) := by decide +kernel
theorem dL_law_569 : decode ML_law.2.1 569 = .ok (.iadd, 1) := by decide +kernel
theorem dL_law_570 : decode ML_law.2.1 570 = .ok (.iaload, 1) := by decide +kernel
theorem dL_law_571 : decode ML_law.2.1 571 = .ok (.invokevirtual 71, 3) := by decide +kernel
theorem dL_law_574 : decode ML_law.2.1 574 = .ok (.if_icmp .eq 971, 3) := by decide +kernel
theorem dL_law_577 : decode ML_law.2.1 577 = .ok (.iconst 0, 1) := by decide +kernel
theorem dL_law_578 : decode ML_law.2.1 578 = .ok (.ireturn, 1) := by decide +kernel
theorem dL_law_579 : decode ML_law.2.1 579 = .ok (.aload_n 1, 1) := by decide +kernel
theorem dL_law_580 : decode ML_law.2.1 580 = .ok (.aload_n 0, 1) := by decide +kernel
theorem dL_law_581 : decode ML_law.2.1 581 = .ok (.iload 4, 2) := by decide +kernel
theorem dL_law_583 : decode ML_law.2.1 583 = .ok (.iconst 1, 1) := by decide +kernel
theorem dL_law_584 : decode ML_law.2.1 584 = .ok (.iadd, 1) := by decide +kernel
theorem dL_law_585 : decode ML_law.2.1 585 = .ok (.iaload, 1) := by decide +kernel
theorem dL_law_586 : decode ML_law.2.1 586 = .ok (.invokevirtual 72, 3) := by decide +kernel
theorem dL_law_589 : decode ML_law.2.1 589 = .ok (.aload_n 2, 1) := by decide +kernel
theorem dL_law_590 : decode ML_law.2.1 590 = .ok (.aload_n 0, 1) := by decide +kernel
theorem dL_law_591 : decode ML_law.2.1 591 = .ok (.iload 4, 2) := by decide +kernel
theorem dL_law_593 : decode ML_law.2.1 593 = .ok (.iconst 1, 1) := by decide +kernel
theorem dL_law_594 : decode ML_law.2.1 594 = .ok (.iadd, 1) := by decide +kernel
theorem dL_law_595 : decode ML_law.2.1 595 = .ok (.iaload, 1) := by decide +kernel
theorem dL_law_596 : decode ML_law.2.1 596 = .ok (.invokevirtual 75, 3) := by decide +kernel
theorem dL_law_599 : decode ML_law.2.1 599 = .ok (.if_icmp .eq 946, 3) := by decide +kernel
theorem dL_law_602 : decode ML_law.2.1 602 = .ok (.iconst 0, 1) := by decide +kernel
theorem dL_law_603 : decode ML_law.2.1 603 = .ok (.ireturn, 1) := by decide +kernel
theorem dL_law_604 : decode ML_law.2.1 604 = .ok (.aload_n 1, 1) := by decide +kernel
theorem dL_law_605 : decode ML_law.2.1 605 = .ok (.aload_n 0, 1) := by decide +kernel
theorem dL_law_606 : decode ML_law.2.1 606 = .ok (.iload 4, 2) := by decide +kernel
theorem dL_law_608 : decode ML_law.2.1 608 = .ok (.iconst 1, 1) := by decide +kernel
theorem dL_law_609 : decode ML_law.2.1 609 = .ok (.iadd, 1) := by decide +kernel
theorem dL_law_610 : decode ML_law.2.1 610 = .ok (.iaload, 1) := by decide +kernel
theorem dL_law_611 : decode ML_law.2.1 611 = .ok (.aload_n 0, 1) := by decide +kernel
theorem dL_law_612 : decode ML_law.2.1 612 = .ok (.iload 4, 2) := by decide +kernel
theorem dL_law_614 : decode ML_law.2.1 614 = .ok (.iconst 2, 1) := by decide +kernel
theorem dL_law_615 : decode ML_law.2.1 615 = .ok (.iadd, 1) := by decide +kernel
theorem dL_law_616 : decode ML_law.2.1 616 = .ok (.iaload, 1) := by decide +kernel
theorem dL_law_617 : decode ML_law.2.1 617 = .ok (.aload_n 0, 1) := by decide +kernel
theorem dL_law_618 : decode ML_law.2.1 618 = .ok (.iload 4, 2) := by decide +kernel
theorem dL_law_620 : decode ML_law.2.1 620 = .ok (.iconst 3, 1) := by decide +kernel
theorem dL_law_621 : decode ML_law.2.1 621 = .ok (.iadd, 1) := by decide +kernel
theorem dL_law_622 : decode ML_law.2.1 622 = .ok (.iaload, 1) := by decide +kernel
theorem dL_law_623 : decode ML_law.2.1 623 = .ok (.invokevirtual 76, 3) := by decide +kernel
theorem dL_law_626 : decode ML_law.2.1 626 = .ok (.aload_n 2, 1) := by decide +kernel
theorem dL_law_627 : decode ML_law.2.1 627 = .ok (.aload_n 0, 1) := by decide +kernel
theorem dL_law_628 : decode ML_law.2.1 628 = .ok (.iload 4, 2) := by decide +kernel
theorem dL_law_630 : decode ML_law.2.1 630 = .ok (.iconst 1, 1) := by decide +kernel
theorem dL_law_631 : decode ML_law.2.1 631 = .ok (.iadd, 1) := by decide +kernel
theorem dL_law_632 : decode ML_law.2.1 632 = .ok (.iaload, 1) := by decide +kernel
theorem dL_law_633 : decode ML_law.2.1 633 = .ok (.aload_n 0, 1) := by decide +kernel
theorem dL_law_634 : decode ML_law.2.1 634 = .ok (.iload 4, 2) := by decide +kernel
theorem dL_law_636 : decode ML_law.2.1 636 = .ok (.iconst 2, 1) := by decide +kernel
theorem dL_law_637 : decode ML_law.2.1 637 = .ok (.iadd, 1) := by decide +kernel
theorem dL_law_638 : decode ML_law.2.1 638 = .ok (.iaload, 1) := by decide +kernel
theorem dL_law_639 : decode ML_law.2.1 639 = .ok (.aload_n 0, 1) := by decide +kernel
theorem dL_law_640 : decode ML_law.2.1 640 = .ok (.iload 4, 2) := by decide +kernel
theorem dL_law_642 : decode ML_law.2.1 642 = .ok (.iconst 3, 1) := by decide +kernel
theorem dL_law_643 : decode ML_law.2.1 643 = .ok (.iadd, 1) := by decide +kernel
theorem dL_law_644 : decode ML_law.2.1 644 = .ok (.iaload, 1) := by decide +kernel
theorem dL_law_645 : decode ML_law.2.1 645 = .ok (.invokevirtual 79, 3) := by decide +kernel
theorem dL_law_648 : decode ML_law.2.1 648 = .ok (.if_icmp .eq 897, 3) := by decide +kernel
theorem dL_law_651 : decode ML_law.2.1 651 = .ok (.iconst 0, 1) := by decide +kernel
theorem dL_law_652 : decode ML_law.2.1 652 = .ok (.ireturn, 1) := by decide +kernel
theorem dL_law_653 : decode ML_law.2.1 653 = .ok (.aload_n 1, 1) := by decide +kernel
theorem dL_law_654 : decode ML_law.2.1 654 = .ok (.aload_n 0, 1) := by decide +kernel
theorem dL_law_655 : decode ML_law.2.1 655 = .ok (.iload 4, 2) := by decide +kernel
theorem dL_law_657 : decode ML_law.2.1 657 = .ok (.iconst 1, 1) := by decide +kernel
theorem dL_law_658 : decode ML_law.2.1 658 = .ok (.iadd, 1) := by decide +kernel
theorem dL_law_659 : decode ML_law.2.1 659 = .ok (.iaload, 1) := by decide +kernel
theorem dL_law_660 : decode ML_law.2.1 660 = .ok (.aload_n 0, 1) := by decide +kernel
theorem dL_law_661 : decode ML_law.2.1 661 = .ok (.iload 4, 2) := by decide +kernel
theorem dL_law_663 : decode ML_law.2.1 663 = .ok (.iconst 2, 1) := by decide +kernel
theorem dL_law_664 : decode ML_law.2.1 664 = .ok (.iadd, 1) := by decide +kernel
theorem dL_law_665 : decode ML_law.2.1 665 = .ok (.iaload, 1) := by decide +kernel
theorem dL_law_666 : decode ML_law.2.1 666 = .ok (.aload_n 0, 1) := by decide +kernel
theorem dL_law_667 : decode ML_law.2.1 667 = .ok (.iload 4, 2) := by decide +kernel
theorem dL_law_669 : decode ML_law.2.1 669 = .ok (.iconst 3, 1) := by decide +kernel
theorem dL_law_670 : decode ML_law.2.1 670 = .ok (.iadd, 1) := by decide +kernel
theorem dL_law_671 : decode ML_law.2.1 671 = .ok (.iaload, 1) := by decide +kernel
theorem dL_law_672 : decode ML_law.2.1 672 = .ok (.invokevirtual 80, 3) := by decide +kernel
theorem dL_law_675 : decode ML_law.2.1 675 = .ok (.aload_n 2, 1) := by decide +kernel
theorem dL_law_676 : decode ML_law.2.1 676 = .ok (.aload_n 0, 1) := by decide +kernel
theorem dL_law_677 : decode ML_law.2.1 677 = .ok (.iload 4, 2) := by decide +kernel
theorem dL_law_679 : decode ML_law.2.1 679 = .ok (.iconst 1, 1) := by decide +kernel
theorem dL_law_680 : decode ML_law.2.1 680 = .ok (.iadd, 1) := by decide +kernel
theorem dL_law_681 : decode ML_law.2.1 681 = .ok (.iaload, 1) := by decide +kernel
theorem dL_law_682 : decode ML_law.2.1 682 = .ok (.aload_n 0, 1) := by decide +kernel
theorem dL_law_683 : decode ML_law.2.1 683 = .ok (.iload 4, 2) := by decide +kernel
theorem dL_law_685 : decode ML_law.2.1 685 = .ok (.iconst 2, 1) := by decide +kernel
theorem dL_law_686 : decode ML_law.2.1 686 = .ok (.iadd, 1) := by decide +kernel
theorem dL_law_687 : decode ML_law.2.1 687 = .ok (.iaload, 1) := by decide +kernel
theorem dL_law_688 : decode ML_law.2.1 688 = .ok (.aload_n 0, 1) := by decide +kernel
theorem dL_law_689 : decode ML_law.2.1 689 = .ok (.iload 4, 2) := by decide +kernel
theorem dL_law_691 : decode ML_law.2.1 691 = .ok (.iconst 3, 1) := by decide +kernel
theorem dL_law_692 : decode ML_law.2.1 692 = .ok (.iadd, 1) := by decide +kernel
theorem dL_law_693 : decode ML_law.2.1 693 = .ok (.iaload, 1) := by decide +kernel
theorem dL_law_694 : decode ML_law.2.1 694 = .ok (.invokevirtual 83, 3) := by decide +kernel
theorem dL_law_697 : decode ML_law.2.1 697 = .ok (.if_icmp .eq 848, 3) := by decide +kernel
theorem dL_law_700 : decode ML_law.2.1 700 = .ok (.iconst 0, 1) := by decide +kernel
theorem dL_law_701 : decode ML_law.2.1 701 = .ok (.ireturn, 1) := by decide +kernel
theorem dL_law_702 : decode ML_law.2.1 702 = .ok (.aload_n 1, 1) := by decide +kernel
theorem dL_law_703 : decode ML_law.2.1 703 = .ok (.invokevirtual 84, 3) := by decide +kernel
theorem dL_law_706 : decode ML_law.2.1 706 = .ok (.aload_n 2, 1) := by decide +kernel
theorem dL_law_707 : decode ML_law.2.1 707 = .ok (.invokevirtual 87, 3) := by decide +kernel
theorem dL_law_710 : decode ML_law.2.1 710 = .ok (.if_icmp .eq 835, 3) := by decide +kernel
theorem dL_law_713 : decode ML_law.2.1 713 = .ok (.iconst 0, 1) := by decide +kernel
theorem dL_law_714 : decode ML_law.2.1 714 = .ok (.ireturn, 1) := by decide +kernel
theorem dL_law_715 : decode ML_law.2.1 715 = .ok (.aload_n 1, 1) := by decide +kernel
theorem dL_law_716 : decode ML_law.2.1 716 = .ok (.invokevirtual 88, 3) := by decide +kernel
theorem dL_law_719 : decode ML_law.2.1 719 = .ok (.aload_n 2, 1) := by decide +kernel
theorem dL_law_720 : decode ML_law.2.1 720 = .ok (.invokevirtual 91, 3) := by decide +kernel
theorem dL_law_723 : decode ML_law.2.1 723 = .ok (.if_icmp .eq 822, 3) := by decide +kernel
theorem dL_law_726 : decode ML_law.2.1 726 = .ok (.iconst 0, 1) := by decide +kernel
theorem dL_law_727 : decode ML_law.2.1 727 = .ok (.ireturn, 1) := by decide +kernel
theorem dL_law_728 : decode ML_law.2.1 728 = .ok (.aload_n 1, 1) := by decide +kernel
theorem dL_law_729 : decode ML_law.2.1 729 = .ok (.aload_n 0, 1) := by decide +kernel
theorem dL_law_730 : decode ML_law.2.1 730 = .ok (.iload 4, 2) := by decide +kernel
theorem dL_law_732 : decode ML_law.2.1 732 = .ok (.iconst 1, 1) := by decide +kernel
theorem dL_law_733 : decode ML_law.2.1 733 = .ok (.iadd, 1) := by decide +kernel
theorem dL_law_734 : decode ML_law.2.1 734 = .ok (.iaload, 1) := by decide +kernel
theorem dL_law_735 : decode ML_law.2.1 735 = .ok (.invokevirtual 92, 3) := by decide +kernel
theorem dL_law_738 : decode ML_law.2.1 738 = .ok (.aload_n 2, 1) := by decide +kernel
theorem dL_law_739 : decode ML_law.2.1 739 = .ok (.aload_n 0, 1) := by decide +kernel
theorem dL_law_740 : decode ML_law.2.1 740 = .ok (.iload 4, 2) := by decide +kernel
theorem dL_law_742 : decode ML_law.2.1 742 = .ok (.iconst 1, 1) := by decide +kernel
theorem dL_law_743 : decode ML_law.2.1 743 = .ok (.iadd, 1) := by decide +kernel
theorem dL_law_744 : decode ML_law.2.1 744 = .ok (.iaload, 1) := by decide +kernel
theorem dL_law_745 : decode ML_law.2.1 745 = .ok (.invokevirtual 95, 3) := by decide +kernel
theorem dL_law_748 : decode ML_law.2.1 748 = .ok (.if_icmp .eq 797, 3) := by decide +kernel
theorem dL_law_751 : decode ML_law.2.1 751 = .ok (.iconst 0, 1) := by decide +kernel
theorem dL_law_752 : decode ML_law.2.1 752 = .ok (.ireturn, 1) := by decide +kernel
theorem dL_law_753 : decode ML_law.2.1 753 = .ok (.aload_n 1, 1) := by decide +kernel
theorem dL_law_754 : decode ML_law.2.1 754 = .ok (.aload_n 0, 1) := by decide +kernel
theorem dL_law_755 : decode ML_law.2.1 755 = .ok (.iload 4, 2) := by decide +kernel
theorem dL_law_757 : decode ML_law.2.1 757 = .ok (.iconst 1, 1) := by decide +kernel
theorem dL_law_758 : decode ML_law.2.1 758 = .ok (.iadd, 1) := by decide +kernel
theorem dL_law_759 : decode ML_law.2.1 759 = .ok (.iaload, 1) := by decide +kernel
theorem dL_law_760 : decode ML_law.2.1 760 = .ok (.aload_n 0, 1) := by decide +kernel
theorem dL_law_761 : decode ML_law.2.1 761 = .ok (.iload 4, 2) := by decide +kernel
theorem dL_law_763 : decode ML_law.2.1 763 = .ok (.iconst 2, 1) := by decide +kernel
theorem dL_law_764 : decode ML_law.2.1 764 = .ok (.iadd, 1) := by decide +kernel
theorem dL_law_765 : decode ML_law.2.1 765 = .ok (.iaload, 1) := by decide +kernel
theorem dL_law_766 : decode ML_law.2.1 766 = .ok (.invokevirtual 96, 3) := by decide +kernel
theorem dL_law_769 : decode ML_law.2.1 769 = .ok (.aload_n 2, 1) := by decide +kernel
theorem dL_law_770 : decode ML_law.2.1 770 = .ok (.aload_n 0, 1) := by decide +kernel
theorem dL_law_771 : decode ML_law.2.1 771 = .ok (.iload 4, 2) := by decide +kernel
theorem dL_law_773 : decode ML_law.2.1 773 = .ok (.iconst 1, 1) := by decide +kernel
theorem dL_law_774 : decode ML_law.2.1 774 = .ok (.iadd, 1) := by decide +kernel
theorem dL_law_775 : decode ML_law.2.1 775 = .ok (.iaload, 1) := by decide +kernel
theorem dL_law_776 : decode ML_law.2.1 776 = .ok (.aload_n 0, 1) := by decide +kernel
theorem dL_law_777 : decode ML_law.2.1 777 = .ok (.iload 4, 2) := by decide +kernel
theorem dL_law_779 : decode ML_law.2.1 779 = .ok (.iconst 2, 1) := by decide +kernel
theorem dL_law_780 : decode ML_law.2.1 780 = .ok (.iadd, 1) := by decide +kernel
theorem dL_law_781 : decode ML_law.2.1 781 = .ok (.iaload, 1) := by decide +kernel
theorem dL_law_782 : decode ML_law.2.1 782 = .ok (.invokevirtual 99, 3) := by decide +kernel
theorem dL_law_785 : decode ML_law.2.1 785 = .ok (.if_icmp .eq 760, 3) := by decide +kernel
theorem dL_law_788 : decode ML_law.2.1 788 = .ok (.iconst 0, 1) := by decide +kernel
theorem dL_law_789 : decode ML_law.2.1 789 = .ok (.ireturn, 1) := by decide +kernel
theorem dL_law_790 : decode ML_law.2.1 790 = .ok (.aload_n 1, 1) := by decide +kernel
theorem dL_law_791 : decode ML_law.2.1 791 = .ok (.aload_n 0, 1) := by decide +kernel
theorem dL_law_792 : decode ML_law.2.1 792 = .ok (.iload 4, 2) := by decide +kernel
theorem dL_law_794 : decode ML_law.2.1 794 = .ok (.iconst 1, 1) := by decide +kernel
theorem dL_law_795 : decode ML_law.2.1 795 = .ok (.iadd, 1) := by decide +kernel
theorem dL_law_796 : decode ML_law.2.1 796 = .ok (.iaload, 1) := by decide +kernel
theorem dL_law_797 : decode ML_law.2.1 797 = .ok (.invokevirtual 100, 3) := by decide +kernel
theorem dL_law_800 : decode ML_law.2.1 800 = .ok (.aload_n 2, 1) := by decide +kernel
theorem dL_law_801 : decode ML_law.2.1 801 = .ok (.aload_n 0, 1) := by decide +kernel
theorem dL_law_802 : decode ML_law.2.1 802 = .ok (.iload 4, 2) := by decide +kernel
theorem dL_law_804 : decode ML_law.2.1 804 = .ok (.iconst 1, 1) := by decide +kernel
theorem dL_law_805 : decode ML_law.2.1 805 = .ok (.iadd, 1) := by decide +kernel
theorem dL_law_806 : decode ML_law.2.1 806 = .ok (.iaload, 1) := by decide +kernel
theorem dL_law_807 : decode ML_law.2.1 807 = .ok (.invokevirtual 103, 3) := by decide +kernel
theorem dL_law_810 : decode ML_law.2.1 810 = .ok (.if_icmp .eq 735, 3) := by decide +kernel
theorem dL_law_813 : decode ML_law.2.1 813 = .ok (.iconst 0, 1) := by decide +kernel
theorem dL_law_814 : decode ML_law.2.1 814 = .ok (.ireturn, 1) := by decide +kernel
theorem dL_law_815 : decode ML_law.2.1 815 = .ok (.aload_n 1, 1) := by decide +kernel
theorem dL_law_816 : decode ML_law.2.1 816 = .ok (.aload_n 0, 1) := by decide +kernel
theorem dL_law_817 : decode ML_law.2.1 817 = .ok (.iload 4, 2) := by decide +kernel
theorem dL_law_819 : decode ML_law.2.1 819 = .ok (.iconst 1, 1) := by decide +kernel
theorem dL_law_820 : decode ML_law.2.1 820 = .ok (.iadd, 1) := by decide +kernel
theorem dL_law_821 : decode ML_law.2.1 821 = .ok (.iaload, 1) := by decide +kernel
theorem dL_law_822 : decode ML_law.2.1 822 = .ok (.invokevirtual 104, 3) := by decide +kernel
theorem dL_law_825 : decode ML_law.2.1 825 = .ok (.aload_n 2, 1) := by decide +kernel
theorem dL_law_826 : decode ML_law.2.1 826 = .ok (.aload_n 0, 1) := by decide +kernel
theorem dL_law_827 : decode ML_law.2.1 827 = .ok (.iload 4, 2) := by decide +kernel
theorem dL_law_829 : decode ML_law.2.1 829 = .ok (.iconst 1, 1) := by decide +kernel
theorem dL_law_830 : decode ML_law.2.1 830 = .ok (.iadd, 1) := by decide +kernel
theorem dL_law_831 : decode ML_law.2.1 831 = .ok (.iaload, 1) := by decide +kernel
theorem dL_law_832 : decode ML_law.2.1 832 = .ok (.invokevirtual 107, 3) := by decide +kernel
theorem dL_law_835 : decode ML_law.2.1 835 = .ok (.if_icmp .eq 710, 3) := by decide +kernel
theorem dL_law_838 : decode ML_law.2.1 838 = .ok (.iconst 0, 1) := by decide +kernel
theorem dL_law_839 : decode ML_law.2.1 839 = .ok (.ireturn, 1) := by decide +kernel
theorem dL_law_840 : decode ML_law.2.1 840 = .ok (.aload_n 1, 1) := by decide +kernel
theorem dL_law_841 : decode ML_law.2.1 841 = .ok (.aload_n 0, 1) := by decide +kernel
theorem dL_law_842 : decode ML_law.2.1 842 = .ok (.iload 4, 2) := by decide +kernel
theorem dL_law_844 : decode ML_law.2.1 844 = .ok (.iconst 1, 1) := by decide +kernel
theorem dL_law_845 : decode ML_law.2.1 845 = .ok (.iadd, 1) := by decide +kernel
theorem dL_law_846 : decode ML_law.2.1 846 = .ok (.iaload, 1) := by decide +kernel
theorem dL_law_847 : decode ML_law.2.1 847 = .ok (.invokevirtual 108, 3) := by decide +kernel
theorem dL_law_850 : decode ML_law.2.1 850 = .ok (.aload_n 2, 1) := by decide +kernel
theorem dL_law_851 : decode ML_law.2.1 851 = .ok (.aload_n 0, 1) := by decide +kernel
theorem dL_law_852 : decode ML_law.2.1 852 = .ok (.iload 4, 2) := by decide +kernel
theorem dL_law_854 : decode ML_law.2.1 854 = .ok (.iconst 1, 1) := by decide +kernel
theorem dL_law_855 : decode ML_law.2.1 855 = .ok (.iadd, 1) := by decide +kernel
theorem dL_law_856 : decode ML_law.2.1 856 = .ok (.iaload, 1) := by decide +kernel
theorem dL_law_857 : decode ML_law.2.1 857 = .ok (.invokevirtual 111, 3) := by decide +kernel
theorem dL_law_860 : decode ML_law.2.1 860 = .ok (.if_icmp .eq 685, 3) := by decide +kernel
theorem dL_law_863 : decode ML_law.2.1 863 = .ok (.iconst 0, 1) := by decide +kernel
theorem dL_law_864 : decode ML_law.2.1 864 = .ok (.ireturn, 1) := by decide +kernel
theorem dL_law_865 : decode ML_law.2.1 865 = .ok (.aload_n 1, 1) := by decide +kernel
theorem dL_law_866 : decode ML_law.2.1 866 = .ok (.aload_n 0, 1) := by decide +kernel
theorem dL_law_867 : decode ML_law.2.1 867 = .ok (.iload 4, 2) := by decide +kernel
theorem dL_law_869 : decode ML_law.2.1 869 = .ok (.iconst 1, 1) := by decide +kernel
theorem dL_law_870 : decode ML_law.2.1 870 = .ok (.iadd, 1) := by decide +kernel
theorem dL_law_871 : decode ML_law.2.1 871 = .ok (.iaload, 1) := by decide +kernel
theorem dL_law_872 : decode ML_law.2.1 872 = .ok (.aload_n 0, 1) := by decide +kernel
theorem dL_law_873 : decode ML_law.2.1 873 = .ok (.iload 4, 2) := by decide +kernel
theorem dL_law_875 : decode ML_law.2.1 875 = .ok (.iconst 2, 1) := by decide +kernel
theorem dL_law_876 : decode ML_law.2.1 876 = .ok (.iadd, 1) := by decide +kernel
theorem dL_law_877 : decode ML_law.2.1 877 = .ok (.iaload, 1) := by decide +kernel
theorem dL_law_878 : decode ML_law.2.1 878 = .ok (.invokevirtual 112, 3) := by decide +kernel
theorem dL_law_881 : decode ML_law.2.1 881 = .ok (.aload_n 2, 1) := by decide +kernel
theorem dL_law_882 : decode ML_law.2.1 882 = .ok (.aload_n 0, 1) := by decide +kernel
theorem dL_law_883 : decode ML_law.2.1 883 = .ok (.iload 4, 2) := by decide +kernel
theorem dL_law_885 : decode ML_law.2.1 885 = .ok (.iconst 1, 1) := by decide +kernel
theorem dL_law_886 : decode ML_law.2.1 886 = .ok (.iadd, 1) := by decide +kernel
theorem dL_law_887 : decode ML_law.2.1 887 = .ok (.iaload, 1) := by decide +kernel
theorem dL_law_888 : decode ML_law.2.1 888 = .ok (.aload_n 0, 1) := by decide +kernel
theorem dL_law_889 : decode ML_law.2.1 889 = .ok (.iload 4, 2) := by decide +kernel
theorem dL_law_891 : decode ML_law.2.1 891 = .ok (.iconst 2, 1) := by decide +kernel
theorem dL_law_892 : decode ML_law.2.1 892 = .ok (.iadd, 1) := by decide +kernel
theorem dL_law_893 : decode ML_law.2.1 893 = .ok (.iaload, 1) := by decide +kernel
theorem dL_law_894 : decode ML_law.2.1 894 = .ok (.invokevirtual 115, 3) := by decide +kernel
theorem dL_law_897 : decode ML_law.2.1 897 = .ok (.if_icmp .eq 648, 3) := by decide +kernel
theorem dL_law_900 : decode ML_law.2.1 900 = .ok (.iconst 0, 1) := by decide +kernel
theorem dL_law_901 : decode ML_law.2.1 901 = .ok (.ireturn, 1) := by decide +kernel
theorem dL_law_902 : decode ML_law.2.1 902 = .ok (.aload_n 1, 1) := by decide +kernel
theorem dL_law_903 : decode ML_law.2.1 903 = .ok (.aload_n 0, 1) := by decide +kernel
theorem dL_law_904 : decode ML_law.2.1 904 = .ok (.iload 4, 2) := by decide +kernel
theorem dL_law_906 : decode ML_law.2.1 906 = .ok (.iconst 1, 1) := by decide +kernel
theorem dL_law_907 : decode ML_law.2.1 907 = .ok (.iadd, 1) := by decide +kernel
theorem dL_law_908 : decode ML_law.2.1 908 = .ok (.iaload, 1) := by decide +kernel
theorem dL_law_909 : decode ML_law.2.1 909 = .ok (.aload_n 0, 1) := by decide +kernel
theorem dL_law_910 : decode ML_law.2.1 910 = .ok (.iload 4, 2) := by decide +kernel
theorem dL_law_912 : decode ML_law.2.1 912 = .ok (.iconst 2, 1) := by decide +kernel
theorem dL_law_913 : decode ML_law.2.1 913 = .ok (.iadd, 1) := by decide +kernel
theorem dL_law_914 : decode ML_law.2.1 914 = .ok (.iaload, 1) := by decide +kernel
theorem dL_law_915 : decode ML_law.2.1 915 = .ok (.aload_n 0, 1) := by decide +kernel
theorem dL_law_916 : decode ML_law.2.1 916 = .ok (.iload 4, 2) := by decide +kernel
theorem dL_law_918 : decode ML_law.2.1 918 = .ok (.iconst 3, 1) := by decide +kernel
theorem dL_law_919 : decode ML_law.2.1 919 = .ok (.iadd, 1) := by decide +kernel
theorem dL_law_920 : decode ML_law.2.1 920 = .ok (.iaload, 1) := by decide +kernel
theorem dL_law_921 : decode ML_law.2.1 921 = .ok (.invokevirtual 116, 3) := by decide +kernel
theorem dL_law_924 : decode ML_law.2.1 924 = .ok (.aload_n 2, 1) := by decide +kernel
theorem dL_law_925 : decode ML_law.2.1 925 = .ok (.aload_n 0, 1) := by decide +kernel
theorem dL_law_926 : decode ML_law.2.1 926 = .ok (.iload 4, 2) := by decide +kernel
theorem dL_law_928 : decode ML_law.2.1 928 = .ok (.iconst 1, 1) := by decide +kernel
theorem dL_law_929 : decode ML_law.2.1 929 = .ok (.iadd, 1) := by decide +kernel
theorem dL_law_930 : decode ML_law.2.1 930 = .ok (.iaload, 1) := by decide +kernel
theorem dL_law_931 : decode ML_law.2.1 931 = .ok (.aload_n 0, 1) := by decide +kernel
theorem dL_law_932 : decode ML_law.2.1 932 = .ok (.iload 4, 2) := by decide +kernel
theorem dL_law_934 : decode ML_law.2.1 934 = .ok (.iconst 2, 1) := by decide +kernel
theorem dL_law_935 : decode ML_law.2.1 935 = .ok (.iadd, 1) := by decide +kernel
theorem dL_law_936 : decode ML_law.2.1 936 = .ok (.iaload, 1) := by decide +kernel
theorem dL_law_937 : decode ML_law.2.1 937 = .ok (.aload_n 0, 1) := by decide +kernel
theorem dL_law_938 : decode ML_law.2.1 938 = .ok (.iload 4, 2) := by decide +kernel
theorem dL_law_940 : decode ML_law.2.1 940 = .ok (.iconst 3, 1) := by decide +kernel
theorem dL_law_941 : decode ML_law.2.1 941 = .ok (.iadd, 1) := by decide +kernel
theorem dL_law_942 : decode ML_law.2.1 942 = .ok (.iaload, 1) := by decide +kernel
theorem dL_law_943 : decode ML_law.2.1 943 = .ok (.invokevirtual 119, 3) := by decide +kernel
theorem dL_law_946 : decode ML_law.2.1 946 = .ok (.if_icmp .eq 599, 3) := by decide +kernel
theorem dL_law_949 : decode ML_law.2.1 949 = .ok (.iconst 0, 1) := by decide +kernel
theorem dL_law_950 : decode ML_law.2.1 950 = .ok (.ireturn, 1) := by decide +kernel
theorem dL_law_951 : decode ML_law.2.1 951 = .ok (.aload_n 1, 1) := by decide +kernel
theorem dL_law_952 : decode ML_law.2.1 952 = .ok (.invokevirtual 120, 3) := by decide +kernel
theorem dL_law_955 : decode ML_law.2.1 955 = .ok (.aload_n 2, 1) := by decide +kernel
theorem dL_law_956 : decode ML_law.2.1 956 = .ok (.invokevirtual 123, 3) := by decide +kernel
theorem dL_law_959 : decode ML_law.2.1 959 = .ok (.if_icmp .eq 586, 3) := by decide +kernel
theorem dL_law_962 : decode ML_law.2.1 962 = .ok (.iconst 0, 1) := by decide +kernel
theorem dL_law_963 : decode ML_law.2.1 963 = .ok (.ireturn, 1) := by decide +kernel
theorem dL_law_964 : decode ML_law.2.1 964 = .ok (.aload_n 1, 1) := by decide +kernel
theorem dL_law_965 : decode ML_law.2.1 965 = .ok (.invokevirtual 124, 3) := by decide +kernel
theorem dL_law_968 : decode ML_law.2.1 968 = .ok (.aload_n 2, 1) := by decide +kernel
theorem dL_law_969 : decode ML_law.2.1 969 = .ok (.invokevirtual 127, 3) := by decide +kernel
theorem dL_law_972 : decode ML_law.2.1 972 = .ok (.if_icmp .eq 573, 3) := by decide +kernel
theorem dL_law_975 : decode ML_law.2.1 975 = .ok (.iconst 0, 1) := by decide +kernel
theorem dL_law_976 : decode ML_law.2.1 976 = .ok (.ireturn, 1) := by decide +kernel
theorem dL_law_977 : decode ML_law.2.1 977 = .ok (.aload_n 1, 1) := by decide +kernel
theorem dL_law_978 : decode ML_law.2.1 978 = .ok (.aload_n 0, 1) := by decide +kernel
theorem dL_law_979 : decode ML_law.2.1 979 = .ok (.iload 4, 2) := by decide +kernel
theorem dL_law_981 : decode ML_law.2.1 981 = .ok (.iconst 1, 1) := by decide +kernel
theorem dL_law_982 : decode ML_law.2.1 982 = .ok (.iadd, 1) := by decide +kernel
theorem dL_law_983 : decode ML_law.2.1 983 = .ok (.iaload, 1) := by decide +kernel
theorem dL_law_984 : decode ML_law.2.1 984 = .ok (.invokevirtual 128, 3) := by decide +kernel
theorem dL_law_987 : decode ML_law.2.1 987 = .ok (.aload_n 2, 1) := by decide +kernel
theorem dL_law_988 : decode ML_law.2.1 988 = .ok (.aload_n 0, 1) := by decide +kernel
theorem dL_law_989 : decode ML_law.2.1 989 = .ok (.iload 4, 2) := by decide +kernel
theorem dL_law_991 : decode ML_law.2.1 991 = .ok (.iconst 1, 1) := by decide +kernel
theorem dL_law_992 : decode ML_law.2.1 992 = .ok (.iadd, 1) := by decide +kernel
theorem dL_law_993 : decode ML_law.2.1 993 = .ok (.iaload, 1) := by decide +kernel
theorem dL_law_994 : decode ML_law.2.1 994 = .ok (.invokevirtual 131, 3) := by decide +kernel
theorem dL_law_997 : decode ML_law.2.1 997 = .ok (.if_icmp .eq 548, 3) := by decide +kernel
theorem dL_law_1000 : decode ML_law.2.1 1000 = .ok (.iconst 0, 1) := by decide +kernel
theorem dL_law_1001 : decode ML_law.2.1 1001 = .ok (.ireturn, 1) := by decide +kernel
theorem dL_law_1002 : decode ML_law.2.1 1002 = .ok (.aload_n 1, 1) := by decide +kernel
theorem dL_law_1003 : decode ML_law.2.1 1003 = .ok (.aload_n 0, 1) := by decide +kernel
theorem dL_law_1004 : decode ML_law.2.1 1004 = .ok (.iload 4, 2) := by decide +kernel
theorem dL_law_1006 : decode ML_law.2.1 1006 = .ok (.iconst 1, 1) := by decide +kernel
theorem dL_law_1007 : decode ML_law.2.1 1007 = .ok (.iadd, 1) := by decide +kernel
theorem dL_law_1008 : decode ML_law.2.1 1008 = .ok (.iaload, 1) := by decide +kernel
theorem dL_law_1009 : decode ML_law.2.1 1009 = .ok (.aload_n 0, 1) := by decide +kernel
theorem dL_law_1010 : decode ML_law.2.1 1010 = .ok (.iload 4, 2) := by decide +kernel
theorem dL_law_1012 : decode ML_law.2.1 1012 = .ok (.iconst 2, 1) := by decide +kernel
theorem dL_law_1013 : decode ML_law.2.1 1013 = .ok (.iadd, 1) := by decide +kernel
theorem dL_law_1014 : decode ML_law.2.1 1014 = .ok (.iaload, 1) := by decide +kernel
theorem dL_law_1015 : decode ML_law.2.1 1015 = .ok (.aload_n 0, 1) := by decide +kernel
theorem dL_law_1016 : decode ML_law.2.1 1016 = .ok (.iload 4, 2) := by decide +kernel
theorem dL_law_1018 : decode ML_law.2.1 1018 = .ok (.iconst 3, 1) := by decide +kernel
theorem dL_law_1019 : decode ML_law.2.1 1019 = .ok (.iadd, 1) := by decide +kernel
theorem dL_law_1020 : decode ML_law.2.1 1020 = .ok (.iaload, 1) := by decide +kernel
theorem dL_law_1021 : decode ML_law.2.1 1021 = .ok (.invokevirtual 132, 3) := by decide +kernel
theorem dL_law_1024 : decode ML_law.2.1 1024 = .ok (.aload_n 2, 1) := by decide +kernel
theorem dL_law_1025 : decode ML_law.2.1 1025 = .ok (.aload_n 0, 1) := by decide +kernel
theorem dL_law_1026 : decode ML_law.2.1 1026 = .ok (.iload 4, 2) := by decide +kernel
theorem dL_law_1028 : decode ML_law.2.1 1028 = .ok (.iconst 1, 1) := by decide +kernel
theorem dL_law_1029 : decode ML_law.2.1 1029 = .ok (.iadd, 1) := by decide +kernel
theorem dL_law_1030 : decode ML_law.2.1 1030 = .ok (.iaload, 1) := by decide +kernel
theorem dL_law_1031 : decode ML_law.2.1 1031 = .ok (.aload_n 0, 1) := by decide +kernel
theorem dL_law_1032 : decode ML_law.2.1 1032 = .ok (.iload 4, 2) := by decide +kernel
theorem dL_law_1034 : decode ML_law.2.1 1034 = .ok (.iconst 2, 1) := by decide +kernel
theorem dL_law_1035 : decode ML_law.2.1 1035 = .ok (.iadd, 1) := by decide +kernel
theorem dL_law_1036 : decode ML_law.2.1 1036 = .ok (.iaload, 1) := by decide +kernel
theorem dL_law_1037 : decode ML_law.2.1 1037 = .ok (.aload_n 0, 1) := by decide +kernel
theorem dL_law_1038 : decode ML_law.2.1 1038 = .ok (.iload 4, 2) := by decide +kernel
theorem dL_law_1040 : decode ML_law.2.1 1040 = .ok (.iconst 3, 1) := by decide +kernel
theorem dL_law_1041 : decode ML_law.2.1 1041 = .ok (.iadd, 1) := by decide +kernel
theorem dL_law_1042 : decode ML_law.2.1 1042 = .ok (.iaload, 1) := by decide +kernel
theorem dL_law_1043 : decode ML_law.2.1 1043 = .ok (.invokevirtual 135, 3) := by decide +kernel
theorem dL_law_1046 : decode ML_law.2.1 1046 = .ok (.if_icmp .eq 499, 3) := by decide +kernel
theorem dL_law_1049 : decode ML_law.2.1 1049 = .ok (.iconst 0, 1) := by decide +kernel
theorem dL_law_1050 : decode ML_law.2.1 1050 = .ok (.ireturn, 1) := by decide +kernel
theorem dL_law_1051 : decode ML_law.2.1 1051 = .ok (.aload_n 1, 1) := by decide +kernel
theorem dL_law_1052 : decode ML_law.2.1 1052 = .ok (.invokevirtual 136, 3) := by decide +kernel
theorem dL_law_1055 : decode ML_law.2.1 1055 = .ok (.aload_n 2, 1) := by decide +kernel
theorem dL_law_1056 : decode ML_law.2.1 1056 = .ok (.invokevirtual 139, 3) := by decide +kernel
theorem dL_law_1059 : decode ML_law.2.1 1059 = .ok (.if_icmp .eq 486, 3) := by decide +kernel
theorem dL_law_1062 : decode ML_law.2.1 1062 = .ok (.iconst 0, 1) := by decide +kernel
theorem dL_law_1063 : decode ML_law.2.1 1063 = .ok (.ireturn, 1) := by decide +kernel
theorem dL_law_1064 : decode ML_law.2.1 1064 = .ok (.aload_n 1, 1) := by decide +kernel
theorem dL_law_1065 : decode ML_law.2.1 1065 = .ok (.invokevirtual 140, 3) := by decide +kernel
theorem dL_law_1068 : decode ML_law.2.1 1068 = .ok (.aload_n 2, 1) := by decide +kernel
theorem dL_law_1069 : decode ML_law.2.1 1069 = .ok (.invokevirtual 143, 3) := by decide +kernel
theorem dL_law_1072 : decode ML_law.2.1 1072 = .ok (.if_icmp .eq 473, 3) := by decide +kernel
theorem dL_law_1075 : decode ML_law.2.1 1075 = .ok (.iconst 0, 1) := by decide +kernel
theorem dL_law_1076 : decode ML_law.2.1 1076 = .ok (.ireturn, 1) := by decide +kernel
theorem dL_law_1077 : decode ML_law.2.1 1077 = .ok (.aload_n 1, 1) := by decide +kernel
theorem dL_law_1078 : decode ML_law.2.1 1078 = .ok (.invokevirtual 144, 3) := by decide +kernel
theorem dL_law_1081 : decode ML_law.2.1 1081 = .ok (.aload_n 2, 1) := by decide +kernel
theorem dL_law_1082 : decode ML_law.2.1 1082 = .ok (.invokevirtual 147, 3) := by decide +kernel
theorem dL_law_1085 : decode ML_law.2.1 1085 = .ok (.if_icmp .eq 460, 3) := by decide +kernel
theorem dL_law_1088 : decode ML_law.2.1 1088 = .ok (.iconst 0, 1) := by decide +kernel
theorem dL_law_1089 : decode ML_law.2.1 1089 = .ok (.ireturn, 1) := by decide +kernel
theorem dL_law_1090 : decode ML_law.2.1 1090 = .ok (.aload_n 1, 1) := by decide +kernel
theorem dL_law_1091 : decode ML_law.2.1 1091 = .ok (.aload_n 0, 1) := by decide +kernel
theorem dL_law_1092 : decode ML_law.2.1 1092 = .ok (.iload 4, 2) := by decide +kernel
theorem dL_law_1094 : decode ML_law.2.1 1094 = .ok (.iconst 1, 1) := by decide +kernel
theorem dL_law_1095 : decode ML_law.2.1 1095 = .ok (.iadd, 1) := by decide +kernel
theorem dL_law_1096 : decode ML_law.2.1 1096 = .ok (.iaload, 1) := by decide +kernel
theorem dL_law_1097 : decode ML_law.2.1 1097 = .ok (.aload_n 0, 1) := by decide +kernel
theorem dL_law_1098 : decode ML_law.2.1 1098 = .ok (.iload 4, 2) := by decide +kernel
theorem dL_law_1100 : decode ML_law.2.1 1100 = .ok (.iconst 2, 1) := by decide +kernel
theorem dL_law_1101 : decode ML_law.2.1 1101 = .ok (.iadd, 1) := by decide +kernel
theorem dL_law_1102 : decode ML_law.2.1 1102 = .ok (.iaload, 1) := by decide +kernel
theorem dL_law_1103 : decode ML_law.2.1 1103 = .ok (.invokevirtual 148, 3) := by decide +kernel
theorem dL_law_1106 : decode ML_law.2.1 1106 = .ok (.aload_n 2, 1) := by decide +kernel
theorem dL_law_1107 : decode ML_law.2.1 1107 = .ok (.aload_n 0, 1) := by decide +kernel
theorem dL_law_1108 : decode ML_law.2.1 1108 = .ok (.iload 4, 2) := by decide +kernel
theorem dL_law_1110 : decode ML_law.2.1 1110 = .ok (.iconst 1, 1) := by decide +kernel
theorem dL_law_1111 : decode ML_law.2.1 1111 = .ok (.iadd, 1) := by decide +kernel
theorem dL_law_1112 : decode ML_law.2.1 1112 = .ok (.iaload, 1) := by decide +kernel
theorem dL_law_1113 : decode ML_law.2.1 1113 = .ok (.aload_n 0, 1) := by decide +kernel
theorem dL_law_1114 : decode ML_law.2.1 1114 = .ok (.iload 4, 2) := by decide +kernel
theorem dL_law_1116 : decode ML_law.2.1 1116 = .ok (.iconst 2, 1) := by decide +kernel
theorem dL_law_1117 : decode ML_law.2.1 1117 = .ok (.iadd, 1) := by decide +kernel
theorem dL_law_1118 : decode ML_law.2.1 1118 = .ok (.iaload, 1) := by decide +kernel
theorem dL_law_1119 : decode ML_law.2.1 1119 = .ok (.invokevirtual 151, 3) := by decide +kernel
theorem dL_law_1122 : decode ML_law.2.1 1122 = .ok (.if_icmp .eq 423, 3) := by decide +kernel
theorem dL_law_1125 : decode ML_law.2.1 1125 = .ok (.iconst 0, 1) := by decide +kernel
theorem dL_law_1126 : decode ML_law.2.1 1126 = .ok (.ireturn, 1) := by decide +kernel
theorem dL_law_1127 : decode ML_law.2.1 1127 = .ok (.aload_n 1, 1) := by decide +kernel
theorem dL_law_1128 : decode ML_law.2.1 1128 = .ok (.invokevirtual 152, 3) := by decide +kernel
theorem dL_law_1131 : decode ML_law.2.1 1131 = .ok (.aload_n 2, 1) := by decide +kernel
theorem dL_law_1132 : decode ML_law.2.1 1132 = .ok (.invokevirtual 155, 3) := by decide +kernel
theorem dL_law_1135 : decode ML_law.2.1 1135 = .ok (.if_icmp .eq 410, 3) := by decide +kernel
theorem dL_law_1138 : decode ML_law.2.1 1138 = .ok (.iconst 0, 1) := by decide +kernel
theorem dL_law_1139 : decode ML_law.2.1 1139 = .ok (.ireturn, 1) := by decide +kernel
theorem dL_law_1140 : decode ML_law.2.1 1140 = .ok (.aload_n 1, 1) := by decide +kernel
theorem dL_law_1141 : decode ML_law.2.1 1141 = .ok (.invokevirtual 156, 3) := by decide +kernel
theorem dL_law_1144 : decode ML_law.2.1 1144 = .ok (.aload_n 2, 1) := by decide +kernel
theorem dL_law_1145 : decode ML_law.2.1 1145 = .ok (.invokevirtual 159, 3) := by decide +kernel
theorem dL_law_1148 : decode ML_law.2.1 1148 = .ok (.if_icmp .eq 397, 3) := by decide +kernel
theorem dL_law_1151 : decode ML_law.2.1 1151 = .ok (.iconst 0, 1) := by decide +kernel
theorem dL_law_1152 : decode ML_law.2.1 1152 = .ok (.ireturn, 1) := by decide +kernel
theorem dL_law_1153 : decode ML_law.2.1 1153 = .ok (.aload_n 1, 1) := by decide +kernel
theorem dL_law_1154 : decode ML_law.2.1 1154 = .ok (.invokevirtual 160, 3) := by decide +kernel
theorem dL_law_1157 : decode ML_law.2.1 1157 = .ok (.aload_n 2, 1) := by decide +kernel
theorem dL_law_1158 : decode ML_law.2.1 1158 = .ok (.invokevirtual 163, 3) := by decide +kernel
theorem dL_law_1161 : decode ML_law.2.1 1161 = .ok (.if_icmp .eq 384, 3) := by decide +kernel
theorem dL_law_1164 : decode ML_law.2.1 1164 = .ok (.iconst 0, 1) := by decide +kernel
theorem dL_law_1165 : decode ML_law.2.1 1165 = .ok (.ireturn, 1) := by decide +kernel
theorem dL_law_1166 : decode ML_law.2.1 1166 = .ok (.aload_n 1, 1) := by decide +kernel
theorem dL_law_1167 : decode ML_law.2.1 1167 = .ok (.aload_n 0, 1) := by decide +kernel
theorem dL_law_1168 : decode ML_law.2.1 1168 = .ok (.iload 4, 2) := by decide +kernel
theorem dL_law_1170 : decode ML_law.2.1 1170 = .ok (.iconst 1, 1) := by decide +kernel
theorem dL_law_1171 : decode ML_law.2.1 1171 = .ok (.iadd, 1) := by decide +kernel
theorem dL_law_1172 : decode ML_law.2.1 1172 = .ok (.iaload, 1) := by decide +kernel
theorem dL_law_1173 : decode ML_law.2.1 1173 = .ok (.aload_n 0, 1) := by decide +kernel
theorem dL_law_1174 : decode ML_law.2.1 1174 = .ok (.iload 4, 2) := by decide +kernel
theorem dL_law_1176 : decode ML_law.2.1 1176 = .ok (.iconst 2, 1) := by decide +kernel
theorem dL_law_1177 : decode ML_law.2.1 1177 = .ok (.iadd, 1) := by decide +kernel
theorem dL_law_1178 : decode ML_law.2.1 1178 = .ok (.iaload, 1) := by decide +kernel
theorem dL_law_1179 : decode ML_law.2.1 1179 = .ok (.aload_n 0, 1) := by decide +kernel
theorem dL_law_1180 : decode ML_law.2.1 1180 = .ok (.iload 4, 2) := by decide +kernel
theorem dL_law_1182 : decode ML_law.2.1 1182 = .ok (.iconst 3, 1) := by decide +kernel
theorem dL_law_1183 : decode ML_law.2.1 1183 = .ok (.iadd, 1) := by decide +kernel
theorem dL_law_1184 : decode ML_law.2.1 1184 = .ok (.iaload, 1) := by decide +kernel
theorem dL_law_1185 : decode ML_law.2.1 1185 = .ok (.invokevirtual 164, 3) := by decide +kernel
theorem dL_law_1188 : decode ML_law.2.1 1188 = .ok (.aload_n 2, 1) := by decide +kernel
theorem dL_law_1189 : decode ML_law.2.1 1189 = .ok (.aload_n 0, 1) := by decide +kernel
theorem dL_law_1190 : decode ML_law.2.1 1190 = .ok (.iload 4, 2) := by decide +kernel
theorem dL_law_1192 : decode ML_law.2.1 1192 = .ok (.iconst 1, 1) := by decide +kernel
theorem dL_law_1193 : decode ML_law.2.1 1193 = .ok (.iadd, 1) := by decide +kernel
theorem dL_law_1194 : decode ML_law.2.1 1194 = .ok (.iaload, 1) := by decide +kernel
theorem dL_law_1195 : decode ML_law.2.1 1195 = .ok (.aload_n 0, 1) := by decide +kernel
theorem dL_law_1196 : decode ML_law.2.1 1196 = .ok (.iload 4, 2) := by decide +kernel
theorem dL_law_1198 : decode ML_law.2.1 1198 = .ok (.iconst 2, 1) := by decide +kernel
theorem dL_law_1199 : decode ML_law.2.1 1199 = .ok (.iadd, 1) := by decide +kernel
theorem dL_law_1200 : decode ML_law.2.1 1200 = .ok (.iaload, 1) := by decide +kernel
theorem dL_law_1201 : decode ML_law.2.1 1201 = .ok (.aload_n 0, 1) := by decide +kernel
theorem dL_law_1202 : decode ML_law.2.1 1202 = .ok (.iload 4, 2) := by decide +kernel
theorem dL_law_1204 : decode ML_law.2.1 1204 = .ok (.iconst 3, 1) := by decide +kernel
theorem dL_law_1205 : decode ML_law.2.1 1205 = .ok (.iadd, 1) := by decide +kernel
theorem dL_law_1206 : decode ML_law.2.1 1206 = .ok (.iaload, 1) := by decide +kernel
theorem dL_law_1207 : decode ML_law.2.1 1207 = .ok (.invokevirtual 167, 3) := by decide +kernel
theorem dL_law_1210 : decode ML_law.2.1 1210 = .ok (.if_icmp .eq 335, 3) := by decide +kernel
theorem dL_law_1213 : decode ML_law.2.1 1213 = .ok (.iconst 0, 1) := by decide +kernel
theorem dL_law_1214 : decode ML_law.2.1 1214 = .ok (.ireturn, 1) := by decide +kernel
theorem dL_law_1215 : decode ML_law.2.1 1215 = .ok (.aload_n 1, 1) := by decide +kernel
theorem dL_law_1216 : decode ML_law.2.1 1216 = .ok (.invokevirtual 168, 3) := by decide +kernel
theorem dL_law_1219 : decode ML_law.2.1 1219 = .ok (.aload_n 2, 1) := by decide +kernel
theorem dL_law_1220 : decode ML_law.2.1 1220 = .ok (.invokevirtual 171, 3) := by decide +kernel
theorem dL_law_1223 : decode ML_law.2.1 1223 = .ok (.if_icmp .eq 322, 3) := by decide +kernel
theorem dL_law_1226 : decode ML_law.2.1 1226 = .ok (.iconst 0, 1) := by decide +kernel
theorem dL_law_1227 : decode ML_law.2.1 1227 = .ok (.ireturn, 1) := by decide +kernel
theorem dL_law_1228 : decode ML_law.2.1 1228 = .ok (.aload_n 1, 1) := by decide +kernel
theorem dL_law_1229 : decode ML_law.2.1 1229 = .ok (.invokevirtual 172, 3) := by decide +kernel
theorem dL_law_1232 : decode ML_law.2.1 1232 = .ok (.aload_n 2, 1) := by decide +kernel
theorem dL_law_1233 : decode ML_law.2.1 1233 = .ok (.invokevirtual 175, 3) := by decide +kernel
theorem dL_law_1236 : decode ML_law.2.1 1236 = .ok (.if_icmp .eq 309, 3) := by decide +kernel
theorem dL_law_1239 : decode ML_law.2.1 1239 = .ok (.iconst 0, 1) := by decide +kernel
theorem dL_law_1240 : decode ML_law.2.1 1240 = .ok (.ireturn, 1) := by decide +kernel
theorem dL_law_1241 : decode ML_law.2.1 1241 = .ok (.aload_n 1, 1) := by decide +kernel
theorem dL_law_1242 : decode ML_law.2.1 1242 = .ok (.invokevirtual 176, 3) := by decide +kernel
theorem dL_law_1245 : decode ML_law.2.1 1245 = .ok (.aload_n 2, 1) := by decide +kernel
theorem dL_law_1246 : decode ML_law.2.1 1246 = .ok (.invokevirtual 179, 3) := by decide +kernel
theorem dL_law_1249 : decode ML_law.2.1 1249 = .ok (.if_icmp .eq 296, 3) := by decide +kernel
theorem dL_law_1252 : decode ML_law.2.1 1252 = .ok (.iconst 0, 1) := by decide +kernel
theorem dL_law_1253 : decode ML_law.2.1 1253 = .ok (.ireturn, 1) := by decide +kernel
theorem dL_law_1254 : decode ML_law.2.1 1254 = .ok (.aload_n 1, 1) := by decide +kernel
theorem dL_law_1255 : decode ML_law.2.1 1255 = .ok (.aload_n 0, 1) := by decide +kernel
theorem dL_law_1256 : decode ML_law.2.1 1256 = .ok (.iload 4, 2) := by decide +kernel
theorem dL_law_1258 : decode ML_law.2.1 1258 = .ok (.iconst 1, 1) := by decide +kernel
theorem dL_law_1259 : decode ML_law.2.1 1259 = .ok (.iadd, 1) := by decide +kernel
theorem dL_law_1260 : decode ML_law.2.1 1260 = .ok (.iaload, 1) := by decide +kernel
theorem dL_law_1261 : decode ML_law.2.1 1261 = .ok (.aload_n 0, 1) := by decide +kernel
theorem dL_law_1262 : decode ML_law.2.1 1262 = .ok (.iload 4, 2) := by decide +kernel
theorem dL_law_1264 : decode ML_law.2.1 1264 = .ok (.iconst 2, 1) := by decide +kernel
theorem dL_law_1265 : decode ML_law.2.1 1265 = .ok (.iadd, 1) := by decide +kernel
theorem dL_law_1266 : decode ML_law.2.1 1266 = .ok (.iaload, 1) := by decide +kernel
theorem dL_law_1267 : decode ML_law.2.1 1267 = .ok (.invokevirtual 180, 3) := by decide +kernel
theorem dL_law_1270 : decode ML_law.2.1 1270 = .ok (.aload_n 2, 1) := by decide +kernel
theorem dL_law_1271 : decode ML_law.2.1 1271 = .ok (.aload_n 0, 1) := by decide +kernel
theorem dL_law_1272 : decode ML_law.2.1 1272 = .ok (.iload 4, 2) := by decide +kernel
theorem dL_law_1274 : decode ML_law.2.1 1274 = .ok (.iconst 1, 1) := by decide +kernel
theorem dL_law_1275 : decode ML_law.2.1 1275 = .ok (.iadd, 1) := by decide +kernel
theorem dL_law_1276 : decode ML_law.2.1 1276 = .ok (.iaload, 1) := by decide +kernel
theorem dL_law_1277 : decode ML_law.2.1 1277 = .ok (.aload_n 0, 1) := by decide +kernel
theorem dL_law_1278 : decode ML_law.2.1 1278 = .ok (.iload 4, 2) := by decide +kernel
theorem dL_law_1280 : decode ML_law.2.1 1280 = .ok (.iconst 2, 1) := by decide +kernel
theorem dL_law_1281 : decode ML_law.2.1 1281 = .ok (.iadd, 1) := by decide +kernel
theorem dL_law_1282 : decode ML_law.2.1 1282 = .ok (.iaload, 1) := by decide +kernel
theorem dL_law_1283 : decode ML_law.2.1 1283 = .ok (.invokevirtual 183, 3) := by decide +kernel
theorem dL_law_1286 : decode ML_law.2.1 1286 = .ok (.if_icmp .eq 259, 3) := by decide +kernel
theorem dL_law_1289 : decode ML_law.2.1 1289 = .ok (.iconst 0, 1) := by decide +kernel
theorem dL_law_1290 : decode ML_law.2.1 1290 = .ok (.ireturn, 1) := by decide +kernel
theorem dL_law_1291 : decode ML_law.2.1 1291 = .ok (.aload_n 1, 1) := by decide +kernel
theorem dL_law_1292 : decode ML_law.2.1 1292 = .ok (.aload_n 0, 1) := by decide +kernel
theorem dL_law_1293 : decode ML_law.2.1 1293 = .ok (.iload 4, 2) := by decide +kernel
theorem dL_law_1295 : decode ML_law.2.1 1295 = .ok (.iconst 1, 1) := by decide +kernel
theorem dL_law_1296 : decode ML_law.2.1 1296 = .ok (.iadd, 1) := by decide +kernel
theorem dL_law_1297 : decode ML_law.2.1 1297 = .ok (.iaload, 1) := by decide +kernel
theorem dL_law_1298 : decode ML_law.2.1 1298 = .ok (.aload_n 0, 1) := by decide +kernel
theorem dL_law_1299 : decode ML_law.2.1 1299 = .ok (.iload 4, 2) := by decide +kernel
theorem dL_law_1301 : decode ML_law.2.1 1301 = .ok (.iconst 2, 1) := by decide +kernel
theorem dL_law_1302 : decode ML_law.2.1 1302 = .ok (.iadd, 1) := by decide +kernel
theorem dL_law_1303 : decode ML_law.2.1 1303 = .ok (.iaload, 1) := by decide +kernel
theorem dL_law_1304 : decode ML_law.2.1 1304 = .ok (.invokevirtual 184, 3) := by decide +kernel
theorem dL_law_1307 : decode ML_law.2.1 1307 = .ok (.aload_n 2, 1) := by decide +kernel
theorem dL_law_1308 : decode ML_law.2.1 1308 = .ok (.aload_n 0, 1) := by decide +kernel
theorem dL_law_1309 : decode ML_law.2.1 1309 = .ok (.iload 4, 2) := by decide +kernel
theorem dL_law_1311 : decode ML_law.2.1 1311 = .ok (.iconst 1, 1) := by decide +kernel
theorem dL_law_1312 : decode ML_law.2.1 1312 = .ok (.iadd, 1) := by decide +kernel
theorem dL_law_1313 : decode ML_law.2.1 1313 = .ok (.iaload, 1) := by decide +kernel
theorem dL_law_1314 : decode ML_law.2.1 1314 = .ok (.aload_n 0, 1) := by decide +kernel
theorem dL_law_1315 : decode ML_law.2.1 1315 = .ok (.iload 4, 2) := by decide +kernel
theorem dL_law_1317 : decode ML_law.2.1 1317 = .ok (.iconst 2, 1) := by decide +kernel
theorem dL_law_1318 : decode ML_law.2.1 1318 = .ok (.iadd, 1) := by decide +kernel
theorem dL_law_1319 : decode ML_law.2.1 1319 = .ok (.iaload, 1) := by decide +kernel
theorem dL_law_1320 : decode ML_law.2.1 1320 = .ok (.invokevirtual 187, 3) := by decide +kernel
theorem dL_law_1323 : decode ML_law.2.1 1323 = .ok (.if_icmp .eq 222, 3) := by decide +kernel
theorem dL_law_1326 : decode ML_law.2.1 1326 = .ok (.iconst 0, 1) := by decide +kernel
theorem dL_law_1327 : decode ML_law.2.1 1327 = .ok (.ireturn, 1) := by decide +kernel
theorem dL_law_1328 : decode ML_law.2.1 1328 = .ok (.aload_n 1, 1) := by decide +kernel
theorem dL_law_1329 : decode ML_law.2.1 1329 = .ok (.aload_n 0, 1) := by decide +kernel
theorem dL_law_1330 : decode ML_law.2.1 1330 = .ok (.iload 4, 2) := by decide +kernel
theorem dL_law_1332 : decode ML_law.2.1 1332 = .ok (.iconst 1, 1) := by decide +kernel
theorem dL_law_1333 : decode ML_law.2.1 1333 = .ok (.iadd, 1) := by decide +kernel
theorem dL_law_1334 : decode ML_law.2.1 1334 = .ok (.iaload, 1) := by decide +kernel
theorem dL_law_1335 : decode ML_law.2.1 1335 = .ok (.aload_n 0, 1) := by decide +kernel
theorem dL_law_1336 : decode ML_law.2.1 1336 = .ok (.iload 4, 2) := by decide +kernel
theorem dL_law_1338 : decode ML_law.2.1 1338 = .ok (.iconst 2, 1) := by decide +kernel
theorem dL_law_1339 : decode ML_law.2.1 1339 = .ok (.iadd, 1) := by decide +kernel
theorem dL_law_1340 : decode ML_law.2.1 1340 = .ok (.iaload, 1) := by decide +kernel
theorem dL_law_1341 : decode ML_law.2.1 1341 = .ok (.invokevirtual 188, 3) := by decide +kernel
theorem dL_law_1344 : decode ML_law.2.1 1344 = .ok (.aload_n 2, 1) := by decide +kernel
theorem dL_law_1345 : decode ML_law.2.1 1345 = .ok (.aload_n 0, 1) := by decide +kernel
theorem dL_law_1346 : decode ML_law.2.1 1346 = .ok (.iload 4, 2) := by decide +kernel
theorem dL_law_1348 : decode ML_law.2.1 1348 = .ok (.iconst 1, 1) := by decide +kernel
theorem dL_law_1349 : decode ML_law.2.1 1349 = .ok (.iadd, 1) := by decide +kernel
theorem dL_law_1350 : decode ML_law.2.1 1350 = .ok (.iaload, 1) := by decide +kernel
theorem dL_law_1351 : decode ML_law.2.1 1351 = .ok (.aload_n 0, 1) := by decide +kernel
theorem dL_law_1352 : decode ML_law.2.1 1352 = .ok (.iload 4, 2) := by decide +kernel
theorem dL_law_1354 : decode ML_law.2.1 1354 = .ok (.iconst 2, 1) := by decide +kernel
theorem dL_law_1355 : decode ML_law.2.1 1355 = .ok (.iadd, 1) := by decide +kernel
theorem dL_law_1356 : decode ML_law.2.1 1356 = .ok (.iaload, 1) := by decide +kernel
theorem dL_law_1357 : decode ML_law.2.1 1357 = .ok (.invokevirtual 191, 3) := by decide +kernel
theorem dL_law_1360 : decode ML_law.2.1 1360 = .ok (.if_icmp .eq 185, 3) := by decide +kernel
theorem dL_law_1363 : decode ML_law.2.1 1363 = .ok (.iconst 0, 1) := by decide +kernel
theorem dL_law_1364 : decode ML_law.2.1 1364 = .ok (.ireturn, 1) := by decide +kernel
theorem dL_law_1365 : decode ML_law.2.1 1365 = .ok (.aload_n 1, 1) := by decide +kernel
theorem dL_law_1366 : decode ML_law.2.1 1366 = .ok (.invokevirtual 192, 3) := by decide +kernel
theorem dL_law_1369 : decode ML_law.2.1 1369 = .ok (.aload_n 2, 1) := by decide +kernel
theorem dL_law_1370 : decode ML_law.2.1 1370 = .ok (.invokevirtual 195, 3) := by decide +kernel
theorem dL_law_1373 : decode ML_law.2.1 1373 = .ok (.if_icmp .eq 172, 3) := by decide +kernel
theorem dL_law_1376 : decode ML_law.2.1 1376 = .ok (.iconst 0, 1) := by decide +kernel
theorem dL_law_1377 : decode ML_law.2.1 1377 = .ok (.ireturn, 1) := by decide +kernel
theorem dL_law_1378 : decode ML_law.2.1 1378 = .ok (.aload_n 1, 1) := by decide +kernel
theorem dL_law_1379 : decode ML_law.2.1 1379 = .ok (.aload_n 0, 1) := by decide +kernel
theorem dL_law_1380 : decode ML_law.2.1 1380 = .ok (.iload 4, 2) := by decide +kernel
theorem dL_law_1382 : decode ML_law.2.1 1382 = .ok (.iconst 1, 1) := by decide +kernel
theorem dL_law_1383 : decode ML_law.2.1 1383 = .ok (.iadd, 1) := by decide +kernel
theorem dL_law_1384 : decode ML_law.2.1 1384 = .ok (.iaload, 1) := by decide +kernel
theorem dL_law_1385 : decode ML_law.2.1 1385 = .ok (.aload_n 0, 1) := by decide +kernel
theorem dL_law_1386 : decode ML_law.2.1 1386 = .ok (.iload 4, 2) := by decide +kernel
theorem dL_law_1388 : decode ML_law.2.1 1388 = .ok (.iconst 2, 1) := by decide +kernel
theorem dL_law_1389 : decode ML_law.2.1 1389 = .ok (.iadd, 1) := by decide +kernel
theorem dL_law_1390 : decode ML_law.2.1 1390 = .ok (.iaload, 1) := by decide +kernel
theorem dL_law_1391 : decode ML_law.2.1 1391 = .ok (.invokevirtual 196, 3) := by decide +kernel
theorem dL_law_1394 : decode ML_law.2.1 1394 = .ok (.aload_n 2, 1) := by decide +kernel
theorem dL_law_1395 : decode ML_law.2.1 1395 = .ok (.aload_n 0, 1) := by decide +kernel
theorem dL_law_1396 : decode ML_law.2.1 1396 = .ok (.iload 4, 2) := by decide +kernel
theorem dL_law_1398 : decode ML_law.2.1 1398 = .ok (.iconst 1, 1) := by decide +kernel
theorem dL_law_1399 : decode ML_law.2.1 1399 = .ok (.iadd, 1) := by decide +kernel
theorem dL_law_1400 : decode ML_law.2.1 1400 = .ok (.iaload, 1) := by decide +kernel
theorem dL_law_1401 : decode ML_law.2.1 1401 = .ok (.aload_n 0, 1) := by decide +kernel
theorem dL_law_1402 : decode ML_law.2.1 1402 = .ok (.iload 4, 2) := by decide +kernel
theorem dL_law_1404 : decode ML_law.2.1 1404 = .ok (.iconst 2, 1) := by decide +kernel
theorem dL_law_1405 : decode ML_law.2.1 1405 = .ok (.iadd, 1) := by decide +kernel
theorem dL_law_1406 : decode ML_law.2.1 1406 = .ok (.iaload, 1) := by decide +kernel
theorem dL_law_1407 : decode ML_law.2.1 1407 = .ok (.invokevirtual 199, 3) := by decide +kernel
theorem dL_law_1410 : decode ML_law.2.1 1410 = .ok (.if_icmp .eq 135, 3) := by decide +kernel
theorem dL_law_1413 : decode ML_law.2.1 1413 = .ok (.iconst 0, 1) := by decide +kernel
theorem dL_law_1414 : decode ML_law.2.1 1414 = .ok (.ireturn, 1) := by decide +kernel
theorem dL_law_1415 : decode ML_law.2.1 1415 = .ok (.aload_n 1, 1) := by decide +kernel
theorem dL_law_1416 : decode ML_law.2.1 1416 = .ok (.aload_n 0, 1) := by decide +kernel
theorem dL_law_1417 : decode ML_law.2.1 1417 = .ok (.iload 4, 2) := by decide +kernel
theorem dL_law_1419 : decode ML_law.2.1 1419 = .ok (.iconst 1, 1) := by decide +kernel
theorem dL_law_1420 : decode ML_law.2.1 1420 = .ok (.iadd, 1) := by decide +kernel
theorem dL_law_1421 : decode ML_law.2.1 1421 = .ok (.iaload, 1) := by decide +kernel
theorem dL_law_1422 : decode ML_law.2.1 1422 = .ok (.invokevirtual 200, 3) := by decide +kernel
theorem dL_law_1425 : decode ML_law.2.1 1425 = .ok (.aload_n 2, 1) := by decide +kernel
theorem dL_law_1426 : decode ML_law.2.1 1426 = .ok (.aload_n 0, 1) := by decide +kernel
theorem dL_law_1427 : decode ML_law.2.1 1427 = .ok (.iload 4, 2) := by decide +kernel
theorem dL_law_1429 : decode ML_law.2.1 1429 = .ok (.iconst 1, 1) := by decide +kernel
theorem dL_law_1430 : decode ML_law.2.1 1430 = .ok (.iadd, 1) := by decide +kernel
theorem dL_law_1431 : decode ML_law.2.1 1431 = .ok (.iaload, 1) := by decide +kernel
theorem dL_law_1432 : decode ML_law.2.1 1432 = .ok (.invokevirtual 203, 3) := by decide +kernel
theorem dL_law_1435 : decode ML_law.2.1 1435 = .ok (.if_icmp .eq 110, 3) := by decide +kernel
theorem dL_law_1438 : decode ML_law.2.1 1438 = .ok (.iconst 0, 1) := by decide +kernel
theorem dL_law_1439 : decode ML_law.2.1 1439 = .ok (.ireturn, 1) := by decide +kernel
theorem dL_law_1440 : decode ML_law.2.1 1440 = .ok (.aload_n 1, 1) := by decide +kernel
theorem dL_law_1441 : decode ML_law.2.1 1441 = .ok (.aload_n 0, 1) := by decide +kernel
theorem dL_law_1442 : decode ML_law.2.1 1442 = .ok (.iload 4, 2) := by decide +kernel
theorem dL_law_1444 : decode ML_law.2.1 1444 = .ok (.iconst 1, 1) := by decide +kernel
theorem dL_law_1445 : decode ML_law.2.1 1445 = .ok (.iadd, 1) := by decide +kernel
theorem dL_law_1446 : decode ML_law.2.1 1446 = .ok (.iaload, 1) := by decide +kernel
theorem dL_law_1447 : decode ML_law.2.1 1447 = .ok (.invokevirtual 204, 3) := by decide +kernel
theorem dL_law_1450 : decode ML_law.2.1 1450 = .ok (.aload_n 2, 1) := by decide +kernel
theorem dL_law_1451 : decode ML_law.2.1 1451 = .ok (.aload_n 0, 1) := by decide +kernel
theorem dL_law_1452 : decode ML_law.2.1 1452 = .ok (.iload 4, 2) := by decide +kernel
theorem dL_law_1454 : decode ML_law.2.1 1454 = .ok (.iconst 1, 1) := by decide +kernel
theorem dL_law_1455 : decode ML_law.2.1 1455 = .ok (.iadd, 1) := by decide +kernel
theorem dL_law_1456 : decode ML_law.2.1 1456 = .ok (.iaload, 1) := by decide +kernel
theorem dL_law_1457 : decode ML_law.2.1 1457 = .ok (.invokevirtual 207, 3) := by decide +kernel
theorem dL_law_1460 : decode ML_law.2.1 1460 = .ok (.if_icmp .eq 85, 3) := by decide +kernel
theorem dL_law_1463 : decode ML_law.2.1 1463 = .ok (.iconst 0, 1) := by decide +kernel
theorem dL_law_1464 : decode ML_law.2.1 1464 = .ok (.ireturn, 1) := by decide +kernel
theorem dL_law_1465 : decode ML_law.2.1 1465 = .ok (.aload_n 1, 1) := by decide +kernel
theorem dL_law_1466 : decode ML_law.2.1 1466 = .ok (.aload_n 0, 1) := by decide +kernel
theorem dL_law_1467 : decode ML_law.2.1 1467 = .ok (.iload 4, 2) := by decide +kernel
theorem dL_law_1469 : decode ML_law.2.1 1469 = .ok (.iconst 1, 1) := by decide +kernel
theorem dL_law_1470 : decode ML_law.2.1 1470 = .ok (.iadd, 1) := by decide +kernel
theorem dL_law_1471 : decode ML_law.2.1 1471 = .ok (.iaload, 1) := by decide +kernel
theorem dL_law_1472 : decode ML_law.2.1 1472 = .ok (.invokevirtual 208, 3) := by decide +kernel
theorem dL_law_1475 : decode ML_law.2.1 1475 = .ok (.aload_n 2, 1) := by decide +kernel
theorem dL_law_1476 : decode ML_law.2.1 1476 = .ok (.aload_n 0, 1) := by decide +kernel
theorem dL_law_1477 : decode ML_law.2.1 1477 = .ok (.iload 4, 2) := by decide +kernel
theorem dL_law_1479 : decode ML_law.2.1 1479 = .ok (.iconst 1, 1) := by decide +kernel
theorem dL_law_1480 : decode ML_law.2.1 1480 = .ok (.iadd, 1) := by decide +kernel
theorem dL_law_1481 : decode ML_law.2.1 1481 = .ok (.iaload, 1) := by decide +kernel
theorem dL_law_1482 : decode ML_law.2.1 1482 = .ok (.invokevirtual 211, 3) := by decide +kernel
theorem dL_law_1485 : decode ML_law.2.1 1485 = .ok (.if_icmp .eq 60, 3) := by decide +kernel
theorem dL_law_1488 : decode ML_law.2.1 1488 = .ok (.iconst 0, 1) := by decide +kernel
theorem dL_law_1489 : decode ML_law.2.1 1489 = .ok (.ireturn, 1) := by decide +kernel
theorem dL_law_1490 : decode ML_law.2.1 1490 = .ok (.aload_n 1, 1) := by decide +kernel
theorem dL_law_1491 : decode ML_law.2.1 1491 = .ok (.aload_n 0, 1) := by decide +kernel
theorem dL_law_1492 : decode ML_law.2.1 1492 = .ok (.iload 4, 2) := by decide +kernel
theorem dL_law_1494 : decode ML_law.2.1 1494 = .ok (.iconst 1, 1) := by decide +kernel
theorem dL_law_1495 : decode ML_law.2.1 1495 = .ok (.iadd, 1) := by decide +kernel
theorem dL_law_1496 : decode ML_law.2.1 1496 = .ok (.iaload, 1) := by decide +kernel
theorem dL_law_1497 : decode ML_law.2.1 1497 = .ok (.aload_n 3, 1) := by decide +kernel
theorem dL_law_1498 : decode ML_law.2.1 1498 = .ok (.invokestatic 212, 3) := by decide +kernel
theorem dL_law_1501 : decode ML_law.2.1 1501 = .ok (.istore 5, 2) := by decide +kernel
theorem dL_law_1503 : decode ML_law.2.1 1503 = .ok (.aload_n 2, 1) := by decide +kernel
theorem dL_law_1504 : decode ML_law.2.1 1504 = .ok (.aload_n 0, 1) := by decide +kernel
theorem dL_law_1505 : decode ML_law.2.1 1505 = .ok (.iload 4, 2) := by decide +kernel
theorem dL_law_1507 : decode ML_law.2.1 1507 = .ok (.iconst 1, 1) := by decide +kernel
theorem dL_law_1508 : decode ML_law.2.1 1508 = .ok (.iadd, 1) := by decide +kernel
theorem dL_law_1509 : decode ML_law.2.1 1509 = .ok (.iaload, 1) := by decide +kernel
theorem dL_law_1510 : decode ML_law.2.1 1510 = .ok (.invokevirtual 215, 3) := by decide +kernel
theorem dL_law_1513 : decode ML_law.2.1 1513 = .ok (.lstore 6, 2) := by decide +kernel
theorem dL_law_1515 : decode ML_law.2.1 1515 = .ok (.aload_n 2, 1) := by decide +kernel
theorem dL_law_1516 : decode ML_law.2.1 1516 = .ok (.invokevirtual 52, 3) := by decide +kernel
theorem dL_law_1519 : decode ML_law.2.1 1519 = .ok (.iload 5, 2) := by decide +kernel
theorem dL_law_1521 : decode ML_law.2.1 1521 = .ok (.if_icmp .eq 5, 3) := by decide +kernel
theorem dL_law_1524 : decode ML_law.2.1 1524 = .ok (.iconst 0, 1) := by decide +kernel
theorem dL_law_1525 : decode ML_law.2.1 1525 = .ok (.ireturn, 1) := by decide +kernel
theorem dL_law_1526 : decode ML_law.2.1 1526 = .ok (.iload 5, 2) := by decide +kernel
theorem dL_law_1528 : decode ML_law.2.1 1528 = .ok (.ifCond .ne 14, 3) := by decide +kernel
theorem dL_law_1531 : decode ML_law.2.1 1531 = .ok (.aload_n 3, 1) := by decide +kernel
theorem dL_law_1532 : decode ML_law.2.1 1532 = .ok (.iconst 0, 1) := by decide +kernel
theorem dL_law_1533 : decode ML_law.2.1 1533 = .ok (.laload, 1) := by decide +kernel
theorem dL_law_1534 : decode ML_law.2.1 1534 = .ok (.lload 6, 2) := by decide +kernel
theorem dL_law_1536 : decode ML_law.2.1 1536 = .ok (.lcmp, 1) := by decide +kernel
theorem dL_law_1537 : decode ML_law.2.1 1537 = .ok (.ifCond .eq 5, 3) := by decide +kernel
theorem dL_law_1540 : decode ML_law.2.1 1540 = .ok (.iconst 0, 1) := by decide +kernel
theorem dL_law_1541 : decode ML_law.2.1 1541 = .ok (.ireturn, 1) := by decide +kernel
theorem dL_law_1542 : decode ML_law.2.1 1542 = .ok (.goto 3, 3) := by decide +kernel
theorem dL_law_1545 : decode ML_law.2.1 1545 = .ok (.iinc 4 5, 3) := by decide +kernel
theorem dL_law_1548 : decode ML_law.2.1 1548 = .ok (.goto (-1525), 3) := by decide +kernel
theorem dL_law_1551 : decode ML_law.2.1 1551 = .ok (.iconst 1, 1) := by decide +kernel
theorem dL_law_1552 : decode ML_law.2.1 1552 = .ok (.ireturn, 1) := by decide +kernel
