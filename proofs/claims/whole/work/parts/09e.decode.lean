theorem dX12_deadOnes_0 : decode MX12_deadOnes.2.1 0 = .ok (.iconst 0, 1) := by decide +kernel
theorem dX12_deadOnes_1 : decode MX12_deadOnes.2.1 1 = .ok (.istore_n 2, 1) := by decide +kernel
theorem dX12_deadOnes_2 : decode MX12_deadOnes.2.1 2 = .ok (.iconst 0, 1) := by decide +kernel
theorem dX12_deadOnes_3 : decode MX12_deadOnes.2.1 3 = .ok (.istore_n 3, 1) := by decide +kernel
theorem dX12_deadOnes_4 : decode MX12_deadOnes.2.1 4 = .ok (.iload_n 3, 1) := by decide +kernel
theorem dX12_deadOnes_5 : decode MX12_deadOnes.2.1 5 = .ok (.aload_n 0, 1) := by decide +kernel
theorem dX12_deadOnes_6 : decode MX12_deadOnes.2.1 6 = .ok (.getfield 92, 3) := by decide +kernel
theorem dX12_deadOnes_9 : decode MX12_deadOnes.2.1 9 = .ok (.if_icmp .ge 28, 3) := by decide +kernel
theorem dX12_deadOnes_12 : decode MX12_deadOnes.2.1 12 = .ok (.iload_n 2, 1) := by decide +kernel
theorem dX12_deadOnes_13 : decode MX12_deadOnes.2.1 13 = .ok (.aload_n 1, 1) := by decide +kernel
theorem dX12_deadOnes_14 : decode MX12_deadOnes.2.1 14 = .ok (.bipush 54, 2) := by decide +kernel
theorem dX12_deadOnes_16 : decode MX12_deadOnes.2.1 16 = .ok (.iload_n 3, 1) := by decide +kernel
theorem dX12_deadOnes_17 : decode MX12_deadOnes.2.1 17 = .ok (.iadd, 1) := by decide +kernel
theorem dX12_deadOnes_18 : decode MX12_deadOnes.2.1 18 = .ok (.iaload, 1) := by decide +kernel
theorem dX12_deadOnes_19 : decode MX12_deadOnes.2.1 19 = .ok (.ifCond .le 9, 3) := by decide +kernel
theorem dX12_deadOnes_22 : decode MX12_deadOnes.2.1 22 = .ok (.iconst 1, 1) := by decide +kernel
theorem dX12_deadOnes_23 : decode MX12_deadOnes.2.1 23 = .ok (.iload_n 3, 1) := by decide +kernel
theorem dX12_deadOnes_24 : decode MX12_deadOnes.2.1 24 = .ok (.ishl, 1) := by decide +kernel
theorem dX12_deadOnes_25 : decode MX12_deadOnes.2.1 25 = .ok (.goto 4, 3) := by decide +kernel
theorem dX12_deadOnes_28 : decode MX12_deadOnes.2.1 28 = .ok (.iconst 0, 1) := by decide +kernel
theorem dX12_deadOnes_29 : decode MX12_deadOnes.2.1 29 = .ok (.ior, 1) := by decide +kernel
theorem dX12_deadOnes_30 : decode MX12_deadOnes.2.1 30 = .ok (.istore_n 2, 1) := by decide +kernel
theorem dX12_deadOnes_31 : decode MX12_deadOnes.2.1 31 = .ok (.iinc 3 1, 3) := by decide +kernel
theorem dX12_deadOnes_34 : decode MX12_deadOnes.2.1 34 = .ok (.goto (-30), 3) := by decide +kernel
theorem dX12_deadOnes_37 : decode MX12_deadOnes.2.1 37 = .ok (.iload_n 2, 1) := by decide +kernel
theorem dX12_deadOnes_38 : decode MX12_deadOnes.2.1 38 = .ok (.ireturn, 1) := by decide +kernel
theorem dX12_look_0 : decode MX12_look.2.1 0 = .ok (.iconst 0, 1) := by decide +kernel
theorem dX12_look_1 : decode MX12_look.2.1 1 = .ok (.istore_n 3, 1) := by decide +kernel
theorem dX12_look_2 : decode MX12_look.2.1 2 = .ok (.iload_n 3, 1) := by decide +kernel
theorem dX12_look_3 : decode MX12_look.2.1 3 = .ok (.aload_n 0, 1) := by decide +kernel
theorem dX12_look_4 : decode MX12_look.2.1 4 = .ok (.getfield 92, 3) := by decide +kernel
theorem dX12_look_7 : decode MX12_look.2.1 7 = .ok (.if_icmp .ge 60, 3) := by decide +kernel
theorem dX12_look_10 : decode MX12_look.2.1 10 = .ok (.iload_n 3, 1) := by decide +kernel
theorem dX12_look_11 : decode MX12_look.2.1 11 = .ok (.iload_n 2, 1) := by decide +kernel
theorem dX12_look_12 : decode MX12_look.2.1 12 = .ok (.if_icmp .eq 49, 3) := by decide +kernel
theorem dX12_look_15 : decode MX12_look.2.1 15 = .ok (.aload_n 1, 1) := by decide +kernel
theorem dX12_look_16 : decode MX12_look.2.1 16 = .ok (.bipush 60, 2) := by decide +kernel
theorem dX12_look_18 : decode MX12_look.2.1 18 = .ok (.iload_n 2, 1) := by decide +kernel
theorem dX12_look_19 : decode MX12_look.2.1 19 = .ok (.iadd, 1) := by decide +kernel
theorem dX12_look_20 : decode MX12_look.2.1 20 = .ok (.iaload, 1) := by decide +kernel
theorem dX12_look_21 : decode MX12_look.2.1 21 = .ok (.iload_n 3, 1) := by decide +kernel
theorem dX12_look_22 : decode MX12_look.2.1 22 = .ok (.invokestatic 227, 3) := by decide +kernel
theorem dX12_look_25 : decode MX12_look.2.1 25 = .ok (.ifCond .ne 6, 3) := by decide +kernel
theorem dX12_look_28 : decode MX12_look.2.1 28 = .ok (.goto 33, 3) := by decide +kernel
theorem dX12_look_31 : decode MX12_look.2.1 31 = .ok (.aload_n 1, 1) := by decide +kernel
theorem dX12_look_32 : decode MX12_look.2.1 32 = .ok (.iload_n 2, 1) := by decide +kernel
theorem dX12_look_33 : decode MX12_look.2.1 33 = .ok (.iload_n 3, 1) := by decide +kernel
theorem dX12_look_34 : decode MX12_look.2.1 34 = .ok (.invokestatic 151, 3) := by decide +kernel
theorem dX12_look_37 : decode MX12_look.2.1 37 = .ok (.dup2, 1) := by decide +kernel
theorem dX12_look_38 : decode MX12_look.2.1 38 = .ok (.iaload, 1) := by decide +kernel
theorem dX12_look_39 : decode MX12_look.2.1 39 = .ok (.aload_n 0, 1) := by decide +kernel
theorem dX12_look_40 : decode MX12_look.2.1 40 = .ok (.getfield 42, 3) := by decide +kernel
theorem dX12_look_43 : decode MX12_look.2.1 43 = .ok (.iload_n 3, 1) := by decide +kernel
theorem dX12_look_44 : decode MX12_look.2.1 44 = .ok (.iload_n 2, 1) := by decide +kernel
theorem dX12_look_45 : decode MX12_look.2.1 45 = .ok (.invokestatic 151, 3) := by decide +kernel
theorem dX12_look_48 : decode MX12_look.2.1 48 = .ok (.iaload, 1) := by decide +kernel
theorem dX12_look_49 : decode MX12_look.2.1 49 = .ok (.aload_n 1, 1) := by decide +kernel
theorem dX12_look_50 : decode MX12_look.2.1 50 = .ok (.iload_n 2, 1) := by decide +kernel
theorem dX12_look_51 : decode MX12_look.2.1 51 = .ok (.iload_n 3, 1) := by decide +kernel
theorem dX12_look_52 : decode MX12_look.2.1 52 = .ok (.invokestatic 151, 3) := by decide +kernel
theorem dX12_look_55 : decode MX12_look.2.1 55 = .ok (.iaload, 1) := by decide +kernel
theorem dX12_look_56 : decode MX12_look.2.1 56 = .ok (.invokestatic 230, 3) := by decide +kernel
theorem dX12_look_59 : decode MX12_look.2.1 59 = .ok (.iadd, 1) := by decide +kernel
theorem dX12_look_60 : decode MX12_look.2.1 60 = .ok (.iastore, 1) := by decide +kernel
theorem dX12_look_61 : decode MX12_look.2.1 61 = .ok (.iinc 3 1, 3) := by decide +kernel
theorem dX12_look_64 : decode MX12_look.2.1 64 = .ok (.goto (-62), 3) := by decide +kernel
theorem dX12_look_67 : decode MX12_look.2.1 67 = .ok (.return_, 1) := by decide +kernel
theorem dX12_goHour_0 : decode MX12_goHour.2.1 0 = .ok (.aload_n 0, 1) := by decide +kernel
theorem dX12_goHour_1 : decode MX12_goHour.2.1 1 = .ok (.aload_n 1, 1) := by decide +kernel
theorem dX12_goHour_2 : decode MX12_goHour.2.1 2 = .ok (.invokevirtual 235, 3) := by decide +kernel
theorem dX12_goHour_5 : decode MX12_goHour.2.1 5 = .ok (.istore_n 2, 1) := by decide +kernel
theorem dX12_goHour_6 : decode MX12_goHour.2.1 6 = .ok (.iconst 0, 1) := by decide +kernel
theorem dX12_goHour_7 : decode MX12_goHour.2.1 7 = .ok (.istore_n 3, 1) := by decide +kernel
theorem dX12_goHour_8 : decode MX12_goHour.2.1 8 = .ok (.iconst 0, 1) := by decide +kernel
theorem dX12_goHour_9 : decode MX12_goHour.2.1 9 = .ok (.istore 4, 2) := by decide +kernel
theorem dX12_goHour_11 : decode MX12_goHour.2.1 11 = .ok (.iload 4, 2) := by decide +kernel
theorem dX12_goHour_13 : decode MX12_goHour.2.1 13 = .ok (.aload_n 0, 1) := by decide +kernel
theorem dX12_goHour_14 : decode MX12_goHour.2.1 14 = .ok (.getfield 92, 3) := by decide +kernel
theorem dX12_goHour_17 : decode MX12_goHour.2.1 17 = .ok (.if_icmp .ge 59, 3) := by decide +kernel
theorem dX12_goHour_20 : decode MX12_goHour.2.1 20 = .ok (.iconst 0, 1) := by decide +kernel
theorem dX12_goHour_21 : decode MX12_goHour.2.1 21 = .ok (.istore 5, 2) := by decide +kernel
theorem dX12_goHour_23 : decode MX12_goHour.2.1 23 = .ok (.iload 5, 2) := by decide +kernel
theorem dX12_goHour_25 : decode MX12_goHour.2.1 25 = .ok (.aload_n 0, 1) := by decide +kernel
theorem dX12_goHour_26 : decode MX12_goHour.2.1 26 = .ok (.getfield 92, 3) := by decide +kernel
theorem dX12_goHour_29 : decode MX12_goHour.2.1 29 = .ok (.if_icmp .ge 41, 3) := by decide +kernel
theorem dX12_goHour_32 : decode MX12_goHour.2.1 32 = .ok (.aload_n 0, 1) := by decide +kernel
theorem dX12_goHour_33 : decode MX12_goHour.2.1 33 = .ok (.getfield 42, 3) := by decide +kernel
theorem dX12_goHour_36 : decode MX12_goHour.2.1 36 = .ok (.iload 4, 2) := by decide +kernel
theorem dX12_goHour_38 : decode MX12_goHour.2.1 38 = .ok (.iload 5, 2) := by decide +kernel
theorem dX12_goHour_40 : decode MX12_goHour.2.1 40 = .ok (.invokestatic 151, 3) := by decide +kernel
theorem dX12_goHour_43 : decode MX12_goHour.2.1 43 = .ok (.iload 4, 2) := by decide +kernel
theorem dX12_goHour_45 : decode MX12_goHour.2.1 45 = .ok (.iload 5, 2) := by decide +kernel
theorem dX12_goHour_47 : decode MX12_goHour.2.1 47 = .ok (.if_icmp .ne 7, 3) := by decide +kernel
theorem dX12_goHour_50 : decode MX12_goHour.2.1 50 = .ok (.iconst 0, 1) := by decide +kernel
theorem dX12_goHour_51 : decode MX12_goHour.2.1 51 = .ok (.goto 12, 3) := by decide +kernel
theorem dX12_goHour_54 : decode MX12_goHour.2.1 54 = .ok (.aload_n 0, 1) := by decide +kernel
theorem dX12_goHour_55 : decode MX12_goHour.2.1 55 = .ok (.aload_n 1, 1) := by decide +kernel
theorem dX12_goHour_56 : decode MX12_goHour.2.1 56 = .ok (.iload 4, 2) := by decide +kernel
theorem dX12_goHour_58 : decode MX12_goHour.2.1 58 = .ok (.iload 5, 2) := by decide +kernel
theorem dX12_goHour_60 : decode MX12_goHour.2.1 60 = .ok (.invokevirtual 216, 3) := by decide +kernel
theorem dX12_goHour_63 : decode MX12_goHour.2.1 63 = .ok (.iastore, 1) := by decide +kernel
theorem dX12_goHour_64 : decode MX12_goHour.2.1 64 = .ok (.iinc 5 1, 3) := by decide +kernel
theorem dX12_goHour_67 : decode MX12_goHour.2.1 67 = .ok (.goto (-44), 3) := by decide +kernel
theorem dX12_goHour_70 : decode MX12_goHour.2.1 70 = .ok (.iinc 4 1, 3) := by decide +kernel
theorem dX12_goHour_73 : decode MX12_goHour.2.1 73 = .ok (.goto (-62), 3) := by decide +kernel
theorem dX12_goHour_76 : decode MX12_goHour.2.1 76 = .ok (.iconst 0, 1) := by decide +kernel
theorem dX12_goHour_77 : decode MX12_goHour.2.1 77 = .ok (.istore 4, 2) := by decide +kernel
theorem dX12_goHour_79 : decode MX12_goHour.2.1 79 = .ok (.iload 4, 2) := by decide +kernel
theorem dX12_goHour_81 : decode MX12_goHour.2.1 81 = .ok (.aload_n 0, 1) := by decide +kernel
theorem dX12_goHour_82 : decode MX12_goHour.2.1 82 = .ok (.getfield 92, 3) := by decide +kernel
theorem dX12_goHour_85 : decode MX12_goHour.2.1 85 = .ok (.if_icmp .ge 95, 3) := by decide +kernel
theorem dX12_goHour_88 : decode MX12_goHour.2.1 88 = .ok (.iconst 0, 1) := by decide +kernel
theorem dX12_goHour_89 : decode MX12_goHour.2.1 89 = .ok (.istore 5, 2) := by decide +kernel
theorem dX12_goHour_91 : decode MX12_goHour.2.1 91 = .ok (.iload 5, 2) := by decide +kernel
theorem dX12_goHour_93 : decode MX12_goHour.2.1 93 = .ok (.aload_n 0, 1) := by decide +kernel
theorem dX12_goHour_94 : decode MX12_goHour.2.1 94 = .ok (.getfield 92, 3) := by decide +kernel
theorem dX12_goHour_97 : decode MX12_goHour.2.1 97 = .ok (.if_icmp .ge 77, 3) := by decide +kernel
theorem dX12_goHour_100 : decode MX12_goHour.2.1 100 = .ok (.iload_n 2, 1) := by decide +kernel
theorem dX12_goHour_101 : decode MX12_goHour.2.1 101 = .ok (.iload 4, 2) := by decide +kernel
theorem dX12_goHour_103 : decode MX12_goHour.2.1 103 = .ok (.invokestatic 227, 3) := by decide +kernel
theorem dX12_goHour_106 : decode MX12_goHour.2.1 106 = .ok (.ifCond .eq 68, 3) := by decide +kernel
theorem dX12_goHour_109 : decode MX12_goHour.2.1 109 = .ok (.iload_n 2, 1) := by decide +kernel
theorem dX12_goHour_110 : decode MX12_goHour.2.1 110 = .ok (.iload 5, 2) := by decide +kernel
theorem dX12_goHour_112 : decode MX12_goHour.2.1 112 = .ok (.invokestatic 227, 3) := by decide +kernel
theorem dX12_goHour_115 : decode MX12_goHour.2.1 115 = .ok (.ifCond .eq 6, 3) := by decide +kernel
theorem dX12_goHour_118 : decode MX12_goHour.2.1 118 = .ok (.goto 50, 3) := by decide +kernel
theorem dX12_goHour_121 : decode MX12_goHour.2.1 121 = .ok (.aload_n 1, 1) := by decide +kernel
theorem dX12_goHour_122 : decode MX12_goHour.2.1 122 = .ok (.bipush 42, 2) := by decide +kernel
theorem dX12_goHour_124 : decode MX12_goHour.2.1 124 = .ok (.iload 4, 2) := by decide +kernel
theorem dX12_goHour_126 : decode MX12_goHour.2.1 126 = .ok (.iadd, 1) := by decide +kernel
theorem dX12_goHour_127 : decode MX12_goHour.2.1 127 = .ok (.sipush 9999, 3) := by decide +kernel
theorem dX12_goHour_130 : decode MX12_goHour.2.1 130 = .ok (.aload_n 1, 1) := by decide +kernel
theorem dX12_goHour_131 : decode MX12_goHour.2.1 131 = .ok (.bipush 42, 2) := by decide +kernel
theorem dX12_goHour_133 : decode MX12_goHour.2.1 133 = .ok (.iload 4, 2) := by decide +kernel
theorem dX12_goHour_135 : decode MX12_goHour.2.1 135 = .ok (.iadd, 1) := by decide +kernel
theorem dX12_goHour_136 : decode MX12_goHour.2.1 136 = .ok (.iaload, 1) := by decide +kernel
theorem dX12_goHour_137 : decode MX12_goHour.2.1 137 = .ok (.aload_n 0, 1) := by decide +kernel
theorem dX12_goHour_138 : decode MX12_goHour.2.1 138 = .ok (.getfield 42, 3) := by decide +kernel
theorem dX12_goHour_141 : decode MX12_goHour.2.1 141 = .ok (.iload 5, 2) := by decide +kernel
theorem dX12_goHour_143 : decode MX12_goHour.2.1 143 = .ok (.iload 4, 2) := by decide +kernel
theorem dX12_goHour_145 : decode MX12_goHour.2.1 145 = .ok (.invokestatic 151, 3) := by decide +kernel
theorem dX12_goHour_148 : decode MX12_goHour.2.1 148 = .ok (.iaload, 1) := by decide +kernel
theorem dX12_goHour_149 : decode MX12_goHour.2.1 149 = .ok (.iadd, 1) := by decide +kernel
theorem dX12_goHour_150 : decode MX12_goHour.2.1 150 = .ok (.invokestatic 194, 3) := by decide +kernel
theorem dX12_goHour_153 : decode MX12_goHour.2.1 153 = .ok (.iastore, 1) := by decide +kernel
theorem dX12_goHour_154 : decode MX12_goHour.2.1 154 = .ok (.aload_n 1, 1) := by decide +kernel
theorem dX12_goHour_155 : decode MX12_goHour.2.1 155 = .ok (.bipush 60, 2) := by decide +kernel
theorem dX12_goHour_157 : decode MX12_goHour.2.1 157 = .ok (.iload 4, 2) := by decide +kernel
theorem dX12_goHour_159 : decode MX12_goHour.2.1 159 = .ok (.iadd, 1) := by decide +kernel
theorem dX12_goHour_160 : decode MX12_goHour.2.1 160 = .ok (.dup2, 1) := by decide +kernel
theorem dX12_goHour_161 : decode MX12_goHour.2.1 161 = .ok (.iaload, 1) := by decide +kernel
theorem dX12_goHour_162 : decode MX12_goHour.2.1 162 = .ok (.iconst 1, 1) := by decide +kernel
theorem dX12_goHour_163 : decode MX12_goHour.2.1 163 = .ok (.iload 5, 2) := by decide +kernel
theorem dX12_goHour_165 : decode MX12_goHour.2.1 165 = .ok (.ishl, 1) := by decide +kernel
theorem dX12_goHour_166 : decode MX12_goHour.2.1 166 = .ok (.ior, 1) := by decide +kernel
theorem dX12_goHour_167 : decode MX12_goHour.2.1 167 = .ok (.iastore, 1) := by decide +kernel
theorem dX12_goHour_168 : decode MX12_goHour.2.1 168 = .ok (.iinc 5 1, 3) := by decide +kernel
theorem dX12_goHour_171 : decode MX12_goHour.2.1 171 = .ok (.goto (-80), 3) := by decide +kernel
theorem dX12_goHour_174 : decode MX12_goHour.2.1 174 = .ok (.iinc 4 1, 3) := by decide +kernel
theorem dX12_goHour_177 : decode MX12_goHour.2.1 177 = .ok (.goto (-98), 3) := by decide +kernel
theorem dX12_goHour_180 : decode MX12_goHour.2.1 180 = .ok (.iconst 0, 1) := by decide +kernel
theorem dX12_goHour_181 : decode MX12_goHour.2.1 181 = .ok (.istore 4, 2) := by decide +kernel
theorem dX12_goHour_183 : decode MX12_goHour.2.1 183 = .ok (.iload 4, 2) := by decide +kernel
theorem dX12_goHour_185 : decode MX12_goHour.2.1 185 = .ok (.aload_n 0, 1) := by decide +kernel
theorem dX12_goHour_186 : decode MX12_goHour.2.1 186 = .ok (.getfield 92, 3) := by decide +kernel
theorem dX12_goHour_189 : decode MX12_goHour.2.1 189 = .ok (.if_icmp .ge 79, 3) := by decide +kernel
theorem dX12_goHour_192 : decode MX12_goHour.2.1 192 = .ok (.iconst 0, 1) := by decide +kernel
theorem dX12_goHour_193 : decode MX12_goHour.2.1 193 = .ok (.istore 5, 2) := by decide +kernel
theorem dX12_goHour_195 : decode MX12_goHour.2.1 195 = .ok (.iload 5, 2) := by decide +kernel
theorem dX12_goHour_197 : decode MX12_goHour.2.1 197 = .ok (.aload_n 0, 1) := by decide +kernel
theorem dX12_goHour_198 : decode MX12_goHour.2.1 198 = .ok (.getfield 92, 3) := by decide +kernel
theorem dX12_goHour_201 : decode MX12_goHour.2.1 201 = .ok (.if_icmp .ge 61, 3) := by decide +kernel
theorem dX12_goHour_204 : decode MX12_goHour.2.1 204 = .ok (.bipush 66, 2) := by decide +kernel
theorem dX12_goHour_206 : decode MX12_goHour.2.1 206 = .ok (.iload 4, 2) := by decide +kernel
theorem dX12_goHour_208 : decode MX12_goHour.2.1 208 = .ok (.iload 5, 2) := by decide +kernel
theorem dX12_goHour_210 : decode MX12_goHour.2.1 210 = .ok (.invokestatic 151, 3) := by decide +kernel
theorem dX12_goHour_213 : decode MX12_goHour.2.1 213 = .ok (.iadd, 1) := by decide +kernel
theorem dX12_goHour_214 : decode MX12_goHour.2.1 214 = .ok (.istore 6, 2) := by decide +kernel
theorem dX12_goHour_216 : decode MX12_goHour.2.1 216 = .ok (.aload_n 1, 1) := by decide +kernel
theorem dX12_goHour_217 : decode MX12_goHour.2.1 217 = .ok (.iload 6, 2) := by decide +kernel
theorem dX12_goHour_219 : decode MX12_goHour.2.1 219 = .ok (.iaload, 1) := by decide +kernel
theorem dX12_goHour_220 : decode MX12_goHour.2.1 220 = .ok (.ifCond .le 36, 3) := by decide +kernel
theorem dX12_goHour_223 : decode MX12_goHour.2.1 223 = .ok (.iload_n 2, 1) := by decide +kernel
theorem dX12_goHour_224 : decode MX12_goHour.2.1 224 = .ok (.iload 4, 2) := by decide +kernel
theorem dX12_goHour_226 : decode MX12_goHour.2.1 226 = .ok (.invokestatic 227, 3) := by decide +kernel
theorem dX12_goHour_229 : decode MX12_goHour.2.1 229 = .ok (.ifCond .ne 27, 3) := by decide +kernel
theorem dX12_goHour_232 : decode MX12_goHour.2.1 232 = .ok (.iload_n 2, 1) := by decide +kernel
theorem dX12_goHour_233 : decode MX12_goHour.2.1 233 = .ok (.iload 5, 2) := by decide +kernel
theorem dX12_goHour_235 : decode MX12_goHour.2.1 235 = .ok (.invokestatic 227, 3) := by decide +kernel
theorem dX12_goHour_238 : decode MX12_goHour.2.1 238 = .ok (.ifCond .ne 18, 3) := by decide +kernel
theorem dX12_goHour_241 : decode MX12_goHour.2.1 241 = .ok (.aload_n 1, 1) := by decide +kernel
theorem dX12_goHour_242 : decode MX12_goHour.2.1 242 = .ok (.iload 6, 2) := by decide +kernel
theorem dX12_goHour_244 : decode MX12_goHour.2.1 244 = .ok (.bipush 99, 2) := by decide +kernel
theorem dX12_goHour_246 : decode MX12_goHour.2.1 246 = .ok (.aload_n 1, 1) := by decide +kernel
theorem dX12_goHour_247 : decode MX12_goHour.2.1 247 = .ok (.iload 6, 2) := by decide +kernel
theorem dX12_goHour_249 : decode MX12_goHour.2.1 249 = .ok (.iaload, 1) := by decide +kernel
theorem dX12_goHour_250 : decode MX12_goHour.2.1 250 = .ok (.iconst 1, 1) := by decide +kernel
theorem dX12_goHour_251 : decode MX12_goHour.2.1 251 = .ok (.iadd, 1) := by decide +kernel
theorem dX12_goHour_252 : decode MX12_goHour.2.1 252 = .ok (.invokestatic 194, 3) := by decide +kernel
theorem dX12_goHour_255 : decode MX12_goHour.2.1 255 = .ok (.iastore, 1) := by decide +kernel
theorem dX12_goHour_256 : decode MX12_goHour.2.1 256 = .ok (.iinc 5 1, 3) := by decide +kernel
theorem dX12_goHour_259 : decode MX12_goHour.2.1 259 = .ok (.goto (-64), 3) := by decide +kernel
theorem dX12_goHour_262 : decode MX12_goHour.2.1 262 = .ok (.iinc 4 1, 3) := by decide +kernel
theorem dX12_goHour_265 : decode MX12_goHour.2.1 265 = .ok (.goto (-82), 3) := by decide +kernel
theorem dX12_goHour_268 : decode MX12_goHour.2.1 268 = .ok (.iconst 0, 1) := by decide +kernel
theorem dX12_goHour_269 : decode MX12_goHour.2.1 269 = .ok (.istore 4, 2) := by decide +kernel
theorem dX12_goHour_271 : decode MX12_goHour.2.1 271 = .ok (.iload 4, 2) := by decide +kernel
theorem dX12_goHour_273 : decode MX12_goHour.2.1 273 = .ok (.aload_n 0, 1) := by decide +kernel
theorem dX12_goHour_274 : decode MX12_goHour.2.1 274 = .ok (.getfield 92, 3) := by decide +kernel
theorem dX12_goHour_277 : decode MX12_goHour.2.1 277 = .ok (.if_icmp .ge 55, 3) := by decide +kernel
theorem dX12_goHour_280 : decode MX12_goHour.2.1 280 = .ok (.iload_n 2, 1) := by decide +kernel
theorem dX12_goHour_281 : decode MX12_goHour.2.1 281 = .ok (.iload 4, 2) := by decide +kernel
theorem dX12_goHour_283 : decode MX12_goHour.2.1 283 = .ok (.invokestatic 227, 3) := by decide +kernel
theorem dX12_goHour_286 : decode MX12_goHour.2.1 286 = .ok (.ifCond .ne 6, 3) := by decide +kernel
theorem dX12_goHour_289 : decode MX12_goHour.2.1 289 = .ok (.goto 37, 3) := by decide +kernel
theorem dX12_goHour_292 : decode MX12_goHour.2.1 292 = .ok (.aload_n 1, 1) := by decide +kernel
theorem dX12_goHour_293 : decode MX12_goHour.2.1 293 = .ok (.bipush 54, 2) := by decide +kernel
theorem dX12_goHour_295 : decode MX12_goHour.2.1 295 = .ok (.iload 4, 2) := by decide +kernel
theorem dX12_goHour_297 : decode MX12_goHour.2.1 297 = .ok (.iadd, 1) := by decide +kernel
theorem dX12_goHour_298 : decode MX12_goHour.2.1 298 = .ok (.dup2, 1) := by decide +kernel
theorem dX12_goHour_299 : decode MX12_goHour.2.1 299 = .ok (.iaload, 1) := by decide +kernel
theorem dX12_goHour_300 : decode MX12_goHour.2.1 300 = .ok (.iconst 1, 1) := by decide +kernel
theorem dX12_goHour_301 : decode MX12_goHour.2.1 301 = .ok (.isub, 1) := by decide +kernel
theorem dX12_goHour_302 : decode MX12_goHour.2.1 302 = .ok (.iastore, 1) := by decide +kernel
theorem dX12_goHour_303 : decode MX12_goHour.2.1 303 = .ok (.aload_n 1, 1) := by decide +kernel
theorem dX12_goHour_304 : decode MX12_goHour.2.1 304 = .ok (.bipush 54, 2) := by decide +kernel
theorem dX12_goHour_306 : decode MX12_goHour.2.1 306 = .ok (.iload 4, 2) := by decide +kernel
theorem dX12_goHour_308 : decode MX12_goHour.2.1 308 = .ok (.iadd, 1) := by decide +kernel
theorem dX12_goHour_309 : decode MX12_goHour.2.1 309 = .ok (.iaload, 1) := by decide +kernel
theorem dX12_goHour_310 : decode MX12_goHour.2.1 310 = .ok (.ifCond .le 6, 3) := by decide +kernel
theorem dX12_goHour_313 : decode MX12_goHour.2.1 313 = .ok (.goto 13, 3) := by decide +kernel
theorem dX12_goHour_316 : decode MX12_goHour.2.1 316 = .ok (.aload_n 0, 1) := by decide +kernel
theorem dX12_goHour_317 : decode MX12_goHour.2.1 317 = .ok (.aload_n 1, 1) := by decide +kernel
theorem dX12_goHour_318 : decode MX12_goHour.2.1 318 = .ok (.iload 4, 2) := by decide +kernel
theorem dX12_goHour_320 : decode MX12_goHour.2.1 320 = .ok (.invokevirtual 239, 3) := by decide +kernel
theorem dX12_goHour_323 : decode MX12_goHour.2.1 323 = .ok (.iinc 3 1, 3) := by decide +kernel
theorem dX12_goHour_326 : decode MX12_goHour.2.1 326 = .ok (.iinc 4 1, 3) := by decide +kernel
theorem dX12_goHour_329 : decode MX12_goHour.2.1 329 = .ok (.goto (-58), 3) := by decide +kernel
theorem dX12_goHour_332 : decode MX12_goHour.2.1 332 = .ok (.aload_n 1, 1) := by decide +kernel
theorem dX12_goHour_333 : decode MX12_goHour.2.1 333 = .ok (.bipush 102, 2) := by decide +kernel
theorem dX12_goHour_335 : decode MX12_goHour.2.1 335 = .ok (.dup2, 1) := by decide +kernel
theorem dX12_goHour_336 : decode MX12_goHour.2.1 336 = .ok (.iaload, 1) := by decide +kernel
theorem dX12_goHour_337 : decode MX12_goHour.2.1 337 = .ok (.iconst 1, 1) := by decide +kernel
theorem dX12_goHour_338 : decode MX12_goHour.2.1 338 = .ok (.iadd, 1) := by decide +kernel
theorem dX12_goHour_339 : decode MX12_goHour.2.1 339 = .ok (.iastore, 1) := by decide +kernel
theorem dX12_goHour_340 : decode MX12_goHour.2.1 340 = .ok (.iload_n 3, 1) := by decide +kernel
theorem dX12_goHour_341 : decode MX12_goHour.2.1 341 = .ok (.ireturn, 1) := by decide +kernel
theorem dX12_goHours_0 : decode MX12_goHours.2.1 0 = .ok (.iconst 0, 1) := by decide +kernel
theorem dX12_goHours_1 : decode MX12_goHours.2.1 1 = .ok (.istore_n 3, 1) := by decide +kernel
theorem dX12_goHours_2 : decode MX12_goHours.2.1 2 = .ok (.iconst 0, 1) := by decide +kernel
theorem dX12_goHours_3 : decode MX12_goHours.2.1 3 = .ok (.istore 4, 2) := by decide +kernel
theorem dX12_goHours_5 : decode MX12_goHours.2.1 5 = .ok (.iload 4, 2) := by decide +kernel
theorem dX12_goHours_7 : decode MX12_goHours.2.1 7 = .ok (.iload_n 2, 1) := by decide +kernel
theorem dX12_goHours_8 : decode MX12_goHours.2.1 8 = .ok (.if_icmp .ge 17, 3) := by decide +kernel
theorem dX12_goHours_11 : decode MX12_goHours.2.1 11 = .ok (.iload_n 3, 1) := by decide +kernel
theorem dX12_goHours_12 : decode MX12_goHours.2.1 12 = .ok (.aload_n 0, 1) := by decide +kernel
theorem dX12_goHours_13 : decode MX12_goHours.2.1 13 = .ok (.aload_n 1, 1) := by decide +kernel
theorem dX12_goHours_14 : decode MX12_goHours.2.1 14 = .ok (.invokevirtual 243, 3) := by decide +kernel
theorem dX12_goHours_17 : decode MX12_goHours.2.1 17 = .ok (.iadd, 1) := by decide +kernel
theorem dX12_goHours_18 : decode MX12_goHours.2.1 18 = .ok (.istore_n 3, 1) := by decide +kernel
theorem dX12_goHours_19 : decode MX12_goHours.2.1 19 = .ok (.iinc 4 1, 3) := by decide +kernel
theorem dX12_goHours_22 : decode MX12_goHours.2.1 22 = .ok (.goto (-17), 3) := by decide +kernel
theorem dX12_goHours_25 : decode MX12_goHours.2.1 25 = .ok (.iload_n 3, 1) := by decide +kernel
theorem dX12_goHours_26 : decode MX12_goHours.2.1 26 = .ok (.ireturn, 1) := by decide +kernel
theorem dX12_hours_0 : decode MX12_hours.2.1 0 = .ok (.aload_n 0, 1) := by decide +kernel
theorem dX12_hours_1 : decode MX12_hours.2.1 1 = .ok (.iconst 0, 1) := by decide +kernel
theorem dX12_hours_2 : decode MX12_hours.2.1 2 = .ok (.putfield 85, 3) := by decide +kernel
theorem dX12_hours_5 : decode MX12_hours.2.1 5 = .ok (.iload_n 1, 1) := by decide +kernel
theorem dX12_hours_6 : decode MX12_hours.2.1 6 = .ok (.iconst 0, 1) := by decide +kernel
theorem dX12_hours_7 : decode MX12_hours.2.1 7 = .ok (.bipush 60, 2) := by decide +kernel
theorem dX12_hours_9 : decode MX12_hours.2.1 9 = .ok (.invokestatic 95, 3) := by decide +kernel
theorem dX12_hours_12 : decode MX12_hours.2.1 12 = .ok (.ifCond .ne 5, 3) := by decide +kernel
theorem dX12_hours_15 : decode MX12_hours.2.1 15 = .ok (.iconst (-1), 1) := by decide +kernel
theorem dX12_hours_16 : decode MX12_hours.2.1 16 = .ok (.ireturn, 1) := by decide +kernel
theorem dX12_hours_17 : decode MX12_hours.2.1 17 = .ok (.iload_n 1, 1) := by decide +kernel
theorem dX12_hours_18 : decode MX12_hours.2.1 18 = .ok (.ifCond .le 11, 3) := by decide +kernel
theorem dX12_hours_21 : decode MX12_hours.2.1 21 = .ok (.aload_n 0, 1) := by decide +kernel
theorem dX12_hours_22 : decode MX12_hours.2.1 22 = .ok (.aload_n 0, 1) := by decide +kernel
theorem dX12_hours_23 : decode MX12_hours.2.1 23 = .ok (.getfield 9, 3) := by decide +kernel
theorem dX12_hours_26 : decode MX12_hours.2.1 26 = .ok (.invokevirtual 246, 3) := by decide +kernel
theorem dX12_hours_29 : decode MX12_hours.2.1 29 = .ok (.aload_n 0, 1) := by decide +kernel
theorem dX12_hours_30 : decode MX12_hours.2.1 30 = .ok (.aload_n 0, 1) := by decide +kernel
theorem dX12_hours_31 : decode MX12_hours.2.1 31 = .ok (.getfield 9, 3) := by decide +kernel
theorem dX12_hours_34 : decode MX12_hours.2.1 34 = .ok (.bipush 42, 2) := by decide +kernel
theorem dX12_hours_36 : decode MX12_hours.2.1 36 = .ok (.invokevirtual 220, 3) := by decide +kernel
theorem dX12_hours_39 : decode MX12_hours.2.1 39 = .ok (.istore_n 2, 1) := by decide +kernel
theorem dX12_hours_40 : decode MX12_hours.2.1 40 = .ok (.aload_n 0, 1) := by decide +kernel
theorem dX12_hours_41 : decode MX12_hours.2.1 41 = .ok (.aload_n 0, 1) := by decide +kernel
theorem dX12_hours_42 : decode MX12_hours.2.1 42 = .ok (.getfield 9, 3) := by decide +kernel
theorem dX12_hours_45 : decode MX12_hours.2.1 45 = .ok (.iload_n 1, 1) := by decide +kernel
theorem dX12_hours_46 : decode MX12_hours.2.1 46 = .ok (.invokevirtual 250, 3) := by decide +kernel
theorem dX12_hours_49 : decode MX12_hours.2.1 49 = .ok (.istore_n 3, 1) := by decide +kernel
theorem dX12_hours_50 : decode MX12_hours.2.1 50 = .ok (.aload_n 0, 1) := by decide +kernel
theorem dX12_hours_51 : decode MX12_hours.2.1 51 = .ok (.iconst 0, 1) := by decide +kernel
theorem dX12_hours_52 : decode MX12_hours.2.1 52 = .ok (.putfield 89, 3) := by decide +kernel
theorem dX12_hours_55 : decode MX12_hours.2.1 55 = .ok (.aload_n 0, 1) := by decide +kernel
theorem dX12_hours_56 : decode MX12_hours.2.1 56 = .ok (.aload_n 0, 1) := by decide +kernel
theorem dX12_hours_57 : decode MX12_hours.2.1 57 = .ok (.aload_n 0, 1) := by decide +kernel
theorem dX12_hours_58 : decode MX12_hours.2.1 58 = .ok (.getfield 9, 3) := by decide +kernel
theorem dX12_hours_61 : decode MX12_hours.2.1 61 = .ok (.bipush 42, 2) := by decide +kernel
theorem dX12_hours_63 : decode MX12_hours.2.1 63 = .ok (.invokevirtual 220, 3) := by decide +kernel
theorem dX12_hours_66 : decode MX12_hours.2.1 66 = .ok (.iload_n 2, 1) := by decide +kernel
theorem dX12_hours_67 : decode MX12_hours.2.1 67 = .ok (.isub, 1) := by decide +kernel
theorem dX12_hours_68 : decode MX12_hours.2.1 68 = .ok (.i2l, 1) := by decide +kernel
theorem dX12_hours_69 : decode MX12_hours.2.1 69 = .ok (.invokevirtual 253, 3) := by decide +kernel
theorem dX12_hours_72 : decode MX12_hours.2.1 72 = .ok (.aload_n 0, 1) := by decide +kernel
theorem dX12_hours_73 : decode MX12_hours.2.1 73 = .ok (.iload_n 3, 1) := by decide +kernel
theorem dX12_hours_74 : decode MX12_hours.2.1 74 = .ok (.i2l, 1) := by decide +kernel
theorem dX12_hours_75 : decode MX12_hours.2.1 75 = .ok (.invokevirtual 253, 3) := by decide +kernel
theorem dX12_hours_78 : decode MX12_hours.2.1 78 = .ok (.aload_n 0, 1) := by decide +kernel
theorem dX12_hours_79 : decode MX12_hours.2.1 79 = .ok (.aload_n 0, 1) := by decide +kernel
theorem dX12_hours_80 : decode MX12_hours.2.1 80 = .ok (.getfield 9, 3) := by decide +kernel
theorem dX12_hours_83 : decode MX12_hours.2.1 83 = .ok (.invokevirtual 235, 3) := by decide +kernel
theorem dX12_hours_86 : decode MX12_hours.2.1 86 = .ok (.invokestatic 257, 3) := by decide +kernel
theorem dX12_hours_89 : decode MX12_hours.2.1 89 = .ok (.ireturn, 1) := by decide +kernel
theorem dX12_refusesDeath_0 : decode MX12_refusesDeath.2.1 0 = .ok (.aload_n 0, 1) := by decide +kernel
theorem dX12_refusesDeath_1 : decode MX12_refusesDeath.2.1 1 = .ok (.iload_n 2, 1) := by decide +kernel
theorem dX12_refusesDeath_2 : decode MX12_refusesDeath.2.1 2 = .ok (.invokevirtual 99, 3) := by decide +kernel
theorem dX12_refusesDeath_5 : decode MX12_refusesDeath.2.1 5 = .ok (.ifCond .eq 13, 3) := by decide +kernel
theorem dX12_refusesDeath_8 : decode MX12_refusesDeath.2.1 8 = .ok (.iload_n 3, 1) := by decide +kernel
theorem dX12_refusesDeath_9 : decode MX12_refusesDeath.2.1 9 = .ok (.iconst 1, 1) := by decide +kernel
theorem dX12_refusesDeath_10 : decode MX12_refusesDeath.2.1 10 = .ok (.bipush 9, 2) := by decide +kernel
theorem dX12_refusesDeath_12 : decode MX12_refusesDeath.2.1 12 = .ok (.invokestatic 95, 3) := by decide +kernel
theorem dX12_refusesDeath_15 : decode MX12_refusesDeath.2.1 15 = .ok (.ifCond .ne 5, 3) := by decide +kernel
theorem dX12_refusesDeath_18 : decode MX12_refusesDeath.2.1 18 = .ok (.iconst (-1), 1) := by decide +kernel
theorem dX12_refusesDeath_19 : decode MX12_refusesDeath.2.1 19 = .ok (.ireturn, 1) := by decide +kernel
theorem dX12_refusesDeath_20 : decode MX12_refusesDeath.2.1 20 = .ok (.aload_n 1, 1) := by decide +kernel
theorem dX12_refusesDeath_21 : decode MX12_refusesDeath.2.1 21 = .ok (.bipush 54, 2) := by decide +kernel
theorem dX12_refusesDeath_23 : decode MX12_refusesDeath.2.1 23 = .ok (.iload_n 2, 1) := by decide +kernel
theorem dX12_refusesDeath_24 : decode MX12_refusesDeath.2.1 24 = .ok (.iadd, 1) := by decide +kernel
theorem dX12_refusesDeath_25 : decode MX12_refusesDeath.2.1 25 = .ok (.iaload, 1) := by decide +kernel
theorem dX12_refusesDeath_26 : decode MX12_refusesDeath.2.1 26 = .ok (.ifCond .le 8, 3) := by decide +kernel
theorem dX12_refusesDeath_29 : decode MX12_refusesDeath.2.1 29 = .ok (.bipush (-2), 2) := by decide +kernel
theorem dX12_refusesDeath_31 : decode MX12_refusesDeath.2.1 31 = .ok (.goto 4, 3) := by decide +kernel
theorem dX12_refusesDeath_34 : decode MX12_refusesDeath.2.1 34 = .ok (.iconst 0, 1) := by decide +kernel
theorem dX12_refusesDeath_35 : decode MX12_refusesDeath.2.1 35 = .ok (.ireturn, 1) := by decide +kernel
theorem dX12_goDeath_0 : decode MX12_goDeath.2.1 0 = .ok (.aload_n 0, 1) := by decide +kernel
theorem dX12_goDeath_1 : decode MX12_goDeath.2.1 1 = .ok (.bipush 54, 2) := by decide +kernel
theorem dX12_goDeath_3 : decode MX12_goDeath.2.1 3 = .ok (.iload_n 1, 1) := by decide +kernel
theorem dX12_goDeath_4 : decode MX12_goDeath.2.1 4 = .ok (.iadd, 1) := by decide +kernel
theorem dX12_goDeath_5 : decode MX12_goDeath.2.1 5 = .ok (.iload_n 2, 1) := by decide +kernel
theorem dX12_goDeath_6 : decode MX12_goDeath.2.1 6 = .ok (.iastore, 1) := by decide +kernel
theorem dX12_goDeath_7 : decode MX12_goDeath.2.1 7 = .ok (.aload_n 0, 1) := by decide +kernel
theorem dX12_goDeath_8 : decode MX12_goDeath.2.1 8 = .ok (.bipush 48, 2) := by decide +kernel
theorem dX12_goDeath_10 : decode MX12_goDeath.2.1 10 = .ok (.iload_n 1, 1) := by decide +kernel
theorem dX12_goDeath_11 : decode MX12_goDeath.2.1 11 = .ok (.iadd, 1) := by decide +kernel
theorem dX12_goDeath_12 : decode MX12_goDeath.2.1 12 = .ok (.bipush 99, 2) := by decide +kernel
theorem dX12_goDeath_14 : decode MX12_goDeath.2.1 14 = .ok (.aload_n 0, 1) := by decide +kernel
theorem dX12_goDeath_15 : decode MX12_goDeath.2.1 15 = .ok (.bipush 48, 2) := by decide +kernel
theorem dX12_goDeath_17 : decode MX12_goDeath.2.1 17 = .ok (.iload_n 1, 1) := by decide +kernel
theorem dX12_goDeath_18 : decode MX12_goDeath.2.1 18 = .ok (.iadd, 1) := by decide +kernel
theorem dX12_goDeath_19 : decode MX12_goDeath.2.1 19 = .ok (.iaload, 1) := by decide +kernel
theorem dX12_goDeath_20 : decode MX12_goDeath.2.1 20 = .ok (.iconst 1, 1) := by decide +kernel
theorem dX12_goDeath_21 : decode MX12_goDeath.2.1 21 = .ok (.iadd, 1) := by decide +kernel
theorem dX12_goDeath_22 : decode MX12_goDeath.2.1 22 = .ok (.invokestatic 194, 3) := by decide +kernel
theorem dX12_goDeath_25 : decode MX12_goDeath.2.1 25 = .ok (.iastore, 1) := by decide +kernel
theorem dX12_goDeath_26 : decode MX12_goDeath.2.1 26 = .ok (.aload_n 0, 1) := by decide +kernel
theorem dX12_goDeath_27 : decode MX12_goDeath.2.1 27 = .ok (.bipush 60, 2) := by decide +kernel
theorem dX12_goDeath_29 : decode MX12_goDeath.2.1 29 = .ok (.iload_n 1, 1) := by decide +kernel
theorem dX12_goDeath_30 : decode MX12_goDeath.2.1 30 = .ok (.iadd, 1) := by decide +kernel
theorem dX12_goDeath_31 : decode MX12_goDeath.2.1 31 = .ok (.iconst 0, 1) := by decide +kernel
theorem dX12_goDeath_32 : decode MX12_goDeath.2.1 32 = .ok (.iastore, 1) := by decide +kernel
theorem dX12_goDeath_33 : decode MX12_goDeath.2.1 33 = .ok (.return_, 1) := by decide +kernel
theorem dX12_dies_0 : decode MX12_dies.2.1 0 = .ok (.aload_n 0, 1) := by decide +kernel
theorem dX12_dies_1 : decode MX12_dies.2.1 1 = .ok (.iconst 0, 1) := by decide +kernel
theorem dX12_dies_2 : decode MX12_dies.2.1 2 = .ok (.putfield 85, 3) := by decide +kernel
theorem dX12_dies_5 : decode MX12_dies.2.1 5 = .ok (.aload_n 0, 1) := by decide +kernel
theorem dX12_dies_6 : decode MX12_dies.2.1 6 = .ok (.aload_n 0, 1) := by decide +kernel
theorem dX12_dies_7 : decode MX12_dies.2.1 7 = .ok (.getfield 9, 3) := by decide +kernel
theorem dX12_dies_10 : decode MX12_dies.2.1 10 = .ok (.iload_n 1, 1) := by decide +kernel
theorem dX12_dies_11 : decode MX12_dies.2.1 11 = .ok (.iload_n 2, 1) := by decide +kernel
theorem dX12_dies_12 : decode MX12_dies.2.1 12 = .ok (.invokevirtual 260, 3) := by decide +kernel
theorem dX12_dies_15 : decode MX12_dies.2.1 15 = .ok (.istore_n 3, 1) := by decide +kernel
theorem dX12_dies_16 : decode MX12_dies.2.1 16 = .ok (.iload_n 3, 1) := by decide +kernel
theorem dX12_dies_17 : decode MX12_dies.2.1 17 = .ok (.ifCond .ge 5, 3) := by decide +kernel
theorem dX12_dies_20 : decode MX12_dies.2.1 20 = .ok (.iload_n 3, 1) := by decide +kernel
theorem dX12_dies_21 : decode MX12_dies.2.1 21 = .ok (.ireturn, 1) := by decide +kernel
theorem dX12_dies_22 : decode MX12_dies.2.1 22 = .ok (.aload_n 0, 1) := by decide +kernel
theorem dX12_dies_23 : decode MX12_dies.2.1 23 = .ok (.aload_n 0, 1) := by decide +kernel
theorem dX12_dies_24 : decode MX12_dies.2.1 24 = .ok (.getfield 9, 3) := by decide +kernel
theorem dX12_dies_27 : decode MX12_dies.2.1 27 = .ok (.invokevirtual 246, 3) := by decide +kernel
theorem dX12_dies_30 : decode MX12_dies.2.1 30 = .ok (.aload_n 0, 1) := by decide +kernel
theorem dX12_dies_31 : decode MX12_dies.2.1 31 = .ok (.getfield 9, 3) := by decide +kernel
theorem dX12_dies_34 : decode MX12_dies.2.1 34 = .ok (.iload_n 1, 1) := by decide +kernel
theorem dX12_dies_35 : decode MX12_dies.2.1 35 = .ok (.iload_n 2, 1) := by decide +kernel
theorem dX12_dies_36 : decode MX12_dies.2.1 36 = .ok (.invokestatic 263, 3) := by decide +kernel
theorem dX12_dies_39 : decode MX12_dies.2.1 39 = .ok (.aload_n 0, 1) := by decide +kernel
theorem dX12_dies_40 : decode MX12_dies.2.1 40 = .ok (.aload_n 0, 1) := by decide +kernel
theorem dX12_dies_41 : decode MX12_dies.2.1 41 = .ok (.getfield 9, 3) := by decide +kernel
theorem dX12_dies_44 : decode MX12_dies.2.1 44 = .ok (.invokevirtual 235, 3) := by decide +kernel
theorem dX12_dies_47 : decode MX12_dies.2.1 47 = .ok (.invokestatic 257, 3) := by decide +kernel
theorem dX12_dies_50 : decode MX12_dies.2.1 50 = .ok (.ireturn, 1) := by decide +kernel
theorem dX12_refusesCough_0 : decode MX12_refusesCough.2.1 0 = .ok (.aload_n 0, 1) := by decide +kernel
theorem dX12_refusesCough_1 : decode MX12_refusesCough.2.1 1 = .ok (.iload_n 2, 1) := by decide +kernel
theorem dX12_refusesCough_2 : decode MX12_refusesCough.2.1 2 = .ok (.invokevirtual 99, 3) := by decide +kernel
theorem dX12_refusesCough_5 : decode MX12_refusesCough.2.1 5 = .ok (.ifCond .ne 5, 3) := by decide +kernel
theorem dX12_refusesCough_8 : decode MX12_refusesCough.2.1 8 = .ok (.iconst (-1), 1) := by decide +kernel
theorem dX12_refusesCough_9 : decode MX12_refusesCough.2.1 9 = .ok (.ireturn, 1) := by decide +kernel
theorem dX12_refusesCough_10 : decode MX12_refusesCough.2.1 10 = .ok (.aload_n 1, 1) := by decide +kernel
theorem dX12_refusesCough_11 : decode MX12_refusesCough.2.1 11 = .ok (.bipush 54, 2) := by decide +kernel
theorem dX12_refusesCough_13 : decode MX12_refusesCough.2.1 13 = .ok (.iload_n 2, 1) := by decide +kernel
theorem dX12_refusesCough_14 : decode MX12_refusesCough.2.1 14 = .ok (.iadd, 1) := by decide +kernel
theorem dX12_refusesCough_15 : decode MX12_refusesCough.2.1 15 = .ok (.iaload, 1) := by decide +kernel
theorem dX12_refusesCough_16 : decode MX12_refusesCough.2.1 16 = .ok (.ifCond .le 7, 3) := by decide +kernel
theorem dX12_refusesCough_19 : decode MX12_refusesCough.2.1 19 = .ok (.iconst 0, 1) := by decide +kernel
theorem dX12_refusesCough_20 : decode MX12_refusesCough.2.1 20 = .ok (.goto 5, 3) := by decide +kernel
theorem dX12_refusesCough_23 : decode MX12_refusesCough.2.1 23 = .ok (.bipush (-2), 2) := by decide +kernel
theorem dX12_refusesCough_25 : decode MX12_refusesCough.2.1 25 = .ok (.ireturn, 1) := by decide +kernel
theorem dX12_goCough_0 : decode MX12_goCough.2.1 0 = .ok (.aload_n 0, 1) := by decide +kernel
theorem dX12_goCough_1 : decode MX12_goCough.2.1 1 = .ok (.bipush 54, 2) := by decide +kernel
theorem dX12_goCough_3 : decode MX12_goCough.2.1 3 = .ok (.iload_n 1, 1) := by decide +kernel
theorem dX12_goCough_4 : decode MX12_goCough.2.1 4 = .ok (.iadd, 1) := by decide +kernel
theorem dX12_goCough_5 : decode MX12_goCough.2.1 5 = .ok (.iconst 0, 1) := by decide +kernel
theorem dX12_goCough_6 : decode MX12_goCough.2.1 6 = .ok (.iastore, 1) := by decide +kernel
theorem dX12_goCough_7 : decode MX12_goCough.2.1 7 = .ok (.aload_n 0, 1) := by decide +kernel
theorem dX12_goCough_8 : decode MX12_goCough.2.1 8 = .ok (.bipush 42, 2) := by decide +kernel
theorem dX12_goCough_10 : decode MX12_goCough.2.1 10 = .ok (.iload_n 1, 1) := by decide +kernel
theorem dX12_goCough_11 : decode MX12_goCough.2.1 11 = .ok (.iadd, 1) := by decide +kernel
theorem dX12_goCough_12 : decode MX12_goCough.2.1 12 = .ok (.dup2, 1) := by decide +kernel
theorem dX12_goCough_13 : decode MX12_goCough.2.1 13 = .ok (.iaload, 1) := by decide +kernel
theorem dX12_goCough_14 : decode MX12_goCough.2.1 14 = .ok (.iconst 2, 1) := by decide +kernel
theorem dX12_goCough_15 : decode MX12_goCough.2.1 15 = .ok (.idiv, 1) := by decide +kernel
theorem dX12_goCough_16 : decode MX12_goCough.2.1 16 = .ok (.iastore, 1) := by decide +kernel
theorem dX12_goCough_17 : decode MX12_goCough.2.1 17 = .ok (.return_, 1) := by decide +kernel
theorem dX12_coughs_0 : decode MX12_coughs.2.1 0 = .ok (.aload_n 0, 1) := by decide +kernel
theorem dX12_coughs_1 : decode MX12_coughs.2.1 1 = .ok (.iconst 0, 1) := by decide +kernel
theorem dX12_coughs_2 : decode MX12_coughs.2.1 2 = .ok (.putfield 85, 3) := by decide +kernel
theorem dX12_coughs_5 : decode MX12_coughs.2.1 5 = .ok (.aload_n 0, 1) := by decide +kernel
theorem dX12_coughs_6 : decode MX12_coughs.2.1 6 = .ok (.aload_n 0, 1) := by decide +kernel
theorem dX12_coughs_7 : decode MX12_coughs.2.1 7 = .ok (.getfield 9, 3) := by decide +kernel
theorem dX12_coughs_10 : decode MX12_coughs.2.1 10 = .ok (.iload_n 1, 1) := by decide +kernel
theorem dX12_coughs_11 : decode MX12_coughs.2.1 11 = .ok (.invokevirtual 267, 3) := by decide +kernel
theorem dX12_coughs_14 : decode MX12_coughs.2.1 14 = .ok (.istore_n 2, 1) := by decide +kernel
theorem dX12_coughs_15 : decode MX12_coughs.2.1 15 = .ok (.iload_n 2, 1) := by decide +kernel
theorem dX12_coughs_16 : decode MX12_coughs.2.1 16 = .ok (.ifCond .ge 5, 3) := by decide +kernel
theorem dX12_coughs_19 : decode MX12_coughs.2.1 19 = .ok (.iload_n 2, 1) := by decide +kernel
theorem dX12_coughs_20 : decode MX12_coughs.2.1 20 = .ok (.ireturn, 1) := by decide +kernel
theorem dX12_coughs_21 : decode MX12_coughs.2.1 21 = .ok (.aload_n 0, 1) := by decide +kernel
theorem dX12_coughs_22 : decode MX12_coughs.2.1 22 = .ok (.aload_n 0, 1) := by decide +kernel
theorem dX12_coughs_23 : decode MX12_coughs.2.1 23 = .ok (.getfield 9, 3) := by decide +kernel
theorem dX12_coughs_26 : decode MX12_coughs.2.1 26 = .ok (.invokevirtual 246, 3) := by decide +kernel
theorem dX12_coughs_29 : decode MX12_coughs.2.1 29 = .ok (.aload_n 0, 1) := by decide +kernel
theorem dX12_coughs_30 : decode MX12_coughs.2.1 30 = .ok (.getfield 9, 3) := by decide +kernel
theorem dX12_coughs_33 : decode MX12_coughs.2.1 33 = .ok (.iload_n 1, 1) := by decide +kernel
theorem dX12_coughs_34 : decode MX12_coughs.2.1 34 = .ok (.invokestatic 270, 3) := by decide +kernel
theorem dX12_coughs_37 : decode MX12_coughs.2.1 37 = .ok (.aload_n 0, 1) := by decide +kernel
theorem dX12_coughs_38 : decode MX12_coughs.2.1 38 = .ok (.getfield 9, 3) := by decide +kernel
theorem dX12_coughs_41 : decode MX12_coughs.2.1 41 = .ok (.bipush 42, 2) := by decide +kernel
theorem dX12_coughs_43 : decode MX12_coughs.2.1 43 = .ok (.iload_n 1, 1) := by decide +kernel
theorem dX12_coughs_44 : decode MX12_coughs.2.1 44 = .ok (.iadd, 1) := by decide +kernel
theorem dX12_coughs_45 : decode MX12_coughs.2.1 45 = .ok (.iaload, 1) := by decide +kernel
theorem dX12_coughs_46 : decode MX12_coughs.2.1 46 = .ok (.ireturn, 1) := by decide +kernel
theorem dX12_refusesLoan_0 : decode MX12_refusesLoan.2.1 0 = .ok (.aload_n 0, 1) := by decide +kernel
theorem dX12_refusesLoan_1 : decode MX12_refusesLoan.2.1 1 = .ok (.iload_n 1, 1) := by decide +kernel
theorem dX12_refusesLoan_2 : decode MX12_refusesLoan.2.1 2 = .ok (.iload_n 2, 1) := by decide +kernel
theorem dX12_refusesLoan_3 : decode MX12_refusesLoan.2.1 3 = .ok (.invokevirtual 212, 3) := by decide +kernel
theorem dX12_refusesLoan_6 : decode MX12_refusesLoan.2.1 6 = .ok (.ifCond .eq 13, 3) := by decide +kernel
theorem dX12_refusesLoan_9 : decode MX12_refusesLoan.2.1 9 = .ok (.iload_n 3, 1) := by decide +kernel
theorem dX12_refusesLoan_10 : decode MX12_refusesLoan.2.1 10 = .ok (.iconst 1, 1) := by decide +kernel
theorem dX12_refusesLoan_11 : decode MX12_refusesLoan.2.1 11 = .ok (.bipush 99, 2) := by decide +kernel
theorem dX12_refusesLoan_13 : decode MX12_refusesLoan.2.1 13 = .ok (.invokestatic 95, 3) := by decide +kernel
theorem dX12_refusesLoan_16 : decode MX12_refusesLoan.2.1 16 = .ok (.ifCond .ne 5, 3) := by decide +kernel
theorem dX12_refusesLoan_19 : decode MX12_refusesLoan.2.1 19 = .ok (.iconst (-1), 1) := by decide +kernel
theorem dX12_refusesLoan_20 : decode MX12_refusesLoan.2.1 20 = .ok (.ireturn, 1) := by decide +kernel
theorem dX12_refusesLoan_21 : decode MX12_refusesLoan.2.1 21 = .ok (.aload_n 0, 1) := by decide +kernel
theorem dX12_refusesLoan_22 : decode MX12_refusesLoan.2.1 22 = .ok (.getfield 9, 3) := by decide +kernel
theorem dX12_refusesLoan_25 : decode MX12_refusesLoan.2.1 25 = .ok (.bipush 54, 2) := by decide +kernel
theorem dX12_refusesLoan_27 : decode MX12_refusesLoan.2.1 27 = .ok (.iload_n 1, 1) := by decide +kernel
theorem dX12_refusesLoan_28 : decode MX12_refusesLoan.2.1 28 = .ok (.iadd, 1) := by decide +kernel
theorem dX12_refusesLoan_29 : decode MX12_refusesLoan.2.1 29 = .ok (.iaload, 1) := by decide +kernel
theorem dX12_refusesLoan_30 : decode MX12_refusesLoan.2.1 30 = .ok (.ifCond .gt 15, 3) := by decide +kernel
theorem dX12_refusesLoan_33 : decode MX12_refusesLoan.2.1 33 = .ok (.aload_n 0, 1) := by decide +kernel
theorem dX12_refusesLoan_34 : decode MX12_refusesLoan.2.1 34 = .ok (.getfield 9, 3) := by decide +kernel
theorem dX12_refusesLoan_37 : decode MX12_refusesLoan.2.1 37 = .ok (.bipush 54, 2) := by decide +kernel
theorem dX12_refusesLoan_39 : decode MX12_refusesLoan.2.1 39 = .ok (.iload_n 2, 1) := by decide +kernel
theorem dX12_refusesLoan_40 : decode MX12_refusesLoan.2.1 40 = .ok (.iadd, 1) := by decide +kernel
theorem dX12_refusesLoan_41 : decode MX12_refusesLoan.2.1 41 = .ok (.iaload, 1) := by decide +kernel
theorem dX12_refusesLoan_42 : decode MX12_refusesLoan.2.1 42 = .ok (.ifCond .le 6, 3) := by decide +kernel
theorem dX12_refusesLoan_45 : decode MX12_refusesLoan.2.1 45 = .ok (.bipush (-4), 2) := by decide +kernel
theorem dX12_refusesLoan_47 : decode MX12_refusesLoan.2.1 47 = .ok (.ireturn, 1) := by decide +kernel
theorem dX12_refusesLoan_48 : decode MX12_refusesLoan.2.1 48 = .ok (.aload_n 0, 1) := by decide +kernel
theorem dX12_refusesLoan_49 : decode MX12_refusesLoan.2.1 49 = .ok (.getfield 9, 3) := by decide +kernel
theorem dX12_refusesLoan_52 : decode MX12_refusesLoan.2.1 52 = .ok (.bipush 36, 2) := by decide +kernel
theorem dX12_refusesLoan_54 : decode MX12_refusesLoan.2.1 54 = .ok (.iload_n 1, 1) := by decide +kernel
theorem dX12_refusesLoan_55 : decode MX12_refusesLoan.2.1 55 = .ok (.iadd, 1) := by decide +kernel
theorem dX12_refusesLoan_56 : decode MX12_refusesLoan.2.1 56 = .ok (.iaload, 1) := by decide +kernel
theorem dX12_refusesLoan_57 : decode MX12_refusesLoan.2.1 57 = .ok (.iload_n 3, 1) := by decide +kernel
theorem dX12_refusesLoan_58 : decode MX12_refusesLoan.2.1 58 = .ok (.if_icmp .ge 6, 3) := by decide +kernel
theorem dX12_refusesLoan_61 : decode MX12_refusesLoan.2.1 61 = .ok (.bipush (-2), 2) := by decide +kernel
theorem dX12_refusesLoan_63 : decode MX12_refusesLoan.2.1 63 = .ok (.ireturn, 1) := by decide +kernel
theorem dX12_refusesLoan_64 : decode MX12_refusesLoan.2.1 64 = .ok (.aload_n 0, 1) := by decide +kernel
theorem dX12_refusesLoan_65 : decode MX12_refusesLoan.2.1 65 = .ok (.getfield 9, 3) := by decide +kernel
theorem dX12_refusesLoan_68 : decode MX12_refusesLoan.2.1 68 = .ok (.bipush 36, 2) := by decide +kernel
theorem dX12_refusesLoan_70 : decode MX12_refusesLoan.2.1 70 = .ok (.iload_n 2, 1) := by decide +kernel
theorem dX12_refusesLoan_71 : decode MX12_refusesLoan.2.1 71 = .ok (.iadd, 1) := by decide +kernel
theorem dX12_refusesLoan_72 : decode MX12_refusesLoan.2.1 72 = .ok (.iaload, 1) := by decide +kernel
theorem dX12_refusesLoan_73 : decode MX12_refusesLoan.2.1 73 = .ok (.iload_n 3, 1) := by decide +kernel
theorem dX12_refusesLoan_74 : decode MX12_refusesLoan.2.1 74 = .ok (.iadd, 1) := by decide +kernel
theorem dX12_refusesLoan_75 : decode MX12_refusesLoan.2.1 75 = .ok (.bipush 99, 2) := by decide +kernel
theorem dX12_refusesLoan_77 : decode MX12_refusesLoan.2.1 77 = .ok (.if_icmp .gt 23, 3) := by decide +kernel
theorem dX12_refusesLoan_80 : decode MX12_refusesLoan.2.1 80 = .ok (.aload_n 0, 1) := by decide +kernel
theorem dX12_refusesLoan_81 : decode MX12_refusesLoan.2.1 81 = .ok (.getfield 9, 3) := by decide +kernel
theorem dX12_refusesLoan_84 : decode MX12_refusesLoan.2.1 84 = .ok (.bipush 66, 2) := by decide +kernel
theorem dX12_refusesLoan_86 : decode MX12_refusesLoan.2.1 86 = .ok (.iload_n 2, 1) := by decide +kernel
theorem dX12_refusesLoan_87 : decode MX12_refusesLoan.2.1 87 = .ok (.iload_n 1, 1) := by decide +kernel
theorem dX12_refusesLoan_88 : decode MX12_refusesLoan.2.1 88 = .ok (.invokestatic 151, 3) := by decide +kernel
theorem dX12_refusesLoan_91 : decode MX12_refusesLoan.2.1 91 = .ok (.iadd, 1) := by decide +kernel
theorem dX12_refusesLoan_92 : decode MX12_refusesLoan.2.1 92 = .ok (.iaload, 1) := by decide +kernel
theorem dX12_refusesLoan_93 : decode MX12_refusesLoan.2.1 93 = .ok (.iload_n 3, 1) := by decide +kernel
theorem dX12_refusesLoan_94 : decode MX12_refusesLoan.2.1 94 = .ok (.iadd, 1) := by decide +kernel
theorem dX12_refusesLoan_95 : decode MX12_refusesLoan.2.1 95 = .ok (.bipush 99, 2) := by decide +kernel
theorem dX12_refusesLoan_97 : decode MX12_refusesLoan.2.1 97 = .ok (.if_icmp .le 8, 3) := by decide +kernel
theorem dX12_refusesLoan_100 : decode MX12_refusesLoan.2.1 100 = .ok (.bipush (-3), 2) := by decide +kernel
theorem dX12_refusesLoan_102 : decode MX12_refusesLoan.2.1 102 = .ok (.goto 4, 3) := by decide +kernel
theorem dX12_refusesLoan_105 : decode MX12_refusesLoan.2.1 105 = .ok (.iconst 0, 1) := by decide +kernel
theorem dX12_refusesLoan_106 : decode MX12_refusesLoan.2.1 106 = .ok (.ireturn, 1) := by decide +kernel
theorem dX12_goLoan_0 : decode MX12_goLoan.2.1 0 = .ok (.aload_n 0, 1) := by decide +kernel
theorem dX12_goLoan_1 : decode MX12_goLoan.2.1 1 = .ok (.getfield 9, 3) := by decide +kernel
theorem dX12_goLoan_4 : decode MX12_goLoan.2.1 4 = .ok (.bipush 36, 2) := by decide +kernel
theorem dX12_goLoan_6 : decode MX12_goLoan.2.1 6 = .ok (.iload_n 1, 1) := by decide +kernel
theorem dX12_goLoan_7 : decode MX12_goLoan.2.1 7 = .ok (.iadd, 1) := by decide +kernel
theorem dX12_goLoan_8 : decode MX12_goLoan.2.1 8 = .ok (.dup2, 1) := by decide +kernel
theorem dX12_goLoan_9 : decode MX12_goLoan.2.1 9 = .ok (.iaload, 1) := by decide +kernel
theorem dX12_goLoan_10 : decode MX12_goLoan.2.1 10 = .ok (.iload_n 3, 1) := by decide +kernel
theorem dX12_goLoan_11 : decode MX12_goLoan.2.1 11 = .ok (.isub, 1) := by decide +kernel
theorem dX12_goLoan_12 : decode MX12_goLoan.2.1 12 = .ok (.iastore, 1) := by decide +kernel
theorem dX12_goLoan_13 : decode MX12_goLoan.2.1 13 = .ok (.aload_n 0, 1) := by decide +kernel
theorem dX12_goLoan_14 : decode MX12_goLoan.2.1 14 = .ok (.getfield 9, 3) := by decide +kernel
theorem dX12_goLoan_17 : decode MX12_goLoan.2.1 17 = .ok (.bipush 36, 2) := by decide +kernel
theorem dX12_goLoan_19 : decode MX12_goLoan.2.1 19 = .ok (.iload_n 2, 1) := by decide +kernel
theorem dX12_goLoan_20 : decode MX12_goLoan.2.1 20 = .ok (.iadd, 1) := by decide +kernel
theorem dX12_goLoan_21 : decode MX12_goLoan.2.1 21 = .ok (.dup2, 1) := by decide +kernel
theorem dX12_goLoan_22 : decode MX12_goLoan.2.1 22 = .ok (.iaload, 1) := by decide +kernel
theorem dX12_goLoan_23 : decode MX12_goLoan.2.1 23 = .ok (.iload_n 3, 1) := by decide +kernel
theorem dX12_goLoan_24 : decode MX12_goLoan.2.1 24 = .ok (.iadd, 1) := by decide +kernel
theorem dX12_goLoan_25 : decode MX12_goLoan.2.1 25 = .ok (.iastore, 1) := by decide +kernel
theorem dX12_goLoan_26 : decode MX12_goLoan.2.1 26 = .ok (.aload_n 0, 1) := by decide +kernel
theorem dX12_goLoan_27 : decode MX12_goLoan.2.1 27 = .ok (.getfield 9, 3) := by decide +kernel
theorem dX12_goLoan_30 : decode MX12_goLoan.2.1 30 = .ok (.bipush 66, 2) := by decide +kernel
theorem dX12_goLoan_32 : decode MX12_goLoan.2.1 32 = .ok (.iload_n 2, 1) := by decide +kernel
theorem dX12_goLoan_33 : decode MX12_goLoan.2.1 33 = .ok (.iload_n 1, 1) := by decide +kernel
theorem dX12_goLoan_34 : decode MX12_goLoan.2.1 34 = .ok (.invokestatic 151, 3) := by decide +kernel
theorem dX12_goLoan_37 : decode MX12_goLoan.2.1 37 = .ok (.iadd, 1) := by decide +kernel
theorem dX12_goLoan_38 : decode MX12_goLoan.2.1 38 = .ok (.dup2, 1) := by decide +kernel
theorem dX12_goLoan_39 : decode MX12_goLoan.2.1 39 = .ok (.iaload, 1) := by decide +kernel
theorem dX12_goLoan_40 : decode MX12_goLoan.2.1 40 = .ok (.iload_n 3, 1) := by decide +kernel
theorem dX12_goLoan_41 : decode MX12_goLoan.2.1 41 = .ok (.iadd, 1) := by decide +kernel
theorem dX12_goLoan_42 : decode MX12_goLoan.2.1 42 = .ok (.iastore, 1) := by decide +kernel
theorem dX12_goLoan_43 : decode MX12_goLoan.2.1 43 = .ok (.return_, 1) := by decide +kernel
theorem dX12_lends_0 : decode MX12_lends.2.1 0 = .ok (.aload_n 0, 1) := by decide +kernel
theorem dX12_lends_1 : decode MX12_lends.2.1 1 = .ok (.iconst 0, 1) := by decide +kernel
theorem dX12_lends_2 : decode MX12_lends.2.1 2 = .ok (.putfield 85, 3) := by decide +kernel
theorem dX12_lends_5 : decode MX12_lends.2.1 5 = .ok (.aload_n 0, 1) := by decide +kernel
theorem dX12_lends_6 : decode MX12_lends.2.1 6 = .ok (.iload_n 1, 1) := by decide +kernel
theorem dX12_lends_7 : decode MX12_lends.2.1 7 = .ok (.iload_n 2, 1) := by decide +kernel
theorem dX12_lends_8 : decode MX12_lends.2.1 8 = .ok (.iload_n 3, 1) := by decide +kernel
theorem dX12_lends_9 : decode MX12_lends.2.1 9 = .ok (.invokevirtual 273, 3) := by decide +kernel
theorem dX12_lends_12 : decode MX12_lends.2.1 12 = .ok (.istore 4, 2) := by decide +kernel
theorem dX12_lends_14 : decode MX12_lends.2.1 14 = .ok (.iload 4, 2) := by decide +kernel
theorem dX12_lends_16 : decode MX12_lends.2.1 16 = .ok (.ifCond .ge 6, 3) := by decide +kernel
theorem dX12_lends_19 : decode MX12_lends.2.1 19 = .ok (.iload 4, 2) := by decide +kernel
theorem dX12_lends_21 : decode MX12_lends.2.1 21 = .ok (.ireturn, 1) := by decide +kernel
theorem dX12_lends_22 : decode MX12_lends.2.1 22 = .ok (.aload_n 0, 1) := by decide +kernel
theorem dX12_lends_23 : decode MX12_lends.2.1 23 = .ok (.aload_n 0, 1) := by decide +kernel
theorem dX12_lends_24 : decode MX12_lends.2.1 24 = .ok (.getfield 9, 3) := by decide +kernel
theorem dX12_lends_27 : decode MX12_lends.2.1 27 = .ok (.invokevirtual 246, 3) := by decide +kernel
theorem dX12_lends_30 : decode MX12_lends.2.1 30 = .ok (.aload_n 0, 1) := by decide +kernel
theorem dX12_lends_31 : decode MX12_lends.2.1 31 = .ok (.iload_n 1, 1) := by decide +kernel
theorem dX12_lends_32 : decode MX12_lends.2.1 32 = .ok (.iload_n 2, 1) := by decide +kernel
theorem dX12_lends_33 : decode MX12_lends.2.1 33 = .ok (.iload_n 3, 1) := by decide +kernel
theorem dX12_lends_34 : decode MX12_lends.2.1 34 = .ok (.invokevirtual 277, 3) := by decide +kernel
theorem dX12_lends_37 : decode MX12_lends.2.1 37 = .ok (.aload_n 0, 1) := by decide +kernel
theorem dX12_lends_38 : decode MX12_lends.2.1 38 = .ok (.getfield 9, 3) := by decide +kernel
theorem dX12_lends_41 : decode MX12_lends.2.1 41 = .ok (.bipush 66, 2) := by decide +kernel
theorem dX12_lends_43 : decode MX12_lends.2.1 43 = .ok (.iload_n 2, 1) := by decide +kernel
theorem dX12_lends_44 : decode MX12_lends.2.1 44 = .ok (.iload_n 1, 1) := by decide +kernel
theorem dX12_lends_45 : decode MX12_lends.2.1 45 = .ok (.invokestatic 151, 3) := by decide +kernel
theorem dX12_lends_48 : decode MX12_lends.2.1 48 = .ok (.iadd, 1) := by decide +kernel
theorem dX12_lends_49 : decode MX12_lends.2.1 49 = .ok (.iaload, 1) := by decide +kernel
theorem dX12_lends_50 : decode MX12_lends.2.1 50 = .ok (.ireturn, 1) := by decide +kernel
theorem dX12_refusesPay_0 : decode MX12_refusesPay.2.1 0 = .ok (.aload_n 0, 1) := by decide +kernel
theorem dX12_refusesPay_1 : decode MX12_refusesPay.2.1 1 = .ok (.iload_n 1, 1) := by decide +kernel
theorem dX12_refusesPay_2 : decode MX12_refusesPay.2.1 2 = .ok (.iload_n 2, 1) := by decide +kernel
theorem dX12_refusesPay_3 : decode MX12_refusesPay.2.1 3 = .ok (.invokevirtual 212, 3) := by decide +kernel
theorem dX12_refusesPay_6 : decode MX12_refusesPay.2.1 6 = .ok (.ifCond .eq 13, 3) := by decide +kernel
theorem dX12_refusesPay_9 : decode MX12_refusesPay.2.1 9 = .ok (.iload_n 3, 1) := by decide +kernel
theorem dX12_refusesPay_10 : decode MX12_refusesPay.2.1 10 = .ok (.iconst 1, 1) := by decide +kernel
theorem dX12_refusesPay_11 : decode MX12_refusesPay.2.1 11 = .ok (.bipush 99, 2) := by decide +kernel
theorem dX12_refusesPay_13 : decode MX12_refusesPay.2.1 13 = .ok (.invokestatic 95, 3) := by decide +kernel
theorem dX12_refusesPay_16 : decode MX12_refusesPay.2.1 16 = .ok (.ifCond .ne 5, 3) := by decide +kernel
theorem dX12_refusesPay_19 : decode MX12_refusesPay.2.1 19 = .ok (.iconst (-1), 1) := by decide +kernel
theorem dX12_refusesPay_20 : decode MX12_refusesPay.2.1 20 = .ok (.ireturn, 1) := by decide +kernel
theorem dX12_refusesPay_21 : decode MX12_refusesPay.2.1 21 = .ok (.aload_n 0, 1) := by decide +kernel
theorem dX12_refusesPay_22 : decode MX12_refusesPay.2.1 22 = .ok (.getfield 9, 3) := by decide +kernel
theorem dX12_refusesPay_25 : decode MX12_refusesPay.2.1 25 = .ok (.bipush 54, 2) := by decide +kernel
theorem dX12_refusesPay_27 : decode MX12_refusesPay.2.1 27 = .ok (.iload_n 1, 1) := by decide +kernel
theorem dX12_refusesPay_28 : decode MX12_refusesPay.2.1 28 = .ok (.iadd, 1) := by decide +kernel
theorem dX12_refusesPay_29 : decode MX12_refusesPay.2.1 29 = .ok (.iaload, 1) := by decide +kernel
theorem dX12_refusesPay_30 : decode MX12_refusesPay.2.1 30 = .ok (.ifCond .gt 15, 3) := by decide +kernel
theorem dX12_refusesPay_33 : decode MX12_refusesPay.2.1 33 = .ok (.aload_n 0, 1) := by decide +kernel
theorem dX12_refusesPay_34 : decode MX12_refusesPay.2.1 34 = .ok (.getfield 9, 3) := by decide +kernel
theorem dX12_refusesPay_37 : decode MX12_refusesPay.2.1 37 = .ok (.bipush 54, 2) := by decide +kernel
theorem dX12_refusesPay_39 : decode MX12_refusesPay.2.1 39 = .ok (.iload_n 2, 1) := by decide +kernel
theorem dX12_refusesPay_40 : decode MX12_refusesPay.2.1 40 = .ok (.iadd, 1) := by decide +kernel
theorem dX12_refusesPay_41 : decode MX12_refusesPay.2.1 41 = .ok (.iaload, 1) := by decide +kernel
theorem dX12_refusesPay_42 : decode MX12_refusesPay.2.1 42 = .ok (.ifCond .le 6, 3) := by decide +kernel
theorem dX12_refusesPay_45 : decode MX12_refusesPay.2.1 45 = .ok (.bipush (-4), 2) := by decide +kernel
theorem dX12_refusesPay_47 : decode MX12_refusesPay.2.1 47 = .ok (.ireturn, 1) := by decide +kernel
theorem dX12_refusesPay_48 : decode MX12_refusesPay.2.1 48 = .ok (.aload_n 0, 1) := by decide +kernel
theorem dX12_refusesPay_49 : decode MX12_refusesPay.2.1 49 = .ok (.getfield 9, 3) := by decide +kernel
theorem dX12_refusesPay_52 : decode MX12_refusesPay.2.1 52 = .ok (.bipush 36, 2) := by decide +kernel
theorem dX12_refusesPay_54 : decode MX12_refusesPay.2.1 54 = .ok (.iload_n 1, 1) := by decide +kernel
theorem dX12_refusesPay_55 : decode MX12_refusesPay.2.1 55 = .ok (.iadd, 1) := by decide +kernel
theorem dX12_refusesPay_56 : decode MX12_refusesPay.2.1 56 = .ok (.iaload, 1) := by decide +kernel
theorem dX12_refusesPay_57 : decode MX12_refusesPay.2.1 57 = .ok (.iload_n 3, 1) := by decide +kernel
theorem dX12_refusesPay_58 : decode MX12_refusesPay.2.1 58 = .ok (.if_icmp .ge 6, 3) := by decide +kernel
theorem dX12_refusesPay_61 : decode MX12_refusesPay.2.1 61 = .ok (.bipush (-2), 2) := by decide +kernel
theorem dX12_refusesPay_63 : decode MX12_refusesPay.2.1 63 = .ok (.ireturn, 1) := by decide +kernel
theorem dX12_refusesPay_64 : decode MX12_refusesPay.2.1 64 = .ok (.aload_n 0, 1) := by decide +kernel
theorem dX12_refusesPay_65 : decode MX12_refusesPay.2.1 65 = .ok (.getfield 9, 3) := by decide +kernel
theorem dX12_refusesPay_68 : decode MX12_refusesPay.2.1 68 = .ok (.bipush 66, 2) := by decide +kernel
theorem dX12_refusesPay_70 : decode MX12_refusesPay.2.1 70 = .ok (.iload_n 1, 1) := by decide +kernel
theorem dX12_refusesPay_71 : decode MX12_refusesPay.2.1 71 = .ok (.iload_n 2, 1) := by decide +kernel
theorem dX12_refusesPay_72 : decode MX12_refusesPay.2.1 72 = .ok (.invokestatic 151, 3) := by decide +kernel
theorem dX12_refusesPay_75 : decode MX12_refusesPay.2.1 75 = .ok (.iadd, 1) := by decide +kernel
theorem dX12_refusesPay_76 : decode MX12_refusesPay.2.1 76 = .ok (.iaload, 1) := by decide +kernel
theorem dX12_refusesPay_77 : decode MX12_refusesPay.2.1 77 = .ok (.iload_n 3, 1) := by decide +kernel
theorem dX12_refusesPay_78 : decode MX12_refusesPay.2.1 78 = .ok (.if_icmp .lt 19, 3) := by decide +kernel
theorem dX12_refusesPay_81 : decode MX12_refusesPay.2.1 81 = .ok (.aload_n 0, 1) := by decide +kernel
theorem dX12_refusesPay_82 : decode MX12_refusesPay.2.1 82 = .ok (.getfield 9, 3) := by decide +kernel
theorem dX12_refusesPay_85 : decode MX12_refusesPay.2.1 85 = .ok (.bipush 36, 2) := by decide +kernel
theorem dX12_refusesPay_87 : decode MX12_refusesPay.2.1 87 = .ok (.iload_n 2, 1) := by decide +kernel
theorem dX12_refusesPay_88 : decode MX12_refusesPay.2.1 88 = .ok (.iadd, 1) := by decide +kernel
theorem dX12_refusesPay_89 : decode MX12_refusesPay.2.1 89 = .ok (.iaload, 1) := by decide +kernel
theorem dX12_refusesPay_90 : decode MX12_refusesPay.2.1 90 = .ok (.iload_n 3, 1) := by decide +kernel
theorem dX12_refusesPay_91 : decode MX12_refusesPay.2.1 91 = .ok (.iadd, 1) := by decide +kernel
theorem dX12_refusesPay_92 : decode MX12_refusesPay.2.1 92 = .ok (.bipush 99, 2) := by decide +kernel
theorem dX12_refusesPay_94 : decode MX12_refusesPay.2.1 94 = .ok (.if_icmp .le 8, 3) := by decide +kernel
theorem dX12_refusesPay_97 : decode MX12_refusesPay.2.1 97 = .ok (.bipush (-3), 2) := by decide +kernel
theorem dX12_refusesPay_99 : decode MX12_refusesPay.2.1 99 = .ok (.goto 4, 3) := by decide +kernel
theorem dX12_refusesPay_102 : decode MX12_refusesPay.2.1 102 = .ok (.iconst 0, 1) := by decide +kernel
theorem dX12_refusesPay_103 : decode MX12_refusesPay.2.1 103 = .ok (.ireturn, 1) := by decide +kernel
theorem dX12_goPay_0 : decode MX12_goPay.2.1 0 = .ok (.aload_n 0, 1) := by decide +kernel
theorem dX12_goPay_1 : decode MX12_goPay.2.1 1 = .ok (.getfield 9, 3) := by decide +kernel
theorem dX12_goPay_4 : decode MX12_goPay.2.1 4 = .ok (.bipush 36, 2) := by decide +kernel
theorem dX12_goPay_6 : decode MX12_goPay.2.1 6 = .ok (.iload_n 1, 1) := by decide +kernel
theorem dX12_goPay_7 : decode MX12_goPay.2.1 7 = .ok (.iadd, 1) := by decide +kernel
theorem dX12_goPay_8 : decode MX12_goPay.2.1 8 = .ok (.dup2, 1) := by decide +kernel
theorem dX12_goPay_9 : decode MX12_goPay.2.1 9 = .ok (.iaload, 1) := by decide +kernel
theorem dX12_goPay_10 : decode MX12_goPay.2.1 10 = .ok (.iload_n 3, 1) := by decide +kernel
theorem dX12_goPay_11 : decode MX12_goPay.2.1 11 = .ok (.isub, 1) := by decide +kernel
theorem dX12_goPay_12 : decode MX12_goPay.2.1 12 = .ok (.iastore, 1) := by decide +kernel
theorem dX12_goPay_13 : decode MX12_goPay.2.1 13 = .ok (.aload_n 0, 1) := by decide +kernel
theorem dX12_goPay_14 : decode MX12_goPay.2.1 14 = .ok (.getfield 9, 3) := by decide +kernel
theorem dX12_goPay_17 : decode MX12_goPay.2.1 17 = .ok (.bipush 36, 2) := by decide +kernel
theorem dX12_goPay_19 : decode MX12_goPay.2.1 19 = .ok (.iload_n 2, 1) := by decide +kernel
theorem dX12_goPay_20 : decode MX12_goPay.2.1 20 = .ok (.iadd, 1) := by decide +kernel
theorem dX12_goPay_21 : decode MX12_goPay.2.1 21 = .ok (.dup2, 1) := by decide +kernel
theorem dX12_goPay_22 : decode MX12_goPay.2.1 22 = .ok (.iaload, 1) := by decide +kernel
theorem dX12_goPay_23 : decode MX12_goPay.2.1 23 = .ok (.iload_n 3, 1) := by decide +kernel
theorem dX12_goPay_24 : decode MX12_goPay.2.1 24 = .ok (.iadd, 1) := by decide +kernel
theorem dX12_goPay_25 : decode MX12_goPay.2.1 25 = .ok (.iastore, 1) := by decide +kernel
theorem dX12_goPay_26 : decode MX12_goPay.2.1 26 = .ok (.aload_n 0, 1) := by decide +kernel
theorem dX12_goPay_27 : decode MX12_goPay.2.1 27 = .ok (.getfield 9, 3) := by decide +kernel
theorem dX12_goPay_30 : decode MX12_goPay.2.1 30 = .ok (.bipush 66, 2) := by decide +kernel
theorem dX12_goPay_32 : decode MX12_goPay.2.1 32 = .ok (.iload_n 1, 1) := by decide +kernel
theorem dX12_goPay_33 : decode MX12_goPay.2.1 33 = .ok (.iload_n 2, 1) := by decide +kernel
theorem dX12_goPay_34 : decode MX12_goPay.2.1 34 = .ok (.invokestatic 151, 3) := by decide +kernel
theorem dX12_goPay_37 : decode MX12_goPay.2.1 37 = .ok (.iadd, 1) := by decide +kernel
theorem dX12_goPay_38 : decode MX12_goPay.2.1 38 = .ok (.dup2, 1) := by decide +kernel
theorem dX12_goPay_39 : decode MX12_goPay.2.1 39 = .ok (.iaload, 1) := by decide +kernel
theorem dX12_goPay_40 : decode MX12_goPay.2.1 40 = .ok (.iload_n 3, 1) := by decide +kernel
theorem dX12_goPay_41 : decode MX12_goPay.2.1 41 = .ok (.isub, 1) := by decide +kernel
theorem dX12_goPay_42 : decode MX12_goPay.2.1 42 = .ok (.iastore, 1) := by decide +kernel
theorem dX12_goPay_43 : decode MX12_goPay.2.1 43 = .ok (.return_, 1) := by decide +kernel
theorem dX12_pays_0 : decode MX12_pays.2.1 0 = .ok (.aload_n 0, 1) := by decide +kernel
theorem dX12_pays_1 : decode MX12_pays.2.1 1 = .ok (.iconst 0, 1) := by decide +kernel
theorem dX12_pays_2 : decode MX12_pays.2.1 2 = .ok (.putfield 85, 3) := by decide +kernel
theorem dX12_pays_5 : decode MX12_pays.2.1 5 = .ok (.aload_n 0, 1) := by decide +kernel
theorem dX12_pays_6 : decode MX12_pays.2.1 6 = .ok (.iload_n 1, 1) := by decide +kernel
theorem dX12_pays_7 : decode MX12_pays.2.1 7 = .ok (.iload_n 2, 1) := by decide +kernel
theorem dX12_pays_8 : decode MX12_pays.2.1 8 = .ok (.iload_n 3, 1) := by decide +kernel
theorem dX12_pays_9 : decode MX12_pays.2.1 9 = .ok (.invokevirtual 281, 3) := by decide +kernel
theorem dX12_pays_12 : decode MX12_pays.2.1 12 = .ok (.istore 4, 2) := by decide +kernel
theorem dX12_pays_14 : decode MX12_pays.2.1 14 = .ok (.iload 4, 2) := by decide +kernel
theorem dX12_pays_16 : decode MX12_pays.2.1 16 = .ok (.ifCond .ge 6, 3) := by decide +kernel
theorem dX12_pays_19 : decode MX12_pays.2.1 19 = .ok (.iload 4, 2) := by decide +kernel
theorem dX12_pays_21 : decode MX12_pays.2.1 21 = .ok (.ireturn, 1) := by decide +kernel
theorem dX12_pays_22 : decode MX12_pays.2.1 22 = .ok (.aload_n 0, 1) := by decide +kernel
theorem dX12_pays_23 : decode MX12_pays.2.1 23 = .ok (.aload_n 0, 1) := by decide +kernel
theorem dX12_pays_24 : decode MX12_pays.2.1 24 = .ok (.getfield 9, 3) := by decide +kernel
theorem dX12_pays_27 : decode MX12_pays.2.1 27 = .ok (.invokevirtual 246, 3) := by decide +kernel
theorem dX12_pays_30 : decode MX12_pays.2.1 30 = .ok (.aload_n 0, 1) := by decide +kernel
theorem dX12_pays_31 : decode MX12_pays.2.1 31 = .ok (.iload_n 1, 1) := by decide +kernel
theorem dX12_pays_32 : decode MX12_pays.2.1 32 = .ok (.iload_n 2, 1) := by decide +kernel
theorem dX12_pays_33 : decode MX12_pays.2.1 33 = .ok (.iload_n 3, 1) := by decide +kernel
theorem dX12_pays_34 : decode MX12_pays.2.1 34 = .ok (.invokevirtual 284, 3) := by decide +kernel
theorem dX12_pays_37 : decode MX12_pays.2.1 37 = .ok (.aload_n 0, 1) := by decide +kernel
theorem dX12_pays_38 : decode MX12_pays.2.1 38 = .ok (.getfield 9, 3) := by decide +kernel
theorem dX12_pays_41 : decode MX12_pays.2.1 41 = .ok (.bipush 66, 2) := by decide +kernel
theorem dX12_pays_43 : decode MX12_pays.2.1 43 = .ok (.iload_n 1, 1) := by decide +kernel
theorem dX12_pays_44 : decode MX12_pays.2.1 44 = .ok (.iload_n 2, 1) := by decide +kernel
theorem dX12_pays_45 : decode MX12_pays.2.1 45 = .ok (.invokestatic 151, 3) := by decide +kernel
theorem dX12_pays_48 : decode MX12_pays.2.1 48 = .ok (.iadd, 1) := by decide +kernel
theorem dX12_pays_49 : decode MX12_pays.2.1 49 = .ok (.iaload, 1) := by decide +kernel
theorem dX12_pays_50 : decode MX12_pays.2.1 50 = .ok (.ireturn, 1) := by decide +kernel
theorem dX12_afternoon_0 : decode MX12_afternoon.2.1 0 = .ok (.aload_n 0, 1) := by decide +kernel
theorem dX12_afternoon_1 : decode MX12_afternoon.2.1 1 = .ok (.iconst 0, 1) := by decide +kernel
theorem dX12_afternoon_2 : decode MX12_afternoon.2.1 2 = .ok (.putfield 85, 3) := by decide +kernel
theorem dX12_afternoon_5 : decode MX12_afternoon.2.1 5 = .ok (.aload_n 0, 1) := by decide +kernel
theorem dX12_afternoon_6 : decode MX12_afternoon.2.1 6 = .ok (.bipush 60, 2) := by decide +kernel
theorem dX12_afternoon_8 : decode MX12_afternoon.2.1 8 = .ok (.invokevirtual 145, 3) := by decide +kernel
theorem dX12_afternoon_11 : decode MX12_afternoon.2.1 11 = .ok (.iconst 0, 1) := by decide +kernel
theorem dX12_afternoon_12 : decode MX12_afternoon.2.1 12 = .ok (.istore_n 1, 1) := by decide +kernel
theorem dX12_afternoon_13 : decode MX12_afternoon.2.1 13 = .ok (.aload_n 0, 1) := by decide +kernel
theorem dX12_afternoon_14 : decode MX12_afternoon.2.1 14 = .ok (.invokevirtual 125, 3) := by decide +kernel
theorem dX12_afternoon_17 : decode MX12_afternoon.2.1 17 = .ok (.ifCond .eq 27, 3) := by decide +kernel
theorem dX12_afternoon_20 : decode MX12_afternoon.2.1 20 = .ok (.aload_n 0, 1) := by decide +kernel
theorem dX12_afternoon_21 : decode MX12_afternoon.2.1 21 = .ok (.getfield 115, 3) := by decide +kernel
theorem dX12_afternoon_24 : decode MX12_afternoon.2.1 24 = .ok (.aload_n 0, 1) := by decide +kernel
theorem dX12_afternoon_25 : decode MX12_afternoon.2.1 25 = .ok (.getfield 109, 3) := by decide +kernel
theorem dX12_afternoon_28 : decode MX12_afternoon.2.1 28 = .ok (.if_icmp .ge 16, 3) := by decide +kernel
theorem dX12_afternoon_31 : decode MX12_afternoon.2.1 31 = .ok (.aload_n 0, 1) := by decide +kernel
theorem dX12_afternoon_32 : decode MX12_afternoon.2.1 32 = .ok (.iconst 4, 1) := by decide +kernel
theorem dX12_afternoon_33 : decode MX12_afternoon.2.1 33 = .ok (.iload_n 1, 1) := by decide +kernel
theorem dX12_afternoon_34 : decode MX12_afternoon.2.1 34 = .ok (.imul, 1) := by decide +kernel
theorem dX12_afternoon_35 : decode MX12_afternoon.2.1 35 = .ok (.invokevirtual 287, 3) := by decide +kernel
theorem dX12_afternoon_38 : decode MX12_afternoon.2.1 38 = .ok (.iinc 1 1, 3) := by decide +kernel
theorem dX12_afternoon_41 : decode MX12_afternoon.2.1 41 = .ok (.goto (-28), 3) := by decide +kernel
theorem dX12_afternoon_44 : decode MX12_afternoon.2.1 44 = .ok (.aload_n 0, 1) := by decide +kernel
theorem dX12_afternoon_45 : decode MX12_afternoon.2.1 45 = .ok (.invokevirtual 148, 3) := by decide +kernel
theorem dX12_afternoon_48 : decode MX12_afternoon.2.1 48 = .ok (.ifCond .ne 10, 3) := by decide +kernel
theorem dX12_afternoon_51 : decode MX12_afternoon.2.1 51 = .ok (.iconst (-1), 1) := by decide +kernel
theorem dX12_afternoon_52 : decode MX12_afternoon.2.1 52 = .ok (.aload_n 0, 1) := by decide +kernel
theorem dX12_afternoon_53 : decode MX12_afternoon.2.1 53 = .ok (.getfield 118, 3) := by decide +kernel
theorem dX12_afternoon_56 : decode MX12_afternoon.2.1 56 = .ok (.isub, 1) := by decide +kernel
theorem dX12_afternoon_57 : decode MX12_afternoon.2.1 57 = .ok (.ireturn, 1) := by decide +kernel
theorem dX12_afternoon_58 : decode MX12_afternoon.2.1 58 = .ok (.aload_n 0, 1) := by decide +kernel
theorem dX12_afternoon_59 : decode MX12_afternoon.2.1 59 = .ok (.getfield 9, 3) := by decide +kernel
theorem dX12_afternoon_62 : decode MX12_afternoon.2.1 62 = .ok (.aload_n 0, 1) := by decide +kernel
theorem dX12_afternoon_63 : decode MX12_afternoon.2.1 63 = .ok (.getfield 36, 3) := by decide +kernel
theorem dX12_afternoon_66 : decode MX12_afternoon.2.1 66 = .ok (.iconst 0, 1) := by decide +kernel
theorem dX12_afternoon_67 : decode MX12_afternoon.2.1 67 = .ok (.invokestatic 223, 3) := by decide +kernel
theorem dX12_afternoon_70 : decode MX12_afternoon.2.1 70 = .ok (.iconst 0, 1) := by decide +kernel
theorem dX12_afternoon_71 : decode MX12_afternoon.2.1 71 = .ok (.istore_n 2, 1) := by decide +kernel
theorem dX12_afternoon_72 : decode MX12_afternoon.2.1 72 = .ok (.iload_n 2, 1) := by decide +kernel
theorem dX12_afternoon_73 : decode MX12_afternoon.2.1 73 = .ok (.iload_n 1, 1) := by decide +kernel
theorem dX12_afternoon_74 : decode MX12_afternoon.2.1 74 = .ok (.if_icmp .ge 19, 3) := by decide +kernel
theorem dX12_afternoon_77 : decode MX12_afternoon.2.1 77 = .ok (.aload_n 0, 1) := by decide +kernel
theorem dX12_afternoon_78 : decode MX12_afternoon.2.1 78 = .ok (.iconst 4, 1) := by decide +kernel
theorem dX12_afternoon_79 : decode MX12_afternoon.2.1 79 = .ok (.iload_n 2, 1) := by decide +kernel
theorem dX12_afternoon_80 : decode MX12_afternoon.2.1 80 = .ok (.imul, 1) := by decide +kernel
theorem dX12_afternoon_81 : decode MX12_afternoon.2.1 81 = .ok (.invokevirtual 290, 3) := by decide +kernel
theorem dX12_afternoon_84 : decode MX12_afternoon.2.1 84 = .ok (.ifCond .eq 9, 3) := by decide +kernel
theorem dX12_afternoon_87 : decode MX12_afternoon.2.1 87 = .ok (.iinc 2 1, 3) := by decide +kernel
theorem dX12_afternoon_90 : decode MX12_afternoon.2.1 90 = .ok (.goto (-18), 3) := by decide +kernel
theorem dX12_afternoon_93 : decode MX12_afternoon.2.1 93 = .ok (.iload_n 2, 1) := by decide +kernel
theorem dX12_afternoon_94 : decode MX12_afternoon.2.1 94 = .ok (.ifCond .le 11, 3) := by decide +kernel
theorem dX12_afternoon_97 : decode MX12_afternoon.2.1 97 = .ok (.aload_n 0, 1) := by decide +kernel
theorem dX12_afternoon_98 : decode MX12_afternoon.2.1 98 = .ok (.aload_n 0, 1) := by decide +kernel
theorem dX12_afternoon_99 : decode MX12_afternoon.2.1 99 = .ok (.getfield 36, 3) := by decide +kernel
theorem dX12_afternoon_102 : decode MX12_afternoon.2.1 102 = .ok (.invokevirtual 246, 3) := by decide +kernel
theorem dX12_afternoon_105 : decode MX12_afternoon.2.1 105 = .ok (.aload_n 0, 1) := by decide +kernel
theorem dX12_afternoon_106 : decode MX12_afternoon.2.1 106 = .ok (.iconst 0, 1) := by decide +kernel
theorem dX12_afternoon_107 : decode MX12_afternoon.2.1 107 = .ok (.putfield 89, 3) := by decide +kernel
theorem dX12_afternoon_110 : decode MX12_afternoon.2.1 110 = .ok (.aload_n 0, 1) := by decide +kernel
theorem dX12_afternoon_111 : decode MX12_afternoon.2.1 111 = .ok (.iload_n 2, 1) := by decide +kernel
theorem dX12_afternoon_112 : decode MX12_afternoon.2.1 112 = .ok (.iload_n 1, 1) := by decide +kernel
theorem dX12_afternoon_113 : decode MX12_afternoon.2.1 113 = .ok (.if_icmp .ge 7, 3) := by decide +kernel
theorem dX12_afternoon_116 : decode MX12_afternoon.2.1 116 = .ok (.lconst 1, 1) := by decide +kernel
theorem dX12_afternoon_117 : decode MX12_afternoon.2.1 117 = .ok (.goto 4, 3) := by decide +kernel
theorem dX12_afternoon_120 : decode MX12_afternoon.2.1 120 = .ok (.lconst 0, 1) := by decide +kernel
theorem dX12_afternoon_121 : decode MX12_afternoon.2.1 121 = .ok (.invokevirtual 253, 3) := by decide +kernel
theorem dX12_afternoon_124 : decode MX12_afternoon.2.1 124 = .ok (.aload_n 0, 1) := by decide +kernel
theorem dX12_afternoon_125 : decode MX12_afternoon.2.1 125 = .ok (.aload_n 0, 1) := by decide +kernel
theorem dX12_afternoon_126 : decode MX12_afternoon.2.1 126 = .ok (.aload_n 0, 1) := by decide +kernel
theorem dX12_afternoon_127 : decode MX12_afternoon.2.1 127 = .ok (.getfield 9, 3) := by decide +kernel
theorem dX12_afternoon_130 : decode MX12_afternoon.2.1 130 = .ok (.bipush 42, 2) := by decide +kernel
theorem dX12_afternoon_132 : decode MX12_afternoon.2.1 132 = .ok (.invokevirtual 220, 3) := by decide +kernel
theorem dX12_afternoon_135 : decode MX12_afternoon.2.1 135 = .ok (.i2l, 1) := by decide +kernel
theorem dX12_afternoon_136 : decode MX12_afternoon.2.1 136 = .ok (.invokevirtual 253, 3) := by decide +kernel
theorem dX12_afternoon_139 : decode MX12_afternoon.2.1 139 = .ok (.iload_n 2, 1) := by decide +kernel
theorem dX12_afternoon_140 : decode MX12_afternoon.2.1 140 = .ok (.ireturn, 1) := by decide +kernel
theorem dX12_readAct_0 : decode MX12_readAct.2.1 0 = .ok (.aload_n 0, 1) := by decide +kernel
theorem dX12_readAct_1 : decode MX12_readAct.2.1 1 = .ok (.invokevirtual 129, 3) := by decide +kernel
theorem dX12_readAct_4 : decode MX12_readAct.2.1 4 = .ok (.istore_n 2, 1) := by decide +kernel
theorem dX12_readAct_5 : decode MX12_readAct.2.1 5 = .ok (.iload_n 2, 1) := by decide +kernel
theorem dX12_readAct_6 : decode MX12_readAct.2.1 6 = .ok (.bipush 104, 2) := by decide +kernel
theorem dX12_readAct_8 : decode MX12_readAct.2.1 8 = .ok (.if_icmp .eq 36, 3) := by decide +kernel
theorem dX12_readAct_11 : decode MX12_readAct.2.1 11 = .ok (.iload_n 2, 1) := by decide +kernel
theorem dX12_readAct_12 : decode MX12_readAct.2.1 12 = .ok (.bipush 100, 2) := by decide +kernel
theorem dX12_readAct_14 : decode MX12_readAct.2.1 14 = .ok (.if_icmp .eq 30, 3) := by decide +kernel
theorem dX12_readAct_17 : decode MX12_readAct.2.1 17 = .ok (.iload_n 2, 1) := by decide +kernel
theorem dX12_readAct_18 : decode MX12_readAct.2.1 18 = .ok (.bipush 99, 2) := by decide +kernel
theorem dX12_readAct_20 : decode MX12_readAct.2.1 20 = .ok (.if_icmp .eq 24, 3) := by decide +kernel
theorem dX12_readAct_23 : decode MX12_readAct.2.1 23 = .ok (.iload_n 2, 1) := by decide +kernel
theorem dX12_readAct_24 : decode MX12_readAct.2.1 24 = .ok (.bipush 108, 2) := by decide +kernel
theorem dX12_readAct_26 : decode MX12_readAct.2.1 26 = .ok (.if_icmp .eq 18, 3) := by decide +kernel
theorem dX12_readAct_29 : decode MX12_readAct.2.1 29 = .ok (.iload_n 2, 1) := by decide +kernel
theorem dX12_readAct_30 : decode MX12_readAct.2.1 30 = .ok (.bipush 112, 2) := by decide +kernel
theorem dX12_readAct_32 : decode MX12_readAct.2.1 32 = .ok (.if_icmp .eq 12, 3) := by decide +kernel
theorem dX12_readAct_35 : decode MX12_readAct.2.1 35 = .ok (.aload_n 0, 1) := by decide +kernel
theorem dX12_readAct_36 : decode MX12_readAct.2.1 36 = .ok (.aload_n 0, 1) := by decide +kernel
theorem dX12_readAct_37 : decode MX12_readAct.2.1 37 = .ok (.getfield 115, 3) := by decide +kernel
theorem dX12_readAct_40 : decode MX12_readAct.2.1 40 = .ok (.invokevirtual 137, 3) := by decide +kernel
theorem dX12_readAct_43 : decode MX12_readAct.2.1 43 = .ok (.return_, 1) := by decide +kernel
theorem dX12_readAct_44 : decode MX12_readAct.2.1 44 = .ok (.aload_n 0, 1) := by decide +kernel
theorem dX12_readAct_45 : decode MX12_readAct.2.1 45 = .ok (.dup, 1) := by decide +kernel
theorem dX12_readAct_46 : decode MX12_readAct.2.1 46 = .ok (.getfield 115, 3) := by decide +kernel
theorem dX12_readAct_49 : decode MX12_readAct.2.1 49 = .ok (.iconst 1, 1) := by decide +kernel
theorem dX12_readAct_50 : decode MX12_readAct.2.1 50 = .ok (.iadd, 1) := by decide +kernel
theorem dX12_readAct_51 : decode MX12_readAct.2.1 51 = .ok (.putfield 115, 3) := by decide +kernel
theorem dX12_readAct_54 : decode MX12_readAct.2.1 54 = .ok (.aload_n 0, 1) := by decide +kernel
theorem dX12_readAct_55 : decode MX12_readAct.2.1 55 = .ok (.getfield 45, 3) := by decide +kernel
theorem dX12_readAct_58 : decode MX12_readAct.2.1 58 = .ok (.iload_n 1, 1) := by decide +kernel
theorem dX12_readAct_59 : decode MX12_readAct.2.1 59 = .ok (.iload_n 2, 1) := by decide +kernel
theorem dX12_readAct_60 : decode MX12_readAct.2.1 60 = .ok (.iastore, 1) := by decide +kernel
theorem dX12_readAct_61 : decode MX12_readAct.2.1 61 = .ok (.aload_n 0, 1) := by decide +kernel
theorem dX12_readAct_62 : decode MX12_readAct.2.1 62 = .ok (.getfield 45, 3) := by decide +kernel
theorem dX12_readAct_65 : decode MX12_readAct.2.1 65 = .ok (.iload_n 1, 1) := by decide +kernel
theorem dX12_readAct_66 : decode MX12_readAct.2.1 66 = .ok (.iconst 1, 1) := by decide +kernel
theorem dX12_readAct_67 : decode MX12_readAct.2.1 67 = .ok (.iadd, 1) := by decide +kernel
theorem dX12_readAct_68 : decode MX12_readAct.2.1 68 = .ok (.aload_n 0, 1) := by decide +kernel
theorem dX12_readAct_69 : decode MX12_readAct.2.1 69 = .ok (.bipush 48, 2) := by decide +kernel
theorem dX12_readAct_71 : decode MX12_readAct.2.1 71 = .ok (.bipush 10, 2) := by decide +kernel
theorem dX12_readAct_73 : decode MX12_readAct.2.1 73 = .ok (.invokevirtual 141, 3) := by decide +kernel
theorem dX12_readAct_76 : decode MX12_readAct.2.1 76 = .ok (.iastore, 1) := by decide +kernel
theorem dX12_readAct_77 : decode MX12_readAct.2.1 77 = .ok (.iload_n 2, 1) := by decide +kernel
theorem dX12_readAct_78 : decode MX12_readAct.2.1 78 = .ok (.bipush 100, 2) := by decide +kernel
theorem dX12_readAct_80 : decode MX12_readAct.2.1 80 = .ok (.if_icmp .ne 21, 3) := by decide +kernel
theorem dX12_readAct_83 : decode MX12_readAct.2.1 83 = .ok (.aload_n 0, 1) := by decide +kernel
theorem dX12_readAct_84 : decode MX12_readAct.2.1 84 = .ok (.getfield 45, 3) := by decide +kernel
theorem dX12_readAct_87 : decode MX12_readAct.2.1 87 = .ok (.iload_n 1, 1) := by decide +kernel
theorem dX12_readAct_88 : decode MX12_readAct.2.1 88 = .ok (.iconst 2, 1) := by decide +kernel
theorem dX12_readAct_89 : decode MX12_readAct.2.1 89 = .ok (.iadd, 1) := by decide +kernel
theorem dX12_readAct_90 : decode MX12_readAct.2.1 90 = .ok (.aload_n 0, 1) := by decide +kernel
theorem dX12_readAct_91 : decode MX12_readAct.2.1 91 = .ok (.bipush 49, 2) := by decide +kernel
theorem dX12_readAct_93 : decode MX12_readAct.2.1 93 = .ok (.bipush 9, 2) := by decide +kernel
theorem dX12_readAct_95 : decode MX12_readAct.2.1 95 = .ok (.invokevirtual 141, 3) := by decide +kernel
theorem dX12_readAct_98 : decode MX12_readAct.2.1 98 = .ok (.iconst 1, 1) := by decide +kernel
theorem dX12_readAct_99 : decode MX12_readAct.2.1 99 = .ok (.iadd, 1) := by decide +kernel
theorem dX12_readAct_100 : decode MX12_readAct.2.1 100 = .ok (.iastore, 1) := by decide +kernel
theorem dX12_readAct_101 : decode MX12_readAct.2.1 101 = .ok (.iload_n 2, 1) := by decide +kernel
theorem dX12_readAct_102 : decode MX12_readAct.2.1 102 = .ok (.bipush 108, 2) := by decide +kernel
theorem dX12_readAct_104 : decode MX12_readAct.2.1 104 = .ok (.if_icmp .eq 10, 3) := by decide +kernel
theorem dX12_readAct_107 : decode MX12_readAct.2.1 107 = .ok (.iload_n 2, 1) := by decide +kernel
theorem dX12_readAct_108 : decode MX12_readAct.2.1 108 = .ok (.bipush 112, 2) := by decide +kernel
theorem dX12_readAct_110 : decode MX12_readAct.2.1 110 = .ok (.if_icmp .eq 4, 3) := by decide +kernel
theorem dX12_readAct_113 : decode MX12_readAct.2.1 113 = .ok (.return_, 1) := by decide +kernel
theorem dX12_readAct_114 : decode MX12_readAct.2.1 114 = .ok (.aload_n 0, 1) := by decide +kernel
theorem dX12_readAct_115 : decode MX12_readAct.2.1 115 = .ok (.getfield 45, 3) := by decide +kernel
theorem dX12_readAct_118 : decode MX12_readAct.2.1 118 = .ok (.iload_n 1, 1) := by decide +kernel
theorem dX12_readAct_119 : decode MX12_readAct.2.1 119 = .ok (.iconst 2, 1) := by decide +kernel
theorem dX12_readAct_120 : decode MX12_readAct.2.1 120 = .ok (.iadd, 1) := by decide +kernel
theorem dX12_readAct_121 : decode MX12_readAct.2.1 121 = .ok (.aload_n 0, 1) := by decide +kernel
theorem dX12_readAct_122 : decode MX12_readAct.2.1 122 = .ok (.bipush 48, 2) := by decide +kernel
theorem dX12_readAct_124 : decode MX12_readAct.2.1 124 = .ok (.bipush 10, 2) := by decide +kernel
theorem dX12_readAct_126 : decode MX12_readAct.2.1 126 = .ok (.invokevirtual 141, 3) := by decide +kernel
theorem dX12_readAct_129 : decode MX12_readAct.2.1 129 = .ok (.iastore, 1) := by decide +kernel
theorem dX12_readAct_130 : decode MX12_readAct.2.1 130 = .ok (.aload_n 0, 1) := by decide +kernel
theorem dX12_readAct_131 : decode MX12_readAct.2.1 131 = .ok (.getfield 45, 3) := by decide +kernel
theorem dX12_readAct_134 : decode MX12_readAct.2.1 134 = .ok (.iload_n 1, 1) := by decide +kernel
theorem dX12_readAct_135 : decode MX12_readAct.2.1 135 = .ok (.iconst 3, 1) := by decide +kernel
theorem dX12_readAct_136 : decode MX12_readAct.2.1 136 = .ok (.iadd, 1) := by decide +kernel
theorem dX12_readAct_137 : decode MX12_readAct.2.1 137 = .ok (.aload_n 0, 1) := by decide +kernel
theorem dX12_readAct_138 : decode MX12_readAct.2.1 138 = .ok (.bipush 49, 2) := by decide +kernel
theorem dX12_readAct_140 : decode MX12_readAct.2.1 140 = .ok (.bipush 9, 2) := by decide +kernel
theorem dX12_readAct_142 : decode MX12_readAct.2.1 142 = .ok (.invokevirtual 141, 3) := by decide +kernel
theorem dX12_readAct_145 : decode MX12_readAct.2.1 145 = .ok (.iconst 1, 1) := by decide +kernel
theorem dX12_readAct_146 : decode MX12_readAct.2.1 146 = .ok (.iadd, 1) := by decide +kernel
theorem dX12_readAct_147 : decode MX12_readAct.2.1 147 = .ok (.iastore, 1) := by decide +kernel
theorem dX12_readAct_148 : decode MX12_readAct.2.1 148 = .ok (.return_, 1) := by decide +kernel
theorem dX12_act_0 : decode MX12_act.2.1 0 = .ok (.aload_n 0, 1) := by decide +kernel
theorem dX12_act_1 : decode MX12_act.2.1 1 = .ok (.getfield 45, 3) := by decide +kernel
theorem dX12_act_4 : decode MX12_act.2.1 4 = .ok (.iload_n 1, 1) := by decide +kernel
theorem dX12_act_5 : decode MX12_act.2.1 5 = .ok (.iconst 1, 1) := by decide +kernel
theorem dX12_act_6 : decode MX12_act.2.1 6 = .ok (.iadd, 1) := by decide +kernel
theorem dX12_act_7 : decode MX12_act.2.1 7 = .ok (.iaload, 1) := by decide +kernel
theorem dX12_act_8 : decode MX12_act.2.1 8 = .ok (.istore_n 2, 1) := by decide +kernel
theorem dX12_act_9 : decode MX12_act.2.1 9 = .ok (.aload_n 0, 1) := by decide +kernel
theorem dX12_act_10 : decode MX12_act.2.1 10 = .ok (.getfield 45, 3) := by decide +kernel
theorem dX12_act_13 : decode MX12_act.2.1 13 = .ok (.iload_n 1, 1) := by decide +kernel
theorem dX12_act_14 : decode MX12_act.2.1 14 = .ok (.iconst 2, 1) := by decide +kernel
theorem dX12_act_15 : decode MX12_act.2.1 15 = .ok (.iadd, 1) := by decide +kernel
theorem dX12_act_16 : decode MX12_act.2.1 16 = .ok (.iaload, 1) := by decide +kernel
theorem dX12_act_17 : decode MX12_act.2.1 17 = .ok (.istore_n 3, 1) := by decide +kernel
theorem dX12_act_18 : decode MX12_act.2.1 18 = .ok (.aload_n 0, 1) := by decide +kernel
theorem dX12_act_19 : decode MX12_act.2.1 19 = .ok (.getfield 45, 3) := by decide +kernel
theorem dX12_act_22 : decode MX12_act.2.1 22 = .ok (.iload_n 1, 1) := by decide +kernel
theorem dX12_act_23 : decode MX12_act.2.1 23 = .ok (.iconst 3, 1) := by decide +kernel
theorem dX12_act_24 : decode MX12_act.2.1 24 = .ok (.iadd, 1) := by decide +kernel
theorem dX12_act_25 : decode MX12_act.2.1 25 = .ok (.iaload, 1) := by decide +kernel
theorem dX12_act_26 : decode MX12_act.2.1 26 = .ok (.istore 4, 2) := by decide +kernel
theorem dX12_act_28 : decode MX12_act.2.1 28 = .ok (.aload_n 0, 1) := by decide +kernel
theorem dX12_act_29 : decode MX12_act.2.1 29 = .ok (.getfield 45, 3) := by decide +kernel
theorem dX12_act_32 : decode MX12_act.2.1 32 = .ok (.iload_n 1, 1) := by decide +kernel
theorem dX12_act_33 : decode MX12_act.2.1 33 = .ok (.iaload, 1) := by decide +kernel
theorem dX12_act_34 : decode MX12_act.2.1 34 = .ok (.tableswitch 139 99 108 #[92, 66, 139, 139, 139, 54, 139, 139, 139, 116], 54) := by decide +kernel
theorem dX12_act_88 : decode MX12_act.2.1 88 = .ok (.aload_n 0, 1) := by decide +kernel
theorem dX12_act_89 : decode MX12_act.2.1 89 = .ok (.aload_n 0, 1) := by decide +kernel
theorem dX12_act_90 : decode MX12_act.2.1 90 = .ok (.getfield 9, 3) := by decide +kernel
theorem dX12_act_93 : decode MX12_act.2.1 93 = .ok (.iload_n 2, 1) := by decide +kernel
theorem dX12_act_94 : decode MX12_act.2.1 94 = .ok (.invokevirtual 250, 3) := by decide +kernel
theorem dX12_act_97 : decode MX12_act.2.1 97 = .ok (.pop, 1) := by decide +kernel
theorem dX12_act_98 : decode MX12_act.2.1 98 = .ok (.iconst 1, 1) := by decide +kernel
theorem dX12_act_99 : decode MX12_act.2.1 99 = .ok (.ireturn, 1) := by decide +kernel
theorem dX12_act_100 : decode MX12_act.2.1 100 = .ok (.aload_n 0, 1) := by decide +kernel
theorem dX12_act_101 : decode MX12_act.2.1 101 = .ok (.aload_n 0, 1) := by decide +kernel
theorem dX12_act_102 : decode MX12_act.2.1 102 = .ok (.getfield 9, 3) := by decide +kernel
theorem dX12_act_105 : decode MX12_act.2.1 105 = .ok (.iload_n 2, 1) := by decide +kernel
theorem dX12_act_106 : decode MX12_act.2.1 106 = .ok (.iload_n 3, 1) := by decide +kernel
theorem dX12_act_107 : decode MX12_act.2.1 107 = .ok (.invokevirtual 260, 3) := by decide +kernel
theorem dX12_act_110 : decode MX12_act.2.1 110 = .ok (.ifCond .ge 5, 3) := by decide +kernel
theorem dX12_act_113 : decode MX12_act.2.1 113 = .ok (.iconst 0, 1) := by decide +kernel
theorem dX12_act_114 : decode MX12_act.2.1 114 = .ok (.ireturn, 1) := by decide +kernel
theorem dX12_act_115 : decode MX12_act.2.1 115 = .ok (.aload_n 0, 1) := by decide +kernel
theorem dX12_act_116 : decode MX12_act.2.1 116 = .ok (.getfield 9, 3) := by decide +kernel
theorem dX12_act_119 : decode MX12_act.2.1 119 = .ok (.iload_n 2, 1) := by decide +kernel
theorem dX12_act_120 : decode MX12_act.2.1 120 = .ok (.iload_n 3, 1) := by decide +kernel
theorem dX12_act_121 : decode MX12_act.2.1 121 = .ok (.invokestatic 263, 3) := by decide +kernel
theorem dX12_act_124 : decode MX12_act.2.1 124 = .ok (.iconst 1, 1) := by decide +kernel
theorem dX12_act_125 : decode MX12_act.2.1 125 = .ok (.ireturn, 1) := by decide +kernel
theorem dX12_act_126 : decode MX12_act.2.1 126 = .ok (.aload_n 0, 1) := by decide +kernel
theorem dX12_act_127 : decode MX12_act.2.1 127 = .ok (.aload_n 0, 1) := by decide +kernel
theorem dX12_act_128 : decode MX12_act.2.1 128 = .ok (.getfield 9, 3) := by decide +kernel
theorem dX12_act_131 : decode MX12_act.2.1 131 = .ok (.iload_n 2, 1) := by decide +kernel
theorem dX12_act_132 : decode MX12_act.2.1 132 = .ok (.invokevirtual 267, 3) := by decide +kernel
theorem dX12_act_135 : decode MX12_act.2.1 135 = .ok (.ifCond .ge 5, 3) := by decide +kernel
theorem dX12_act_138 : decode MX12_act.2.1 138 = .ok (.iconst 0, 1) := by decide +kernel
theorem dX12_act_139 : decode MX12_act.2.1 139 = .ok (.ireturn, 1) := by decide +kernel
theorem dX12_act_140 : decode MX12_act.2.1 140 = .ok (.aload_n 0, 1) := by decide +kernel
theorem dX12_act_141 : decode MX12_act.2.1 141 = .ok (.getfield 9, 3) := by decide +kernel
theorem dX12_act_144 : decode MX12_act.2.1 144 = .ok (.iload_n 2, 1) := by decide +kernel
theorem dX12_act_145 : decode MX12_act.2.1 145 = .ok (.invokestatic 270, 3) := by decide +kernel
theorem dX12_act_148 : decode MX12_act.2.1 148 = .ok (.iconst 1, 1) := by decide +kernel
theorem dX12_act_149 : decode MX12_act.2.1 149 = .ok (.ireturn, 1) := by decide +kernel
theorem dX12_act_150 : decode MX12_act.2.1 150 = .ok (.aload_n 0, 1) := by decide +kernel
theorem dX12_act_151 : decode MX12_act.2.1 151 = .ok (.iload_n 2, 1) := by decide +kernel
theorem dX12_act_152 : decode MX12_act.2.1 152 = .ok (.iload_n 3, 1) := by decide +kernel
theorem dX12_act_153 : decode MX12_act.2.1 153 = .ok (.iload 4, 2) := by decide +kernel
theorem dX12_act_155 : decode MX12_act.2.1 155 = .ok (.invokevirtual 273, 3) := by decide +kernel
theorem dX12_act_158 : decode MX12_act.2.1 158 = .ok (.ifCond .ge 5, 3) := by decide +kernel
theorem dX12_act_161 : decode MX12_act.2.1 161 = .ok (.iconst 0, 1) := by decide +kernel
theorem dX12_act_162 : decode MX12_act.2.1 162 = .ok (.ireturn, 1) := by decide +kernel
theorem dX12_act_163 : decode MX12_act.2.1 163 = .ok (.aload_n 0, 1) := by decide +kernel
theorem dX12_act_164 : decode MX12_act.2.1 164 = .ok (.iload_n 2, 1) := by decide +kernel
theorem dX12_act_165 : decode MX12_act.2.1 165 = .ok (.iload_n 3, 1) := by decide +kernel
theorem dX12_act_166 : decode MX12_act.2.1 166 = .ok (.iload 4, 2) := by decide +kernel
theorem dX12_act_168 : decode MX12_act.2.1 168 = .ok (.invokevirtual 277, 3) := by decide +kernel
theorem dX12_act_171 : decode MX12_act.2.1 171 = .ok (.iconst 1, 1) := by decide +kernel
theorem dX12_act_172 : decode MX12_act.2.1 172 = .ok (.ireturn, 1) := by decide +kernel
theorem dX12_act_173 : decode MX12_act.2.1 173 = .ok (.aload_n 0, 1) := by decide +kernel
theorem dX12_act_174 : decode MX12_act.2.1 174 = .ok (.iload_n 2, 1) := by decide +kernel
theorem dX12_act_175 : decode MX12_act.2.1 175 = .ok (.iload_n 3, 1) := by decide +kernel
theorem dX12_act_176 : decode MX12_act.2.1 176 = .ok (.iload 4, 2) := by decide +kernel
theorem dX12_act_178 : decode MX12_act.2.1 178 = .ok (.invokevirtual 281, 3) := by decide +kernel
theorem dX12_act_181 : decode MX12_act.2.1 181 = .ok (.ifCond .ge 5, 3) := by decide +kernel
theorem dX12_act_184 : decode MX12_act.2.1 184 = .ok (.iconst 0, 1) := by decide +kernel
theorem dX12_act_185 : decode MX12_act.2.1 185 = .ok (.ireturn, 1) := by decide +kernel
theorem dX12_act_186 : decode MX12_act.2.1 186 = .ok (.aload_n 0, 1) := by decide +kernel
theorem dX12_act_187 : decode MX12_act.2.1 187 = .ok (.iload_n 2, 1) := by decide +kernel
theorem dX12_act_188 : decode MX12_act.2.1 188 = .ok (.iload_n 3, 1) := by decide +kernel
theorem dX12_act_189 : decode MX12_act.2.1 189 = .ok (.iload 4, 2) := by decide +kernel
theorem dX12_act_191 : decode MX12_act.2.1 191 = .ok (.invokevirtual 284, 3) := by decide +kernel
theorem dX12_act_194 : decode MX12_act.2.1 194 = .ok (.iconst 1, 1) := by decide +kernel
theorem dX12_act_195 : decode MX12_act.2.1 195 = .ok (.ireturn, 1) := by decide +kernel
theorem dX12_undo_0 : decode MX12_undo.2.1 0 = .ok (.aload_n 0, 1) := by decide +kernel
theorem dX12_undo_1 : decode MX12_undo.2.1 1 = .ok (.iconst 0, 1) := by decide +kernel
theorem dX12_undo_2 : decode MX12_undo.2.1 2 = .ok (.putfield 85, 3) := by decide +kernel
theorem dX12_undo_5 : decode MX12_undo.2.1 5 = .ok (.aload_n 0, 1) := by decide +kernel
theorem dX12_undo_6 : decode MX12_undo.2.1 6 = .ok (.getfield 155, 3) := by decide +kernel
theorem dX12_undo_9 : decode MX12_undo.2.1 9 = .ok (.ifCond .ne 5, 3) := by decide +kernel
theorem dX12_undo_12 : decode MX12_undo.2.1 12 = .ok (.iconst (-1), 1) := by decide +kernel
theorem dX12_undo_13 : decode MX12_undo.2.1 13 = .ok (.ireturn, 1) := by decide +kernel
theorem dX12_undo_14 : decode MX12_undo.2.1 14 = .ok (.aload_n 0, 1) := by decide +kernel
theorem dX12_undo_15 : decode MX12_undo.2.1 15 = .ok (.dup, 1) := by decide +kernel
theorem dX12_undo_16 : decode MX12_undo.2.1 16 = .ok (.getfield 155, 3) := by decide +kernel
theorem dX12_undo_19 : decode MX12_undo.2.1 19 = .ok (.iconst 1, 1) := by decide +kernel
theorem dX12_undo_20 : decode MX12_undo.2.1 20 = .ok (.isub, 1) := by decide +kernel
theorem dX12_undo_21 : decode MX12_undo.2.1 21 = .ok (.putfield 155, 3) := by decide +kernel
theorem dX12_undo_24 : decode MX12_undo.2.1 24 = .ok (.iconst 0, 1) := by decide +kernel
theorem dX12_undo_25 : decode MX12_undo.2.1 25 = .ok (.istore_n 1, 1) := by decide +kernel
theorem dX12_undo_26 : decode MX12_undo.2.1 26 = .ok (.iload_n 1, 1) := by decide +kernel
theorem dX12_undo_27 : decode MX12_undo.2.1 27 = .ok (.bipush 103, 2) := by decide +kernel
theorem dX12_undo_29 : decode MX12_undo.2.1 29 = .ok (.if_icmp .ge 29, 3) := by decide +kernel
theorem dX12_undo_32 : decode MX12_undo.2.1 32 = .ok (.aload_n 0, 1) := by decide +kernel
theorem dX12_undo_33 : decode MX12_undo.2.1 33 = .ok (.getfield 9, 3) := by decide +kernel
theorem dX12_undo_36 : decode MX12_undo.2.1 36 = .ok (.iload_n 1, 1) := by decide +kernel
theorem dX12_undo_37 : decode MX12_undo.2.1 37 = .ok (.aload_n 0, 1) := by decide +kernel
theorem dX12_undo_38 : decode MX12_undo.2.1 38 = .ok (.getfield 33, 3) := by decide +kernel
theorem dX12_undo_41 : decode MX12_undo.2.1 41 = .ok (.bipush 103, 2) := by decide +kernel
theorem dX12_undo_43 : decode MX12_undo.2.1 43 = .ok (.aload_n 0, 1) := by decide +kernel
theorem dX12_undo_44 : decode MX12_undo.2.1 44 = .ok (.getfield 155, 3) := by decide +kernel
theorem dX12_undo_47 : decode MX12_undo.2.1 47 = .ok (.imul, 1) := by decide +kernel
theorem dX12_undo_48 : decode MX12_undo.2.1 48 = .ok (.iload_n 1, 1) := by decide +kernel
theorem dX12_undo_49 : decode MX12_undo.2.1 49 = .ok (.iadd, 1) := by decide +kernel
theorem dX12_undo_50 : decode MX12_undo.2.1 50 = .ok (.iaload, 1) := by decide +kernel
theorem dX12_undo_51 : decode MX12_undo.2.1 51 = .ok (.iastore, 1) := by decide +kernel
theorem dX12_undo_52 : decode MX12_undo.2.1 52 = .ok (.iinc 1 1, 3) := by decide +kernel
theorem dX12_undo_55 : decode MX12_undo.2.1 55 = .ok (.goto (-29), 3) := by decide +kernel
theorem dX12_undo_58 : decode MX12_undo.2.1 58 = .ok (.aload_n 0, 1) := by decide +kernel
theorem dX12_undo_59 : decode MX12_undo.2.1 59 = .ok (.getfield 155, 3) := by decide +kernel
theorem dX12_undo_62 : decode MX12_undo.2.1 62 = .ok (.ireturn, 1) := by decide +kernel
theorem dX12_said_0 : decode MX12_said.2.1 0 = .ok (.aload_n 0, 1) := by decide +kernel
theorem dX12_said_1 : decode MX12_said.2.1 1 = .ok (.iconst 0, 1) := by decide +kernel
theorem dX12_said_2 : decode MX12_said.2.1 2 = .ok (.putfield 85, 3) := by decide +kernel
theorem dX12_said_5 : decode MX12_said.2.1 5 = .ok (.aload_n 0, 1) := by decide +kernel
theorem dX12_said_6 : decode MX12_said.2.1 6 = .ok (.iload_n 1, 1) := by decide +kernel
theorem dX12_said_7 : decode MX12_said.2.1 7 = .ok (.invokevirtual 99, 3) := by decide +kernel
theorem dX12_said_10 : decode MX12_said.2.1 10 = .ok (.ifCond .ne 5, 3) := by decide +kernel
theorem dX12_said_13 : decode MX12_said.2.1 13 = .ok (.iconst (-1), 1) := by decide +kernel
theorem dX12_said_14 : decode MX12_said.2.1 14 = .ok (.ireturn, 1) := by decide +kernel
theorem dX12_said_15 : decode MX12_said.2.1 15 = .ok (.iconst 0, 1) := by decide +kernel
theorem dX12_said_16 : decode MX12_said.2.1 16 = .ok (.istore_n 2, 1) := by decide +kernel
theorem dX12_said_17 : decode MX12_said.2.1 17 = .ok (.aload_n 0, 1) := by decide +kernel
theorem dX12_said_18 : decode MX12_said.2.1 18 = .ok (.iconst 0, 1) := by decide +kernel
theorem dX12_said_19 : decode MX12_said.2.1 19 = .ok (.putfield 89, 3) := by decide +kernel
theorem dX12_said_22 : decode MX12_said.2.1 22 = .ok (.iconst 0, 1) := by decide +kernel
theorem dX12_said_23 : decode MX12_said.2.1 23 = .ok (.istore_n 3, 1) := by decide +kernel
theorem dX12_said_24 : decode MX12_said.2.1 24 = .ok (.iload_n 3, 1) := by decide +kernel
theorem dX12_said_25 : decode MX12_said.2.1 25 = .ok (.aload_n 0, 1) := by decide +kernel
theorem dX12_said_26 : decode MX12_said.2.1 26 = .ok (.getfield 92, 3) := by decide +kernel
theorem dX12_said_29 : decode MX12_said.2.1 29 = .ok (.if_icmp .ge 57, 3) := by decide +kernel
theorem dX12_said_32 : decode MX12_said.2.1 32 = .ok (.iload_n 3, 1) := by decide +kernel
theorem dX12_said_33 : decode MX12_said.2.1 33 = .ok (.iload_n 1, 1) := by decide +kernel
theorem dX12_said_34 : decode MX12_said.2.1 34 = .ok (.if_icmp .eq 46, 3) := by decide +kernel
theorem dX12_said_37 : decode MX12_said.2.1 37 = .ok (.aload_n 0, 1) := by decide +kernel
theorem dX12_said_38 : decode MX12_said.2.1 38 = .ok (.getfield 9, 3) := by decide +kernel
theorem dX12_said_41 : decode MX12_said.2.1 41 = .ok (.bipush 54, 2) := by decide +kernel
theorem dX12_said_43 : decode MX12_said.2.1 43 = .ok (.iload_n 3, 1) := by decide +kernel
theorem dX12_said_44 : decode MX12_said.2.1 44 = .ok (.iadd, 1) := by decide +kernel
theorem dX12_said_45 : decode MX12_said.2.1 45 = .ok (.iaload, 1) := by decide +kernel
theorem dX12_said_46 : decode MX12_said.2.1 46 = .ok (.ifCond .le 6, 3) := by decide +kernel
theorem dX12_said_49 : decode MX12_said.2.1 49 = .ok (.goto 31, 3) := by decide +kernel
theorem dX12_said_52 : decode MX12_said.2.1 52 = .ok (.iload_n 2, 1) := by decide +kernel
theorem dX12_said_53 : decode MX12_said.2.1 53 = .ok (.aload_n 0, 1) := by decide +kernel
theorem dX12_said_54 : decode MX12_said.2.1 54 = .ok (.aload_n 0, 1) := by decide +kernel
theorem dX12_said_55 : decode MX12_said.2.1 55 = .ok (.getfield 9, 3) := by decide +kernel
theorem dX12_said_58 : decode MX12_said.2.1 58 = .ok (.iload_n 3, 1) := by decide +kernel
theorem dX12_said_59 : decode MX12_said.2.1 59 = .ok (.iload_n 1, 1) := by decide +kernel
theorem dX12_said_60 : decode MX12_said.2.1 60 = .ok (.invokevirtual 216, 3) := by decide +kernel
theorem dX12_said_63 : decode MX12_said.2.1 63 = .ok (.iadd, 1) := by decide +kernel
theorem dX12_said_64 : decode MX12_said.2.1 64 = .ok (.istore_n 2, 1) := by decide +kernel
theorem dX12_said_65 : decode MX12_said.2.1 65 = .ok (.aload_n 0, 1) := by decide +kernel
theorem dX12_said_66 : decode MX12_said.2.1 66 = .ok (.aload_n 0, 1) := by decide +kernel
theorem dX12_said_67 : decode MX12_said.2.1 67 = .ok (.aload_n 0, 1) := by decide +kernel
theorem dX12_said_68 : decode MX12_said.2.1 68 = .ok (.getfield 9, 3) := by decide +kernel
theorem dX12_said_71 : decode MX12_said.2.1 71 = .ok (.iload_n 3, 1) := by decide +kernel
theorem dX12_said_72 : decode MX12_said.2.1 72 = .ok (.iload_n 1, 1) := by decide +kernel
theorem dX12_said_73 : decode MX12_said.2.1 73 = .ok (.invokevirtual 216, 3) := by decide +kernel
theorem dX12_said_76 : decode MX12_said.2.1 76 = .ok (.i2l, 1) := by decide +kernel
theorem dX12_said_77 : decode MX12_said.2.1 77 = .ok (.invokevirtual 253, 3) := by decide +kernel
theorem dX12_said_80 : decode MX12_said.2.1 80 = .ok (.iinc 3 1, 3) := by decide +kernel
theorem dX12_said_83 : decode MX12_said.2.1 83 = .ok (.goto (-59), 3) := by decide +kernel
theorem dX12_said_86 : decode MX12_said.2.1 86 = .ok (.iload_n 2, 1) := by decide +kernel
theorem dX12_said_87 : decode MX12_said.2.1 87 = .ok (.ireturn, 1) := by decide +kernel
theorem dX12_later_0 : decode MX12_later.2.1 0 = .ok (.aload_n 0, 1) := by decide +kernel
theorem dX12_later_1 : decode MX12_later.2.1 1 = .ok (.iconst 0, 1) := by decide +kernel
theorem dX12_later_2 : decode MX12_later.2.1 2 = .ok (.putfield 85, 3) := by decide +kernel
theorem dX12_later_5 : decode MX12_later.2.1 5 = .ok (.aload_n 0, 1) := by decide +kernel
theorem dX12_later_6 : decode MX12_later.2.1 6 = .ok (.iload_n 1, 1) := by decide +kernel
theorem dX12_later_7 : decode MX12_later.2.1 7 = .ok (.invokevirtual 99, 3) := by decide +kernel
theorem dX12_later_10 : decode MX12_later.2.1 10 = .ok (.ifCond .eq 13, 3) := by decide +kernel
theorem dX12_later_13 : decode MX12_later.2.1 13 = .ok (.iload_n 2, 1) := by decide +kernel
theorem dX12_later_14 : decode MX12_later.2.1 14 = .ok (.iconst 0, 1) := by decide +kernel
theorem dX12_later_15 : decode MX12_later.2.1 15 = .ok (.bipush 99, 2) := by decide +kernel
theorem dX12_later_17 : decode MX12_later.2.1 17 = .ok (.invokestatic 95, 3) := by decide +kernel
theorem dX12_later_20 : decode MX12_later.2.1 20 = .ok (.ifCond .ne 5, 3) := by decide +kernel
theorem dX12_later_23 : decode MX12_later.2.1 23 = .ok (.iconst (-1), 1) := by decide +kernel
theorem dX12_later_24 : decode MX12_later.2.1 24 = .ok (.ireturn, 1) := by decide +kernel
theorem dX12_later_25 : decode MX12_later.2.1 25 = .ok (.aload_n 0, 1) := by decide +kernel
theorem dX12_later_26 : decode MX12_later.2.1 26 = .ok (.getfield 9, 3) := by decide +kernel
theorem dX12_later_29 : decode MX12_later.2.1 29 = .ok (.aload_n 0, 1) := by decide +kernel
theorem dX12_later_30 : decode MX12_later.2.1 30 = .ok (.getfield 39, 3) := by decide +kernel
theorem dX12_later_33 : decode MX12_later.2.1 33 = .ok (.iconst 0, 1) := by decide +kernel
theorem dX12_later_34 : decode MX12_later.2.1 34 = .ok (.invokestatic 223, 3) := by decide +kernel
theorem dX12_later_37 : decode MX12_later.2.1 37 = .ok (.aload_n 0, 1) := by decide +kernel
theorem dX12_later_38 : decode MX12_later.2.1 38 = .ok (.aload_n 0, 1) := by decide +kernel
theorem dX12_later_39 : decode MX12_later.2.1 39 = .ok (.getfield 39, 3) := by decide +kernel
theorem dX12_later_42 : decode MX12_later.2.1 42 = .ok (.iload_n 2, 1) := by decide +kernel
theorem dX12_later_43 : decode MX12_later.2.1 43 = .ok (.invokevirtual 250, 3) := by decide +kernel
theorem dX12_later_46 : decode MX12_later.2.1 46 = .ok (.pop, 1) := by decide +kernel
theorem dX12_later_47 : decode MX12_later.2.1 47 = .ok (.aload_n 0, 1) := by decide +kernel
theorem dX12_later_48 : decode MX12_later.2.1 48 = .ok (.iconst 0, 1) := by decide +kernel
theorem dX12_later_49 : decode MX12_later.2.1 49 = .ok (.putfield 89, 3) := by decide +kernel
theorem dX12_later_52 : decode MX12_later.2.1 52 = .ok (.iconst 0, 1) := by decide +kernel
theorem dX12_later_53 : decode MX12_later.2.1 53 = .ok (.istore_n 3, 1) := by decide +kernel
theorem dX12_later_54 : decode MX12_later.2.1 54 = .ok (.iload_n 3, 1) := by decide +kernel
theorem dX12_later_55 : decode MX12_later.2.1 55 = .ok (.aload_n 0, 1) := by decide +kernel
theorem dX12_later_56 : decode MX12_later.2.1 56 = .ok (.getfield 92, 3) := by decide +kernel
theorem dX12_later_59 : decode MX12_later.2.1 59 = .ok (.if_icmp .ge 23, 3) := by decide +kernel
theorem dX12_later_62 : decode MX12_later.2.1 62 = .ok (.aload_n 0, 1) := by decide +kernel
theorem dX12_later_63 : decode MX12_later.2.1 63 = .ok (.aload_n 0, 1) := by decide +kernel
theorem dX12_later_64 : decode MX12_later.2.1 64 = .ok (.getfield 39, 3) := by decide +kernel
theorem dX12_later_67 : decode MX12_later.2.1 67 = .ok (.bipush 42, 2) := by decide +kernel
theorem dX12_later_69 : decode MX12_later.2.1 69 = .ok (.iload_n 3, 1) := by decide +kernel
theorem dX12_later_70 : decode MX12_later.2.1 70 = .ok (.iadd, 1) := by decide +kernel
theorem dX12_later_71 : decode MX12_later.2.1 71 = .ok (.iaload, 1) := by decide +kernel
theorem dX12_later_72 : decode MX12_later.2.1 72 = .ok (.i2l, 1) := by decide +kernel
theorem dX12_later_73 : decode MX12_later.2.1 73 = .ok (.invokevirtual 253, 3) := by decide +kernel
theorem dX12_later_76 : decode MX12_later.2.1 76 = .ok (.iinc 3 1, 3) := by decide +kernel
theorem dX12_later_79 : decode MX12_later.2.1 79 = .ok (.goto (-25), 3) := by decide +kernel
theorem dX12_later_82 : decode MX12_later.2.1 82 = .ok (.aload_n 0, 1) := by decide +kernel
theorem dX12_later_83 : decode MX12_later.2.1 83 = .ok (.getfield 39, 3) := by decide +kernel
theorem dX12_later_86 : decode MX12_later.2.1 86 = .ok (.bipush 42, 2) := by decide +kernel
theorem dX12_later_88 : decode MX12_later.2.1 88 = .ok (.iload_n 1, 1) := by decide +kernel
theorem dX12_later_89 : decode MX12_later.2.1 89 = .ok (.iadd, 1) := by decide +kernel
theorem dX12_later_90 : decode MX12_later.2.1 90 = .ok (.iaload, 1) := by decide +kernel
theorem dX12_later_91 : decode MX12_later.2.1 91 = .ok (.ireturn, 1) := by decide +kernel
theorem dX12_most_0 : decode MX12_most.2.1 0 = .ok (.aload_n 0, 1) := by decide +kernel
theorem dX12_most_1 : decode MX12_most.2.1 1 = .ok (.iconst 0, 1) := by decide +kernel
theorem dX12_most_2 : decode MX12_most.2.1 2 = .ok (.putfield 85, 3) := by decide +kernel
theorem dX12_most_5 : decode MX12_most.2.1 5 = .ok (.iload_n 1, 1) := by decide +kernel
theorem dX12_most_6 : decode MX12_most.2.1 6 = .ok (.iconst 0, 1) := by decide +kernel
theorem dX12_most_7 : decode MX12_most.2.1 7 = .ok (.bipush 99, 2) := by decide +kernel
theorem dX12_most_9 : decode MX12_most.2.1 9 = .ok (.invokestatic 95, 3) := by decide +kernel
theorem dX12_most_12 : decode MX12_most.2.1 12 = .ok (.ifCond .ne 5, 3) := by decide +kernel
theorem dX12_most_15 : decode MX12_most.2.1 15 = .ok (.iconst (-1), 1) := by decide +kernel
theorem dX12_most_16 : decode MX12_most.2.1 16 = .ok (.ireturn, 1) := by decide +kernel
theorem dX12_most_17 : decode MX12_most.2.1 17 = .ok (.aload_n 0, 1) := by decide +kernel
theorem dX12_most_18 : decode MX12_most.2.1 18 = .ok (.getfield 92, 3) := by decide +kernel
theorem dX12_most_21 : decode MX12_most.2.1 21 = .ok (.ifCond .ne 6, 3) := by decide +kernel
theorem dX12_most_24 : decode MX12_most.2.1 24 = .ok (.bipush (-2), 2) := by decide +kernel
theorem dX12_most_26 : decode MX12_most.2.1 26 = .ok (.ireturn, 1) := by decide +kernel
theorem dX12_most_27 : decode MX12_most.2.1 27 = .ok (.aload_n 0, 1) := by decide +kernel
theorem dX12_most_28 : decode MX12_most.2.1 28 = .ok (.getfield 9, 3) := by decide +kernel
theorem dX12_most_31 : decode MX12_most.2.1 31 = .ok (.aload_n 0, 1) := by decide +kernel
theorem dX12_most_32 : decode MX12_most.2.1 32 = .ok (.getfield 39, 3) := by decide +kernel
theorem dX12_most_35 : decode MX12_most.2.1 35 = .ok (.iconst 0, 1) := by decide +kernel
theorem dX12_most_36 : decode MX12_most.2.1 36 = .ok (.invokestatic 223, 3) := by decide +kernel
theorem dX12_most_39 : decode MX12_most.2.1 39 = .ok (.aload_n 0, 1) := by decide +kernel
theorem dX12_most_40 : decode MX12_most.2.1 40 = .ok (.aload_n 0, 1) := by decide +kernel
theorem dX12_most_41 : decode MX12_most.2.1 41 = .ok (.getfield 39, 3) := by decide +kernel
theorem dX12_most_44 : decode MX12_most.2.1 44 = .ok (.iload_n 1, 1) := by decide +kernel
theorem dX12_most_45 : decode MX12_most.2.1 45 = .ok (.invokevirtual 250, 3) := by decide +kernel
theorem dX12_most_48 : decode MX12_most.2.1 48 = .ok (.pop, 1) := by decide +kernel
theorem dX12_most_49 : decode MX12_most.2.1 49 = .ok (.iconst 0, 1) := by decide +kernel
theorem dX12_most_50 : decode MX12_most.2.1 50 = .ok (.istore_n 2, 1) := by decide +kernel
theorem dX12_most_51 : decode MX12_most.2.1 51 = .ok (.iconst 0, 1) := by decide +kernel
theorem dX12_most_52 : decode MX12_most.2.1 52 = .ok (.istore_n 3, 1) := by decide +kernel
theorem dX12_most_53 : decode MX12_most.2.1 53 = .ok (.iconst 1, 1) := by decide +kernel
theorem dX12_most_54 : decode MX12_most.2.1 54 = .ok (.istore 4, 2) := by decide +kernel
theorem dX12_most_56 : decode MX12_most.2.1 56 = .ok (.iload 4, 2) := by decide +kernel
theorem dX12_most_58 : decode MX12_most.2.1 58 = .ok (.aload_n 0, 1) := by decide +kernel
theorem dX12_most_59 : decode MX12_most.2.1 59 = .ok (.getfield 92, 3) := by decide +kernel
theorem dX12_most_62 : decode MX12_most.2.1 62 = .ok (.if_icmp .ge 67, 3) := by decide +kernel
theorem dX12_most_65 : decode MX12_most.2.1 65 = .ok (.aload_n 0, 1) := by decide +kernel
theorem dX12_most_66 : decode MX12_most.2.1 66 = .ok (.getfield 39, 3) := by decide +kernel
theorem dX12_most_69 : decode MX12_most.2.1 69 = .ok (.bipush 42, 2) := by decide +kernel
theorem dX12_most_71 : decode MX12_most.2.1 71 = .ok (.iload 4, 2) := by decide +kernel
theorem dX12_most_73 : decode MX12_most.2.1 73 = .ok (.iadd, 1) := by decide +kernel
theorem dX12_most_74 : decode MX12_most.2.1 74 = .ok (.iaload, 1) := by decide +kernel
theorem dX12_most_75 : decode MX12_most.2.1 75 = .ok (.aload_n 0, 1) := by decide +kernel
theorem dX12_most_76 : decode MX12_most.2.1 76 = .ok (.getfield 39, 3) := by decide +kernel
theorem dX12_most_79 : decode MX12_most.2.1 79 = .ok (.bipush 42, 2) := by decide +kernel
theorem dX12_most_81 : decode MX12_most.2.1 81 = .ok (.iload_n 2, 1) := by decide +kernel
theorem dX12_most_82 : decode MX12_most.2.1 82 = .ok (.iadd, 1) := by decide +kernel
theorem dX12_most_83 : decode MX12_most.2.1 83 = .ok (.iaload, 1) := by decide +kernel
theorem dX12_most_84 : decode MX12_most.2.1 84 = .ok (.if_icmp .le 8, 3) := by decide +kernel
theorem dX12_most_87 : decode MX12_most.2.1 87 = .ok (.iload 4, 2) := by decide +kernel
theorem dX12_most_89 : decode MX12_most.2.1 89 = .ok (.goto 4, 3) := by decide +kernel
theorem dX12_most_92 : decode MX12_most.2.1 92 = .ok (.iload_n 2, 1) := by decide +kernel
theorem dX12_most_93 : decode MX12_most.2.1 93 = .ok (.istore_n 2, 1) := by decide +kernel
theorem dX12_most_94 : decode MX12_most.2.1 94 = .ok (.aload_n 0, 1) := by decide +kernel
theorem dX12_most_95 : decode MX12_most.2.1 95 = .ok (.getfield 39, 3) := by decide +kernel
theorem dX12_most_98 : decode MX12_most.2.1 98 = .ok (.bipush 42, 2) := by decide +kernel
theorem dX12_most_100 : decode MX12_most.2.1 100 = .ok (.iload 4, 2) := by decide +kernel
theorem dX12_most_102 : decode MX12_most.2.1 102 = .ok (.iadd, 1) := by decide +kernel
theorem dX12_most_103 : decode MX12_most.2.1 103 = .ok (.iaload, 1) := by decide +kernel
theorem dX12_most_104 : decode MX12_most.2.1 104 = .ok (.aload_n 0, 1) := by decide +kernel
theorem dX12_most_105 : decode MX12_most.2.1 105 = .ok (.getfield 39, 3) := by decide +kernel
theorem dX12_most_108 : decode MX12_most.2.1 108 = .ok (.bipush 42, 2) := by decide +kernel
theorem dX12_most_110 : decode MX12_most.2.1 110 = .ok (.iload_n 3, 1) := by decide +kernel
theorem dX12_most_111 : decode MX12_most.2.1 111 = .ok (.iadd, 1) := by decide +kernel
theorem dX12_most_112 : decode MX12_most.2.1 112 = .ok (.iaload, 1) := by decide +kernel
theorem dX12_most_113 : decode MX12_most.2.1 113 = .ok (.if_icmp .ge 8, 3) := by decide +kernel
theorem dX12_most_116 : decode MX12_most.2.1 116 = .ok (.iload 4, 2) := by decide +kernel
theorem dX12_most_118 : decode MX12_most.2.1 118 = .ok (.goto 4, 3) := by decide +kernel
theorem dX12_most_121 : decode MX12_most.2.1 121 = .ok (.iload_n 3, 1) := by decide +kernel
theorem dX12_most_122 : decode MX12_most.2.1 122 = .ok (.istore_n 3, 1) := by decide +kernel
theorem dX12_most_123 : decode MX12_most.2.1 123 = .ok (.iinc 4 1, 3) := by decide +kernel
theorem dX12_most_126 : decode MX12_most.2.1 126 = .ok (.goto (-70), 3) := by decide +kernel
theorem dX12_most_129 : decode MX12_most.2.1 129 = .ok (.aload_n 0, 1) := by decide +kernel
theorem dX12_most_130 : decode MX12_most.2.1 130 = .ok (.iconst 0, 1) := by decide +kernel
theorem dX12_most_131 : decode MX12_most.2.1 131 = .ok (.putfield 89, 3) := by decide +kernel
theorem dX12_most_134 : decode MX12_most.2.1 134 = .ok (.aload_n 0, 1) := by decide +kernel
theorem dX12_most_135 : decode MX12_most.2.1 135 = .ok (.aload_n 0, 1) := by decide +kernel
theorem dX12_most_136 : decode MX12_most.2.1 136 = .ok (.getfield 39, 3) := by decide +kernel
theorem dX12_most_139 : decode MX12_most.2.1 139 = .ok (.bipush 42, 2) := by decide +kernel
theorem dX12_most_141 : decode MX12_most.2.1 141 = .ok (.iload_n 2, 1) := by decide +kernel
theorem dX12_most_142 : decode MX12_most.2.1 142 = .ok (.iadd, 1) := by decide +kernel
theorem dX12_most_143 : decode MX12_most.2.1 143 = .ok (.iaload, 1) := by decide +kernel
theorem dX12_most_144 : decode MX12_most.2.1 144 = .ok (.i2l, 1) := by decide +kernel
theorem dX12_most_145 : decode MX12_most.2.1 145 = .ok (.invokevirtual 253, 3) := by decide +kernel
theorem dX12_most_148 : decode MX12_most.2.1 148 = .ok (.aload_n 0, 1) := by decide +kernel
theorem dX12_most_149 : decode MX12_most.2.1 149 = .ok (.iload_n 3, 1) := by decide +kernel
theorem dX12_most_150 : decode MX12_most.2.1 150 = .ok (.i2l, 1) := by decide +kernel
theorem dX12_most_151 : decode MX12_most.2.1 151 = .ok (.invokevirtual 253, 3) := by decide +kernel
theorem dX12_most_154 : decode MX12_most.2.1 154 = .ok (.iload_n 2, 1) := by decide +kernel
theorem dX12_most_155 : decode MX12_most.2.1 155 = .ok (.ireturn, 1) := by decide +kernel
theorem dX12_longest_0 : decode MX12_longest.2.1 0 = .ok (.aload_n 0, 1) := by decide +kernel
theorem dX12_longest_1 : decode MX12_longest.2.1 1 = .ok (.iconst 0, 1) := by decide +kernel
theorem dX12_longest_2 : decode MX12_longest.2.1 2 = .ok (.putfield 85, 3) := by decide +kernel
theorem dX12_longest_5 : decode MX12_longest.2.1 5 = .ok (.aload_n 0, 1) := by decide +kernel
theorem dX12_longest_6 : decode MX12_longest.2.1 6 = .ok (.iload_n 1, 1) := by decide +kernel
theorem dX12_longest_7 : decode MX12_longest.2.1 7 = .ok (.invokevirtual 99, 3) := by decide +kernel
theorem dX12_longest_10 : decode MX12_longest.2.1 10 = .ok (.ifCond .ne 5, 3) := by decide +kernel
theorem dX12_longest_13 : decode MX12_longest.2.1 13 = .ok (.iconst (-1), 1) := by decide +kernel
theorem dX12_longest_14 : decode MX12_longest.2.1 14 = .ok (.ireturn, 1) := by decide +kernel
theorem dX12_longest_15 : decode MX12_longest.2.1 15 = .ok (.aload_n 0, 1) := by decide +kernel
theorem dX12_longest_16 : decode MX12_longest.2.1 16 = .ok (.getfield 9, 3) := by decide +kernel
theorem dX12_longest_19 : decode MX12_longest.2.1 19 = .ok (.bipush 54, 2) := by decide +kernel
theorem dX12_longest_21 : decode MX12_longest.2.1 21 = .ok (.iload_n 1, 1) := by decide +kernel
theorem dX12_longest_22 : decode MX12_longest.2.1 22 = .ok (.iadd, 1) := by decide +kernel
theorem dX12_longest_23 : decode MX12_longest.2.1 23 = .ok (.iaload, 1) := by decide +kernel
theorem dX12_longest_24 : decode MX12_longest.2.1 24 = .ok (.ifCond .le 6, 3) := by decide +kernel
theorem dX12_longest_27 : decode MX12_longest.2.1 27 = .ok (.bipush (-2), 2) := by decide +kernel
theorem dX12_longest_29 : decode MX12_longest.2.1 29 = .ok (.ireturn, 1) := by decide +kernel
theorem dX12_longest_30 : decode MX12_longest.2.1 30 = .ok (.iconst 0, 1) := by decide +kernel
theorem dX12_longest_31 : decode MX12_longest.2.1 31 = .ok (.istore_n 2, 1) := by decide +kernel
theorem dX12_longest_32 : decode MX12_longest.2.1 32 = .ok (.iconst (-1), 1) := by decide +kernel
theorem dX12_longest_33 : decode MX12_longest.2.1 33 = .ok (.istore_n 3, 1) := by decide +kernel
theorem dX12_longest_34 : decode MX12_longest.2.1 34 = .ok (.iconst 1, 1) := by decide +kernel
theorem dX12_longest_35 : decode MX12_longest.2.1 35 = .ok (.istore 4, 2) := by decide +kernel
theorem dX12_longest_37 : decode MX12_longest.2.1 37 = .ok (.iload 4, 2) := by decide +kernel
theorem dX12_longest_39 : decode MX12_longest.2.1 39 = .ok (.bipush 9, 2) := by decide +kernel
theorem dX12_longest_41 : decode MX12_longest.2.1 41 = .ok (.if_icmp .gt 71, 3) := by decide +kernel
theorem dX12_longest_44 : decode MX12_longest.2.1 44 = .ok (.aload_n 0, 1) := by decide +kernel
theorem dX12_longest_45 : decode MX12_longest.2.1 45 = .ok (.getfield 9, 3) := by decide +kernel
theorem dX12_longest_48 : decode MX12_longest.2.1 48 = .ok (.aload_n 0, 1) := by decide +kernel
theorem dX12_longest_49 : decode MX12_longest.2.1 49 = .ok (.getfield 39, 3) := by decide +kernel
theorem dX12_longest_52 : decode MX12_longest.2.1 52 = .ok (.iconst 0, 1) := by decide +kernel
theorem dX12_longest_53 : decode MX12_longest.2.1 53 = .ok (.invokestatic 223, 3) := by decide +kernel
theorem dX12_longest_56 : decode MX12_longest.2.1 56 = .ok (.aload_n 0, 1) := by decide +kernel
theorem dX12_longest_57 : decode MX12_longest.2.1 57 = .ok (.getfield 39, 3) := by decide +kernel
theorem dX12_longest_60 : decode MX12_longest.2.1 60 = .ok (.iload_n 1, 1) := by decide +kernel
theorem dX12_longest_61 : decode MX12_longest.2.1 61 = .ok (.iload 4, 2) := by decide +kernel
theorem dX12_longest_63 : decode MX12_longest.2.1 63 = .ok (.invokestatic 263, 3) := by decide +kernel
theorem dX12_longest_66 : decode MX12_longest.2.1 66 = .ok (.aload_n 0, 1) := by decide +kernel
theorem dX12_longest_67 : decode MX12_longest.2.1 67 = .ok (.aload_n 0, 1) := by decide +kernel
theorem dX12_longest_68 : decode MX12_longest.2.1 68 = .ok (.getfield 39, 3) := by decide +kernel
theorem dX12_longest_71 : decode MX12_longest.2.1 71 = .ok (.bipush 12, 2) := by decide +kernel
theorem dX12_longest_73 : decode MX12_longest.2.1 73 = .ok (.invokevirtual 250, 3) := by decide +kernel
theorem dX12_longest_76 : decode MX12_longest.2.1 76 = .ok (.pop, 1) := by decide +kernel
theorem dX12_longest_77 : decode MX12_longest.2.1 77 = .ok (.aload_n 0, 1) := by decide +kernel
theorem dX12_longest_78 : decode MX12_longest.2.1 78 = .ok (.getfield 39, 3) := by decide +kernel
theorem dX12_longest_81 : decode MX12_longest.2.1 81 = .ok (.bipush 42, 2) := by decide +kernel
theorem dX12_longest_83 : decode MX12_longest.2.1 83 = .ok (.iload_n 1, 1) := by decide +kernel
theorem dX12_longest_84 : decode MX12_longest.2.1 84 = .ok (.iadd, 1) := by decide +kernel
theorem dX12_longest_85 : decode MX12_longest.2.1 85 = .ok (.iaload, 1) := by decide +kernel
theorem dX12_longest_86 : decode MX12_longest.2.1 86 = .ok (.iload_n 3, 1) := by decide +kernel
theorem dX12_longest_87 : decode MX12_longest.2.1 87 = .ok (.if_icmp .gt 6, 3) := by decide +kernel
theorem dX12_longest_90 : decode MX12_longest.2.1 90 = .ok (.goto 16, 3) := by decide +kernel
theorem dX12_longest_93 : decode MX12_longest.2.1 93 = .ok (.iload 4, 2) := by decide +kernel
theorem dX12_longest_95 : decode MX12_longest.2.1 95 = .ok (.istore_n 2, 1) := by decide +kernel
theorem dX12_longest_96 : decode MX12_longest.2.1 96 = .ok (.aload_n 0, 1) := by decide +kernel
theorem dX12_longest_97 : decode MX12_longest.2.1 97 = .ok (.getfield 39, 3) := by decide +kernel
theorem dX12_longest_100 : decode MX12_longest.2.1 100 = .ok (.bipush 42, 2) := by decide +kernel
theorem dX12_longest_102 : decode MX12_longest.2.1 102 = .ok (.iload_n 1, 1) := by decide +kernel
theorem dX12_longest_103 : decode MX12_longest.2.1 103 = .ok (.iadd, 1) := by decide +kernel
theorem dX12_longest_104 : decode MX12_longest.2.1 104 = .ok (.iaload, 1) := by decide +kernel
theorem dX12_longest_105 : decode MX12_longest.2.1 105 = .ok (.istore_n 3, 1) := by decide +kernel
theorem dX12_longest_106 : decode MX12_longest.2.1 106 = .ok (.iinc 4 1, 3) := by decide +kernel
theorem dX12_longest_109 : decode MX12_longest.2.1 109 = .ok (.goto (-72), 3) := by decide +kernel
theorem dX12_longest_112 : decode MX12_longest.2.1 112 = .ok (.aload_n 0, 1) := by decide +kernel
theorem dX12_longest_113 : decode MX12_longest.2.1 113 = .ok (.getfield 9, 3) := by decide +kernel
theorem dX12_longest_116 : decode MX12_longest.2.1 116 = .ok (.aload_n 0, 1) := by decide +kernel
theorem dX12_longest_117 : decode MX12_longest.2.1 117 = .ok (.getfield 39, 3) := by decide +kernel
theorem dX12_longest_120 : decode MX12_longest.2.1 120 = .ok (.iconst 0, 1) := by decide +kernel
theorem dX12_longest_121 : decode MX12_longest.2.1 121 = .ok (.invokestatic 223, 3) := by decide +kernel
theorem dX12_longest_124 : decode MX12_longest.2.1 124 = .ok (.aload_n 0, 1) := by decide +kernel
theorem dX12_longest_125 : decode MX12_longest.2.1 125 = .ok (.aload_n 0, 1) := by decide +kernel
theorem dX12_longest_126 : decode MX12_longest.2.1 126 = .ok (.getfield 39, 3) := by decide +kernel
theorem dX12_longest_129 : decode MX12_longest.2.1 129 = .ok (.bipush 12, 2) := by decide +kernel
theorem dX12_longest_131 : decode MX12_longest.2.1 131 = .ok (.invokevirtual 250, 3) := by decide +kernel
theorem dX12_longest_134 : decode MX12_longest.2.1 134 = .ok (.pop, 1) := by decide +kernel
theorem dX12_longest_135 : decode MX12_longest.2.1 135 = .ok (.aload_n 0, 1) := by decide +kernel
theorem dX12_longest_136 : decode MX12_longest.2.1 136 = .ok (.iconst 0, 1) := by decide +kernel
theorem dX12_longest_137 : decode MX12_longest.2.1 137 = .ok (.putfield 89, 3) := by decide +kernel
theorem dX12_longest_140 : decode MX12_longest.2.1 140 = .ok (.aload_n 0, 1) := by decide +kernel
theorem dX12_longest_141 : decode MX12_longest.2.1 141 = .ok (.iload_n 3, 1) := by decide +kernel
theorem dX12_longest_142 : decode MX12_longest.2.1 142 = .ok (.i2l, 1) := by decide +kernel
theorem dX12_longest_143 : decode MX12_longest.2.1 143 = .ok (.invokevirtual 253, 3) := by decide +kernel
theorem dX12_longest_146 : decode MX12_longest.2.1 146 = .ok (.aload_n 0, 1) := by decide +kernel
theorem dX12_longest_147 : decode MX12_longest.2.1 147 = .ok (.aload_n 0, 1) := by decide +kernel
theorem dX12_longest_148 : decode MX12_longest.2.1 148 = .ok (.getfield 39, 3) := by decide +kernel
theorem dX12_longest_151 : decode MX12_longest.2.1 151 = .ok (.bipush 42, 2) := by decide +kernel
theorem dX12_longest_153 : decode MX12_longest.2.1 153 = .ok (.iload_n 1, 1) := by decide +kernel
theorem dX12_longest_154 : decode MX12_longest.2.1 154 = .ok (.iadd, 1) := by decide +kernel
theorem dX12_longest_155 : decode MX12_longest.2.1 155 = .ok (.iaload, 1) := by decide +kernel
theorem dX12_longest_156 : decode MX12_longest.2.1 156 = .ok (.i2l, 1) := by decide +kernel
theorem dX12_longest_157 : decode MX12_longest.2.1 157 = .ok (.invokevirtual 253, 3) := by decide +kernel
theorem dX12_longest_160 : decode MX12_longest.2.1 160 = .ok (.iload_n 2, 1) := by decide +kernel
theorem dX12_longest_161 : decode MX12_longest.2.1 161 = .ok (.ireturn, 1) := by decide +kernel
theorem dX12_together_0 : decode MX12_together.2.1 0 = .ok (.aload_n 0, 1) := by decide +kernel
theorem dX12_together_1 : decode MX12_together.2.1 1 = .ok (.iconst 0, 1) := by decide +kernel
theorem dX12_together_2 : decode MX12_together.2.1 2 = .ok (.putfield 85, 3) := by decide +kernel
theorem dX12_together_5 : decode MX12_together.2.1 5 = .ok (.iload_n 1, 1) := by decide +kernel
theorem dX12_together_6 : decode MX12_together.2.1 6 = .ok (.iconst 1, 1) := by decide +kernel
theorem dX12_together_7 : decode MX12_together.2.1 7 = .ok (.bipush 9, 2) := by decide +kernel
theorem dX12_together_9 : decode MX12_together.2.1 9 = .ok (.invokestatic 95, 3) := by decide +kernel
theorem dX12_together_12 : decode MX12_together.2.1 12 = .ok (.ifCond .ne 5, 3) := by decide +kernel
theorem dX12_together_15 : decode MX12_together.2.1 15 = .ok (.iconst (-1), 1) := by decide +kernel
theorem dX12_together_16 : decode MX12_together.2.1 16 = .ok (.ireturn, 1) := by decide +kernel
theorem dX12_together_17 : decode MX12_together.2.1 17 = .ok (.aload_n 0, 1) := by decide +kernel
theorem dX12_together_18 : decode MX12_together.2.1 18 = .ok (.aload_n 0, 1) := by decide +kernel
theorem dX12_together_19 : decode MX12_together.2.1 19 = .ok (.getfield 9, 3) := by decide +kernel
theorem dX12_together_22 : decode MX12_together.2.1 22 = .ok (.invokevirtual 235, 3) := by decide +kernel
theorem dX12_together_25 : decode MX12_together.2.1 25 = .ok (.istore_n 2, 1) := by decide +kernel
theorem dX12_together_26 : decode MX12_together.2.1 26 = .ok (.iconst 0, 1) := by decide +kernel
theorem dX12_together_27 : decode MX12_together.2.1 27 = .ok (.istore_n 3, 1) := by decide +kernel
theorem dX12_together_28 : decode MX12_together.2.1 28 = .ok (.iconst (-1), 1) := by decide +kernel
theorem dX12_together_29 : decode MX12_together.2.1 29 = .ok (.istore 4, 2) := by decide +kernel
theorem dX12_together_31 : decode MX12_together.2.1 31 = .ok (.iconst 0, 1) := by decide +kernel
theorem dX12_together_32 : decode MX12_together.2.1 32 = .ok (.istore 5, 2) := by decide +kernel
theorem dX12_together_34 : decode MX12_together.2.1 34 = .ok (.iload 5, 2) := by decide +kernel
theorem dX12_together_36 : decode MX12_together.2.1 36 = .ok (.aload_n 0, 1) := by decide +kernel
theorem dX12_together_37 : decode MX12_together.2.1 37 = .ok (.invokevirtual 293, 3) := by decide +kernel
theorem dX12_together_40 : decode MX12_together.2.1 40 = .ok (.if_icmp .gt 112, 3) := by decide +kernel
theorem dX12_together_43 : decode MX12_together.2.1 43 = .ok (.iload 5, 2) := by decide +kernel
theorem dX12_together_45 : decode MX12_together.2.1 45 = .ok (.iload_n 2, 1) := by decide +kernel
theorem dX12_together_46 : decode MX12_together.2.1 46 = .ok (.iand, 1) := by decide +kernel
theorem dX12_together_47 : decode MX12_together.2.1 47 = .ok (.ifCond .eq 6, 3) := by decide +kernel
theorem dX12_together_50 : decode MX12_together.2.1 50 = .ok (.goto 96, 3) := by decide +kernel
theorem dX12_together_53 : decode MX12_together.2.1 53 = .ok (.aload_n 0, 1) := by decide +kernel
theorem dX12_together_54 : decode MX12_together.2.1 54 = .ok (.getfield 9, 3) := by decide +kernel
theorem dX12_together_57 : decode MX12_together.2.1 57 = .ok (.aload_n 0, 1) := by decide +kernel
theorem dX12_together_58 : decode MX12_together.2.1 58 = .ok (.getfield 39, 3) := by decide +kernel
theorem dX12_together_61 : decode MX12_together.2.1 61 = .ok (.iconst 0, 1) := by decide +kernel
theorem dX12_together_62 : decode MX12_together.2.1 62 = .ok (.invokestatic 223, 3) := by decide +kernel
theorem dX12_together_65 : decode MX12_together.2.1 65 = .ok (.iconst 0, 1) := by decide +kernel
theorem dX12_together_66 : decode MX12_together.2.1 66 = .ok (.istore 6, 2) := by decide +kernel
theorem dX12_together_68 : decode MX12_together.2.1 68 = .ok (.iload 6, 2) := by decide +kernel
theorem dX12_together_70 : decode MX12_together.2.1 70 = .ok (.aload_n 0, 1) := by decide +kernel
theorem dX12_together_71 : decode MX12_together.2.1 71 = .ok (.getfield 92, 3) := by decide +kernel
theorem dX12_together_74 : decode MX12_together.2.1 74 = .ok (.if_icmp .ge 29, 3) := by decide +kernel
theorem dX12_together_77 : decode MX12_together.2.1 77 = .ok (.iload 5, 2) := by decide +kernel
theorem dX12_together_79 : decode MX12_together.2.1 79 = .ok (.iload 6, 2) := by decide +kernel
theorem dX12_together_81 : decode MX12_together.2.1 81 = .ok (.invokestatic 227, 3) := by decide +kernel
theorem dX12_together_84 : decode MX12_together.2.1 84 = .ok (.ifCond .eq 13, 3) := by decide +kernel
theorem dX12_together_87 : decode MX12_together.2.1 87 = .ok (.aload_n 0, 1) := by decide +kernel
theorem dX12_together_88 : decode MX12_together.2.1 88 = .ok (.getfield 39, 3) := by decide +kernel
theorem dX12_together_91 : decode MX12_together.2.1 91 = .ok (.iload 6, 2) := by decide +kernel
theorem dX12_together_93 : decode MX12_together.2.1 93 = .ok (.iload_n 1, 1) := by decide +kernel
theorem dX12_together_94 : decode MX12_together.2.1 94 = .ok (.invokestatic 263, 3) := by decide +kernel
theorem dX12_together_97 : decode MX12_together.2.1 97 = .ok (.iinc 6 1, 3) := by decide +kernel
theorem dX12_together_100 : decode MX12_together.2.1 100 = .ok (.goto (-32), 3) := by decide +kernel
theorem dX12_together_103 : decode MX12_together.2.1 103 = .ok (.aload_n 0, 1) := by decide +kernel
theorem dX12_together_104 : decode MX12_together.2.1 104 = .ok (.aload_n 0, 1) := by decide +kernel
theorem dX12_together_105 : decode MX12_together.2.1 105 = .ok (.getfield 39, 3) := by decide +kernel
theorem dX12_together_108 : decode MX12_together.2.1 108 = .ok (.iload_n 1, 1) := by decide +kernel
theorem dX12_together_109 : decode MX12_together.2.1 109 = .ok (.invokevirtual 250, 3) := by decide +kernel
theorem dX12_together_112 : decode MX12_together.2.1 112 = .ok (.pop, 1) := by decide +kernel
theorem dX12_together_113 : decode MX12_together.2.1 113 = .ok (.aload_n 0, 1) := by decide +kernel
theorem dX12_together_114 : decode MX12_together.2.1 114 = .ok (.aload_n 0, 1) := by decide +kernel
theorem dX12_together_115 : decode MX12_together.2.1 115 = .ok (.getfield 39, 3) := by decide +kernel
theorem dX12_together_118 : decode MX12_together.2.1 118 = .ok (.bipush 42, 2) := by decide +kernel
theorem dX12_together_120 : decode MX12_together.2.1 120 = .ok (.invokevirtual 220, 3) := by decide +kernel
theorem dX12_together_123 : decode MX12_together.2.1 123 = .ok (.iload 4, 2) := by decide +kernel
theorem dX12_together_125 : decode MX12_together.2.1 125 = .ok (.if_icmp .gt 6, 3) := by decide +kernel
theorem dX12_together_128 : decode MX12_together.2.1 128 = .ok (.goto 18, 3) := by decide +kernel
theorem dX12_together_131 : decode MX12_together.2.1 131 = .ok (.iload 5, 2) := by decide +kernel
theorem dX12_together_133 : decode MX12_together.2.1 133 = .ok (.istore_n 3, 1) := by decide +kernel
theorem dX12_together_134 : decode MX12_together.2.1 134 = .ok (.aload_n 0, 1) := by decide +kernel
theorem dX12_together_135 : decode MX12_together.2.1 135 = .ok (.aload_n 0, 1) := by decide +kernel
theorem dX12_together_136 : decode MX12_together.2.1 136 = .ok (.getfield 39, 3) := by decide +kernel
theorem dX12_together_139 : decode MX12_together.2.1 139 = .ok (.bipush 42, 2) := by decide +kernel
theorem dX12_together_141 : decode MX12_together.2.1 141 = .ok (.invokevirtual 220, 3) := by decide +kernel
theorem dX12_together_144 : decode MX12_together.2.1 144 = .ok (.istore 4, 2) := by decide +kernel
theorem dX12_together_146 : decode MX12_together.2.1 146 = .ok (.iinc 5 1, 3) := by decide +kernel
theorem dX12_together_149 : decode MX12_together.2.1 149 = .ok (.goto (-115), 3) := by decide +kernel
theorem dX12_together_152 : decode MX12_together.2.1 152 = .ok (.aload_n 0, 1) := by decide +kernel
theorem dX12_together_153 : decode MX12_together.2.1 153 = .ok (.iconst 0, 1) := by decide +kernel
theorem dX12_together_154 : decode MX12_together.2.1 154 = .ok (.putfield 89, 3) := by decide +kernel
theorem dX12_together_157 : decode MX12_together.2.1 157 = .ok (.aload_n 0, 1) := by decide +kernel
theorem dX12_together_158 : decode MX12_together.2.1 158 = .ok (.iload_n 3, 1) := by decide +kernel
theorem dX12_together_159 : decode MX12_together.2.1 159 = .ok (.i2l, 1) := by decide +kernel
theorem dX12_together_160 : decode MX12_together.2.1 160 = .ok (.invokevirtual 253, 3) := by decide +kernel
theorem dX12_together_163 : decode MX12_together.2.1 163 = .ok (.iload 4, 2) := by decide +kernel
theorem dX12_together_165 : decode MX12_together.2.1 165 = .ok (.ireturn, 1) := by decide +kernel
theorem dX12_fortune_0 : decode MX12_fortune.2.1 0 = .ok (.aload_n 1, 1) := by decide +kernel
theorem dX12_fortune_1 : decode MX12_fortune.2.1 1 = .ok (.bipush 36, 2) := by decide +kernel
theorem dX12_fortune_3 : decode MX12_fortune.2.1 3 = .ok (.iload_n 2, 1) := by decide +kernel
theorem dX12_fortune_4 : decode MX12_fortune.2.1 4 = .ok (.iadd, 1) := by decide +kernel
theorem dX12_fortune_5 : decode MX12_fortune.2.1 5 = .ok (.iaload, 1) := by decide +kernel
theorem dX12_fortune_6 : decode MX12_fortune.2.1 6 = .ok (.aload_n 0, 1) := by decide +kernel
theorem dX12_fortune_7 : decode MX12_fortune.2.1 7 = .ok (.aload_n 1, 1) := by decide +kernel
theorem dX12_fortune_8 : decode MX12_fortune.2.1 8 = .ok (.iload_n 2, 1) := by decide +kernel
theorem dX12_fortune_9 : decode MX12_fortune.2.1 9 = .ok (.invokevirtual 209, 3) := by decide +kernel
theorem dX12_fortune_12 : decode MX12_fortune.2.1 12 = .ok (.iadd, 1) := by decide +kernel
theorem dX12_fortune_13 : decode MX12_fortune.2.1 13 = .ok (.aload_n 0, 1) := by decide +kernel
theorem dX12_fortune_14 : decode MX12_fortune.2.1 14 = .ok (.aload_n 1, 1) := by decide +kernel
theorem dX12_fortune_15 : decode MX12_fortune.2.1 15 = .ok (.iload_n 2, 1) := by decide +kernel
theorem dX12_fortune_16 : decode MX12_fortune.2.1 16 = .ok (.invokevirtual 205, 3) := by decide +kernel
theorem dX12_fortune_19 : decode MX12_fortune.2.1 19 = .ok (.isub, 1) := by decide +kernel
theorem dX12_fortune_20 : decode MX12_fortune.2.1 20 = .ok (.ireturn, 1) := by decide +kernel
theorem dX12_heir_0 : decode MX12_heir.2.1 0 = .ok (.aload_n 0, 1) := by decide +kernel
theorem dX12_heir_1 : decode MX12_heir.2.1 1 = .ok (.iconst 0, 1) := by decide +kernel
theorem dX12_heir_2 : decode MX12_heir.2.1 2 = .ok (.putfield 85, 3) := by decide +kernel
theorem dX12_heir_5 : decode MX12_heir.2.1 5 = .ok (.aload_n 0, 1) := by decide +kernel
theorem dX12_heir_6 : decode MX12_heir.2.1 6 = .ok (.iload_n 1, 1) := by decide +kernel
theorem dX12_heir_7 : decode MX12_heir.2.1 7 = .ok (.invokevirtual 99, 3) := by decide +kernel
theorem dX12_heir_10 : decode MX12_heir.2.1 10 = .ok (.ifCond .eq 13, 3) := by decide +kernel
theorem dX12_heir_13 : decode MX12_heir.2.1 13 = .ok (.iload_n 2, 1) := by decide +kernel
theorem dX12_heir_14 : decode MX12_heir.2.1 14 = .ok (.iconst 1, 1) := by decide +kernel
theorem dX12_heir_15 : decode MX12_heir.2.1 15 = .ok (.bipush 9, 2) := by decide +kernel
theorem dX12_heir_17 : decode MX12_heir.2.1 17 = .ok (.invokestatic 95, 3) := by decide +kernel
theorem dX12_heir_20 : decode MX12_heir.2.1 20 = .ok (.ifCond .ne 5, 3) := by decide +kernel
theorem dX12_heir_23 : decode MX12_heir.2.1 23 = .ok (.iconst (-1), 1) := by decide +kernel
theorem dX12_heir_24 : decode MX12_heir.2.1 24 = .ok (.ireturn, 1) := by decide +kernel
theorem dX12_heir_25 : decode MX12_heir.2.1 25 = .ok (.bipush (-2), 2) := by decide +kernel
theorem dX12_heir_27 : decode MX12_heir.2.1 27 = .ok (.istore_n 3, 1) := by decide +kernel
theorem dX12_heir_28 : decode MX12_heir.2.1 28 = .ok (.ldc_w 296, 3) := by decide +kernel
theorem dX12_heir_31 : decode MX12_heir.2.1 31 = .ok (.istore 4, 2) := by decide +kernel
theorem dX12_heir_33 : decode MX12_heir.2.1 33 = .ok (.iconst 0, 1) := by decide +kernel
theorem dX12_heir_34 : decode MX12_heir.2.1 34 = .ok (.istore 5, 2) := by decide +kernel
theorem dX12_heir_36 : decode MX12_heir.2.1 36 = .ok (.iload 5, 2) := by decide +kernel
theorem dX12_heir_38 : decode MX12_heir.2.1 38 = .ok (.aload_n 0, 1) := by decide +kernel
theorem dX12_heir_39 : decode MX12_heir.2.1 39 = .ok (.getfield 92, 3) := by decide +kernel
theorem dX12_heir_42 : decode MX12_heir.2.1 42 = .ok (.if_icmp .ge 94, 3) := by decide +kernel
theorem dX12_heir_45 : decode MX12_heir.2.1 45 = .ok (.iload 5, 2) := by decide +kernel
theorem dX12_heir_47 : decode MX12_heir.2.1 47 = .ok (.iload_n 1, 1) := by decide +kernel
theorem dX12_heir_48 : decode MX12_heir.2.1 48 = .ok (.if_icmp .eq 82, 3) := by decide +kernel
theorem dX12_heir_51 : decode MX12_heir.2.1 51 = .ok (.aload_n 0, 1) := by decide +kernel
theorem dX12_heir_52 : decode MX12_heir.2.1 52 = .ok (.getfield 9, 3) := by decide +kernel
theorem dX12_heir_55 : decode MX12_heir.2.1 55 = .ok (.bipush 54, 2) := by decide +kernel
theorem dX12_heir_57 : decode MX12_heir.2.1 57 = .ok (.iload 5, 2) := by decide +kernel
theorem dX12_heir_59 : decode MX12_heir.2.1 59 = .ok (.iadd, 1) := by decide +kernel
theorem dX12_heir_60 : decode MX12_heir.2.1 60 = .ok (.iaload, 1) := by decide +kernel
theorem dX12_heir_61 : decode MX12_heir.2.1 61 = .ok (.ifCond .le 6, 3) := by decide +kernel
theorem dX12_heir_64 : decode MX12_heir.2.1 64 = .ok (.goto 66, 3) := by decide +kernel
theorem dX12_heir_67 : decode MX12_heir.2.1 67 = .ok (.aload_n 0, 1) := by decide +kernel
theorem dX12_heir_68 : decode MX12_heir.2.1 68 = .ok (.getfield 9, 3) := by decide +kernel
theorem dX12_heir_71 : decode MX12_heir.2.1 71 = .ok (.aload_n 0, 1) := by decide +kernel
theorem dX12_heir_72 : decode MX12_heir.2.1 72 = .ok (.getfield 39, 3) := by decide +kernel
theorem dX12_heir_75 : decode MX12_heir.2.1 75 = .ok (.iconst 0, 1) := by decide +kernel
theorem dX12_heir_76 : decode MX12_heir.2.1 76 = .ok (.invokestatic 223, 3) := by decide +kernel
theorem dX12_heir_79 : decode MX12_heir.2.1 79 = .ok (.aload_n 0, 1) := by decide +kernel
theorem dX12_heir_80 : decode MX12_heir.2.1 80 = .ok (.getfield 39, 3) := by decide +kernel
theorem dX12_heir_83 : decode MX12_heir.2.1 83 = .ok (.iload 5, 2) := by decide +kernel
theorem dX12_heir_85 : decode MX12_heir.2.1 85 = .ok (.iload_n 2, 1) := by decide +kernel
theorem dX12_heir_86 : decode MX12_heir.2.1 86 = .ok (.invokestatic 263, 3) := by decide +kernel
theorem dX12_heir_89 : decode MX12_heir.2.1 89 = .ok (.aload_n 0, 1) := by decide +kernel
theorem dX12_heir_90 : decode MX12_heir.2.1 90 = .ok (.aload_n 0, 1) := by decide +kernel
theorem dX12_heir_91 : decode MX12_heir.2.1 91 = .ok (.getfield 39, 3) := by decide +kernel
theorem dX12_heir_94 : decode MX12_heir.2.1 94 = .ok (.iload_n 2, 1) := by decide +kernel
theorem dX12_heir_95 : decode MX12_heir.2.1 95 = .ok (.invokevirtual 250, 3) := by decide +kernel
theorem dX12_heir_98 : decode MX12_heir.2.1 98 = .ok (.pop, 1) := by decide +kernel
theorem dX12_heir_99 : decode MX12_heir.2.1 99 = .ok (.aload_n 0, 1) := by decide +kernel
theorem dX12_heir_100 : decode MX12_heir.2.1 100 = .ok (.aload_n 0, 1) := by decide +kernel
theorem dX12_heir_101 : decode MX12_heir.2.1 101 = .ok (.getfield 39, 3) := by decide +kernel
theorem dX12_heir_104 : decode MX12_heir.2.1 104 = .ok (.iload_n 1, 1) := by decide +kernel
theorem dX12_heir_105 : decode MX12_heir.2.1 105 = .ok (.invokevirtual 297, 3) := by decide +kernel
theorem dX12_heir_108 : decode MX12_heir.2.1 108 = .ok (.iload 4, 2) := by decide +kernel
theorem dX12_heir_110 : decode MX12_heir.2.1 110 = .ok (.if_icmp .gt 6, 3) := by decide +kernel
theorem dX12_heir_113 : decode MX12_heir.2.1 113 = .ok (.goto 17, 3) := by decide +kernel
theorem dX12_heir_116 : decode MX12_heir.2.1 116 = .ok (.iload 5, 2) := by decide +kernel
theorem dX12_heir_118 : decode MX12_heir.2.1 118 = .ok (.istore_n 3, 1) := by decide +kernel
theorem dX12_heir_119 : decode MX12_heir.2.1 119 = .ok (.aload_n 0, 1) := by decide +kernel
theorem dX12_heir_120 : decode MX12_heir.2.1 120 = .ok (.aload_n 0, 1) := by decide +kernel
theorem dX12_heir_121 : decode MX12_heir.2.1 121 = .ok (.getfield 39, 3) := by decide +kernel
theorem dX12_heir_124 : decode MX12_heir.2.1 124 = .ok (.iload_n 1, 1) := by decide +kernel
theorem dX12_heir_125 : decode MX12_heir.2.1 125 = .ok (.invokevirtual 297, 3) := by decide +kernel
theorem dX12_heir_128 : decode MX12_heir.2.1 128 = .ok (.istore 4, 2) := by decide +kernel
theorem dX12_heir_130 : decode MX12_heir.2.1 130 = .ok (.iinc 5 1, 3) := by decide +kernel
theorem dX12_heir_133 : decode MX12_heir.2.1 133 = .ok (.goto (-97), 3) := by decide +kernel
theorem dX12_heir_136 : decode MX12_heir.2.1 136 = .ok (.iload_n 3, 1) := by decide +kernel
theorem dX12_heir_137 : decode MX12_heir.2.1 137 = .ok (.bipush (-2), 2) := by decide +kernel
theorem dX12_heir_139 : decode MX12_heir.2.1 139 = .ok (.if_icmp .ne 6, 3) := by decide +kernel
theorem dX12_heir_142 : decode MX12_heir.2.1 142 = .ok (.bipush (-2), 2) := by decide +kernel
theorem dX12_heir_144 : decode MX12_heir.2.1 144 = .ok (.ireturn, 1) := by decide +kernel
theorem dX12_heir_145 : decode MX12_heir.2.1 145 = .ok (.aload_n 0, 1) := by decide +kernel
theorem dX12_heir_146 : decode MX12_heir.2.1 146 = .ok (.getfield 9, 3) := by decide +kernel
theorem dX12_heir_149 : decode MX12_heir.2.1 149 = .ok (.aload_n 0, 1) := by decide +kernel
theorem dX12_heir_150 : decode MX12_heir.2.1 150 = .ok (.getfield 39, 3) := by decide +kernel
theorem dX12_heir_153 : decode MX12_heir.2.1 153 = .ok (.iconst 0, 1) := by decide +kernel
theorem dX12_heir_154 : decode MX12_heir.2.1 154 = .ok (.invokestatic 223, 3) := by decide +kernel
theorem dX12_heir_157 : decode MX12_heir.2.1 157 = .ok (.aload_n 0, 1) := by decide +kernel
theorem dX12_heir_158 : decode MX12_heir.2.1 158 = .ok (.aload_n 0, 1) := by decide +kernel
theorem dX12_heir_159 : decode MX12_heir.2.1 159 = .ok (.getfield 39, 3) := by decide +kernel
theorem dX12_heir_162 : decode MX12_heir.2.1 162 = .ok (.iload_n 2, 1) := by decide +kernel
theorem dX12_heir_163 : decode MX12_heir.2.1 163 = .ok (.invokevirtual 250, 3) := by decide +kernel
theorem dX12_heir_166 : decode MX12_heir.2.1 166 = .ok (.pop, 1) := by decide +kernel
theorem dX12_heir_167 : decode MX12_heir.2.1 167 = .ok (.aload_n 0, 1) := by decide +kernel
theorem dX12_heir_168 : decode MX12_heir.2.1 168 = .ok (.iconst 0, 1) := by decide +kernel
theorem dX12_heir_169 : decode MX12_heir.2.1 169 = .ok (.putfield 89, 3) := by decide +kernel
theorem dX12_heir_172 : decode MX12_heir.2.1 172 = .ok (.aload_n 0, 1) := by decide +kernel
theorem dX12_heir_173 : decode MX12_heir.2.1 173 = .ok (.sipush 1000, 3) := by decide +kernel
theorem dX12_heir_176 : decode MX12_heir.2.1 176 = .ok (.iload 4, 2) := by decide +kernel
theorem dX12_heir_178 : decode MX12_heir.2.1 178 = .ok (.iadd, 1) := by decide +kernel
theorem dX12_heir_179 : decode MX12_heir.2.1 179 = .ok (.i2l, 1) := by decide +kernel
theorem dX12_heir_180 : decode MX12_heir.2.1 180 = .ok (.invokevirtual 253, 3) := by decide +kernel
theorem dX12_heir_183 : decode MX12_heir.2.1 183 = .ok (.aload_n 0, 1) := by decide +kernel
theorem dX12_heir_184 : decode MX12_heir.2.1 184 = .ok (.sipush 1000, 3) := by decide +kernel
theorem dX12_heir_187 : decode MX12_heir.2.1 187 = .ok (.aload_n 0, 1) := by decide +kernel
theorem dX12_heir_188 : decode MX12_heir.2.1 188 = .ok (.aload_n 0, 1) := by decide +kernel
theorem dX12_heir_189 : decode MX12_heir.2.1 189 = .ok (.getfield 39, 3) := by decide +kernel
theorem dX12_heir_192 : decode MX12_heir.2.1 192 = .ok (.iload_n 1, 1) := by decide +kernel
theorem dX12_heir_193 : decode MX12_heir.2.1 193 = .ok (.invokevirtual 297, 3) := by decide +kernel
theorem dX12_heir_196 : decode MX12_heir.2.1 196 = .ok (.iadd, 1) := by decide +kernel
theorem dX12_heir_197 : decode MX12_heir.2.1 197 = .ok (.i2l, 1) := by decide +kernel
theorem dX12_heir_198 : decode MX12_heir.2.1 198 = .ok (.invokevirtual 253, 3) := by decide +kernel
theorem dX12_heir_201 : decode MX12_heir.2.1 201 = .ok (.iload_n 3, 1) := by decide +kernel
theorem dX12_heir_202 : decode MX12_heir.2.1 202 = .ok (.ireturn, 1) := by decide +kernel
theorem dX12_cellIn_0 : decode MX12_cellIn.2.1 0 = .ok (.iconst 0, 1) := by decide +kernel
theorem dX12_cellIn_1 : decode MX12_cellIn.2.1 1 = .ok (.istore_n 3, 1) := by decide +kernel
theorem dX12_cellIn_2 : decode MX12_cellIn.2.1 2 = .ok (.aload_n 0, 1) := by decide +kernel
theorem dX12_cellIn_3 : decode MX12_cellIn.2.1 3 = .ok (.getfield 9, 3) := by decide +kernel
theorem dX12_cellIn_6 : decode MX12_cellIn.2.1 6 = .ok (.aload_n 0, 1) := by decide +kernel
theorem dX12_cellIn_7 : decode MX12_cellIn.2.1 7 = .ok (.getfield 39, 3) := by decide +kernel
theorem dX12_cellIn_10 : decode MX12_cellIn.2.1 10 = .ok (.iconst 0, 1) := by decide +kernel
theorem dX12_cellIn_11 : decode MX12_cellIn.2.1 11 = .ok (.invokestatic 223, 3) := by decide +kernel
theorem dX12_cellIn_14 : decode MX12_cellIn.2.1 14 = .ok (.iconst 0, 1) := by decide +kernel
theorem dX12_cellIn_15 : decode MX12_cellIn.2.1 15 = .ok (.istore 4, 2) := by decide +kernel
theorem dX12_cellIn_17 : decode MX12_cellIn.2.1 17 = .ok (.iload 4, 2) := by decide +kernel
theorem dX12_cellIn_19 : decode MX12_cellIn.2.1 19 = .ok (.iload_n 2, 1) := by decide +kernel
theorem dX12_cellIn_20 : decode MX12_cellIn.2.1 20 = .ok (.if_icmp .ge 45, 3) := by decide +kernel
theorem dX12_cellIn_23 : decode MX12_cellIn.2.1 23 = .ok (.aload_n 0, 1) := by decide +kernel
theorem dX12_cellIn_24 : decode MX12_cellIn.2.1 24 = .ok (.getfield 39, 3) := by decide +kernel
theorem dX12_cellIn_27 : decode MX12_cellIn.2.1 27 = .ok (.iload_n 1, 1) := by decide +kernel
theorem dX12_cellIn_28 : decode MX12_cellIn.2.1 28 = .ok (.iaload, 1) := by decide +kernel
theorem dX12_cellIn_29 : decode MX12_cellIn.2.1 29 = .ok (.istore 5, 2) := by decide +kernel
theorem dX12_cellIn_31 : decode MX12_cellIn.2.1 31 = .ok (.aload_n 0, 1) := by decide +kernel
theorem dX12_cellIn_32 : decode MX12_cellIn.2.1 32 = .ok (.aload_n 0, 1) := by decide +kernel
theorem dX12_cellIn_33 : decode MX12_cellIn.2.1 33 = .ok (.getfield 39, 3) := by decide +kernel
theorem dX12_cellIn_36 : decode MX12_cellIn.2.1 36 = .ok (.invokevirtual 243, 3) := by decide +kernel
theorem dX12_cellIn_39 : decode MX12_cellIn.2.1 39 = .ok (.pop, 1) := by decide +kernel
theorem dX12_cellIn_40 : decode MX12_cellIn.2.1 40 = .ok (.iload_n 3, 1) := by decide +kernel
theorem dX12_cellIn_41 : decode MX12_cellIn.2.1 41 = .ok (.aload_n 0, 1) := by decide +kernel
theorem dX12_cellIn_42 : decode MX12_cellIn.2.1 42 = .ok (.getfield 39, 3) := by decide +kernel
theorem dX12_cellIn_45 : decode MX12_cellIn.2.1 45 = .ok (.iload_n 1, 1) := by decide +kernel
theorem dX12_cellIn_46 : decode MX12_cellIn.2.1 46 = .ok (.iaload, 1) := by decide +kernel
theorem dX12_cellIn_47 : decode MX12_cellIn.2.1 47 = .ok (.iload 5, 2) := by decide +kernel
theorem dX12_cellIn_49 : decode MX12_cellIn.2.1 49 = .ok (.if_icmp .ne 7, 3) := by decide +kernel
theorem dX12_cellIn_52 : decode MX12_cellIn.2.1 52 = .ok (.iconst 0, 1) := by decide +kernel
theorem dX12_cellIn_53 : decode MX12_cellIn.2.1 53 = .ok (.goto 4, 3) := by decide +kernel
theorem dX12_cellIn_56 : decode MX12_cellIn.2.1 56 = .ok (.iconst 1, 1) := by decide +kernel
theorem dX12_cellIn_57 : decode MX12_cellIn.2.1 57 = .ok (.iadd, 1) := by decide +kernel
theorem dX12_cellIn_58 : decode MX12_cellIn.2.1 58 = .ok (.istore_n 3, 1) := by decide +kernel
theorem dX12_cellIn_59 : decode MX12_cellIn.2.1 59 = .ok (.iinc 4 1, 3) := by decide +kernel
theorem dX12_cellIn_62 : decode MX12_cellIn.2.1 62 = .ok (.goto (-45), 3) := by decide +kernel
theorem dX12_cellIn_65 : decode MX12_cellIn.2.1 65 = .ok (.aload_n 0, 1) := by decide +kernel
theorem dX12_cellIn_66 : decode MX12_cellIn.2.1 66 = .ok (.iconst 0, 1) := by decide +kernel
theorem dX12_cellIn_67 : decode MX12_cellIn.2.1 67 = .ok (.putfield 89, 3) := by decide +kernel
theorem dX12_cellIn_70 : decode MX12_cellIn.2.1 70 = .ok (.aload_n 0, 1) := by decide +kernel
theorem dX12_cellIn_71 : decode MX12_cellIn.2.1 71 = .ok (.iload_n 3, 1) := by decide +kernel
theorem dX12_cellIn_72 : decode MX12_cellIn.2.1 72 = .ok (.i2l, 1) := by decide +kernel
theorem dX12_cellIn_73 : decode MX12_cellIn.2.1 73 = .ok (.invokevirtual 253, 3) := by decide +kernel
theorem dX12_cellIn_76 : decode MX12_cellIn.2.1 76 = .ok (.aload_n 0, 1) := by decide +kernel
theorem dX12_cellIn_77 : decode MX12_cellIn.2.1 77 = .ok (.getfield 39, 3) := by decide +kernel
theorem dX12_cellIn_80 : decode MX12_cellIn.2.1 80 = .ok (.iload_n 1, 1) := by decide +kernel
theorem dX12_cellIn_81 : decode MX12_cellIn.2.1 81 = .ok (.iaload, 1) := by decide +kernel
theorem dX12_cellIn_82 : decode MX12_cellIn.2.1 82 = .ok (.ireturn, 1) := by decide +kernel
theorem dX12_thinks_0 : decode MX12_thinks.2.1 0 = .ok (.aload_n 0, 1) := by decide +kernel
theorem dX12_thinks_1 : decode MX12_thinks.2.1 1 = .ok (.iconst 0, 1) := by decide +kernel
theorem dX12_thinks_2 : decode MX12_thinks.2.1 2 = .ok (.putfield 85, 3) := by decide +kernel
theorem dX12_thinks_5 : decode MX12_thinks.2.1 5 = .ok (.aload_n 0, 1) := by decide +kernel
theorem dX12_thinks_6 : decode MX12_thinks.2.1 6 = .ok (.iload_n 1, 1) := by decide +kernel
theorem dX12_thinks_7 : decode MX12_thinks.2.1 7 = .ok (.iload_n 2, 1) := by decide +kernel
theorem dX12_thinks_8 : decode MX12_thinks.2.1 8 = .ok (.invokevirtual 212, 3) := by decide +kernel
theorem dX12_thinks_11 : decode MX12_thinks.2.1 11 = .ok (.ifCond .eq 26, 3) := by decide +kernel
theorem dX12_thinks_14 : decode MX12_thinks.2.1 14 = .ok (.iload_n 3, 1) := by decide +kernel
theorem dX12_thinks_15 : decode MX12_thinks.2.1 15 = .ok (.iconst 0, 1) := by decide +kernel
theorem dX12_thinks_16 : decode MX12_thinks.2.1 16 = .ok (.bipush 99, 2) := by decide +kernel
theorem dX12_thinks_18 : decode MX12_thinks.2.1 18 = .ok (.invokestatic 95, 3) := by decide +kernel
theorem dX12_thinks_21 : decode MX12_thinks.2.1 21 = .ok (.ifCond .eq 16, 3) := by decide +kernel
theorem dX12_thinks_24 : decode MX12_thinks.2.1 24 = .ok (.aload_n 0, 1) := by decide +kernel
theorem dX12_thinks_25 : decode MX12_thinks.2.1 25 = .ok (.iload_n 1, 1) := by decide +kernel
theorem dX12_thinks_26 : decode MX12_thinks.2.1 26 = .ok (.iload_n 2, 1) := by decide +kernel
theorem dX12_thinks_27 : decode MX12_thinks.2.1 27 = .ok (.invokestatic 151, 3) := by decide +kernel
theorem dX12_thinks_30 : decode MX12_thinks.2.1 30 = .ok (.iload_n 3, 1) := by decide +kernel
theorem dX12_thinks_31 : decode MX12_thinks.2.1 31 = .ok (.invokevirtual 300, 3) := by decide +kernel
theorem dX12_thinks_34 : decode MX12_thinks.2.1 34 = .ok (.goto 4, 3) := by decide +kernel
theorem dX12_thinks_37 : decode MX12_thinks.2.1 37 = .ok (.iconst (-1), 1) := by decide +kernel
theorem dX12_thinks_38 : decode MX12_thinks.2.1 38 = .ok (.ireturn, 1) := by decide +kernel
theorem dX12_flattery_0 : decode MX12_flattery.2.1 0 = .ok (.aload_n 0, 1) := by decide +kernel
theorem dX12_flattery_1 : decode MX12_flattery.2.1 1 = .ok (.iconst 0, 1) := by decide +kernel
theorem dX12_flattery_2 : decode MX12_flattery.2.1 2 = .ok (.putfield 85, 3) := by decide +kernel
theorem dX12_flattery_5 : decode MX12_flattery.2.1 5 = .ok (.iconst (-1), 1) := by decide +kernel
theorem dX12_flattery_6 : decode MX12_flattery.2.1 6 = .ok (.istore_n 1, 1) := by decide +kernel
theorem dX12_flattery_7 : decode MX12_flattery.2.1 7 = .ok (.iconst (-1), 1) := by decide +kernel
theorem dX12_flattery_8 : decode MX12_flattery.2.1 8 = .ok (.istore_n 2, 1) := by decide +kernel
theorem dX12_flattery_9 : decode MX12_flattery.2.1 9 = .ok (.iconst (-1), 1) := by decide +kernel
theorem dX12_flattery_10 : decode MX12_flattery.2.1 10 = .ok (.istore_n 3, 1) := by decide +kernel
theorem dX12_flattery_11 : decode MX12_flattery.2.1 11 = .ok (.iconst 0, 1) := by decide +kernel
theorem dX12_flattery_12 : decode MX12_flattery.2.1 12 = .ok (.istore 4, 2) := by decide +kernel
theorem dX12_flattery_14 : decode MX12_flattery.2.1 14 = .ok (.iload 4, 2) := by decide +kernel
theorem dX12_flattery_16 : decode MX12_flattery.2.1 16 = .ok (.aload_n 0, 1) := by decide +kernel
theorem dX12_flattery_17 : decode MX12_flattery.2.1 17 = .ok (.getfield 92, 3) := by decide +kernel
theorem dX12_flattery_20 : decode MX12_flattery.2.1 20 = .ok (.if_icmp .ge 85, 3) := by decide +kernel
theorem dX12_flattery_23 : decode MX12_flattery.2.1 23 = .ok (.iconst 0, 1) := by decide +kernel
theorem dX12_flattery_24 : decode MX12_flattery.2.1 24 = .ok (.istore 5, 2) := by decide +kernel
theorem dX12_flattery_26 : decode MX12_flattery.2.1 26 = .ok (.iload 5, 2) := by decide +kernel
theorem dX12_flattery_28 : decode MX12_flattery.2.1 28 = .ok (.aload_n 0, 1) := by decide +kernel
theorem dX12_flattery_29 : decode MX12_flattery.2.1 29 = .ok (.getfield 92, 3) := by decide +kernel
theorem dX12_flattery_32 : decode MX12_flattery.2.1 32 = .ok (.if_icmp .ge 67, 3) := by decide +kernel
theorem dX12_flattery_35 : decode MX12_flattery.2.1 35 = .ok (.iload 4, 2) := by decide +kernel
theorem dX12_flattery_37 : decode MX12_flattery.2.1 37 = .ok (.iload 5, 2) := by decide +kernel
theorem dX12_flattery_39 : decode MX12_flattery.2.1 39 = .ok (.if_icmp .ne 6, 3) := by decide +kernel
theorem dX12_flattery_42 : decode MX12_flattery.2.1 42 = .ok (.goto 51, 3) := by decide +kernel
theorem dX12_flattery_45 : decode MX12_flattery.2.1 45 = .ok (.aload_n 0, 1) := by decide +kernel
theorem dX12_flattery_46 : decode MX12_flattery.2.1 46 = .ok (.getfield 9, 3) := by decide +kernel
theorem dX12_flattery_49 : decode MX12_flattery.2.1 49 = .ok (.iload 4, 2) := by decide +kernel
theorem dX12_flattery_51 : decode MX12_flattery.2.1 51 = .ok (.iload 5, 2) := by decide +kernel
theorem dX12_flattery_53 : decode MX12_flattery.2.1 53 = .ok (.invokestatic 151, 3) := by decide +kernel
theorem dX12_flattery_56 : decode MX12_flattery.2.1 56 = .ok (.iaload, 1) := by decide +kernel
theorem dX12_flattery_57 : decode MX12_flattery.2.1 57 = .ok (.aload_n 0, 1) := by decide +kernel
theorem dX12_flattery_58 : decode MX12_flattery.2.1 58 = .ok (.aload_n 0, 1) := by decide +kernel
theorem dX12_flattery_59 : decode MX12_flattery.2.1 59 = .ok (.getfield 9, 3) := by decide +kernel
theorem dX12_flattery_62 : decode MX12_flattery.2.1 62 = .ok (.iload 4, 2) := by decide +kernel
theorem dX12_flattery_64 : decode MX12_flattery.2.1 64 = .ok (.iload 5, 2) := by decide +kernel
theorem dX12_flattery_66 : decode MX12_flattery.2.1 66 = .ok (.invokevirtual 216, 3) := by decide +kernel
theorem dX12_flattery_69 : decode MX12_flattery.2.1 69 = .ok (.isub, 1) := by decide +kernel
theorem dX12_flattery_70 : decode MX12_flattery.2.1 70 = .ok (.invokestatic 303, 3) := by decide +kernel
theorem dX12_flattery_73 : decode MX12_flattery.2.1 73 = .ok (.istore 6, 2) := by decide +kernel
theorem dX12_flattery_75 : decode MX12_flattery.2.1 75 = .ok (.iload 6, 2) := by decide +kernel
theorem dX12_flattery_77 : decode MX12_flattery.2.1 77 = .ok (.iload_n 1, 1) := by decide +kernel
theorem dX12_flattery_78 : decode MX12_flattery.2.1 78 = .ok (.if_icmp .gt 6, 3) := by decide +kernel
theorem dX12_flattery_81 : decode MX12_flattery.2.1 81 = .ok (.goto 12, 3) := by decide +kernel
theorem dX12_flattery_84 : decode MX12_flattery.2.1 84 = .ok (.iload 6, 2) := by decide +kernel
theorem dX12_flattery_86 : decode MX12_flattery.2.1 86 = .ok (.istore_n 1, 1) := by decide +kernel
theorem dX12_flattery_87 : decode MX12_flattery.2.1 87 = .ok (.iload 4, 2) := by decide +kernel
theorem dX12_flattery_89 : decode MX12_flattery.2.1 89 = .ok (.istore_n 2, 1) := by decide +kernel
theorem dX12_flattery_90 : decode MX12_flattery.2.1 90 = .ok (.iload 5, 2) := by decide +kernel
theorem dX12_flattery_92 : decode MX12_flattery.2.1 92 = .ok (.istore_n 3, 1) := by decide +kernel
theorem dX12_flattery_93 : decode MX12_flattery.2.1 93 = .ok (.iinc 5 1, 3) := by decide +kernel
theorem dX12_flattery_96 : decode MX12_flattery.2.1 96 = .ok (.goto (-70), 3) := by decide +kernel
theorem dX12_flattery_99 : decode MX12_flattery.2.1 99 = .ok (.iinc 4 1, 3) := by decide +kernel
theorem dX12_flattery_102 : decode MX12_flattery.2.1 102 = .ok (.goto (-88), 3) := by decide +kernel
theorem dX12_flattery_105 : decode MX12_flattery.2.1 105 = .ok (.iload_n 1, 1) := by decide +kernel
theorem dX12_flattery_106 : decode MX12_flattery.2.1 106 = .ok (.iconst (-1), 1) := by decide +kernel
theorem dX12_flattery_107 : decode MX12_flattery.2.1 107 = .ok (.if_icmp .ne 6, 3) := by decide +kernel
theorem dX12_flattery_110 : decode MX12_flattery.2.1 110 = .ok (.bipush (-2), 2) := by decide +kernel
theorem dX12_flattery_112 : decode MX12_flattery.2.1 112 = .ok (.ireturn, 1) := by decide +kernel
theorem dX12_flattery_113 : decode MX12_flattery.2.1 113 = .ok (.aload_n 0, 1) := by decide +kernel
theorem dX12_flattery_114 : decode MX12_flattery.2.1 114 = .ok (.iconst 0, 1) := by decide +kernel
theorem dX12_flattery_115 : decode MX12_flattery.2.1 115 = .ok (.putfield 89, 3) := by decide +kernel
theorem dX12_flattery_118 : decode MX12_flattery.2.1 118 = .ok (.aload_n 0, 1) := by decide +kernel
theorem dX12_flattery_119 : decode MX12_flattery.2.1 119 = .ok (.iload_n 2, 1) := by decide +kernel
theorem dX12_flattery_120 : decode MX12_flattery.2.1 120 = .ok (.i2l, 1) := by decide +kernel
theorem dX12_flattery_121 : decode MX12_flattery.2.1 121 = .ok (.invokevirtual 253, 3) := by decide +kernel
theorem dX12_flattery_124 : decode MX12_flattery.2.1 124 = .ok (.aload_n 0, 1) := by decide +kernel
theorem dX12_flattery_125 : decode MX12_flattery.2.1 125 = .ok (.iload_n 3, 1) := by decide +kernel
theorem dX12_flattery_126 : decode MX12_flattery.2.1 126 = .ok (.i2l, 1) := by decide +kernel
theorem dX12_flattery_127 : decode MX12_flattery.2.1 127 = .ok (.invokevirtual 253, 3) := by decide +kernel
theorem dX12_flattery_130 : decode MX12_flattery.2.1 130 = .ok (.aload_n 0, 1) := by decide +kernel
theorem dX12_flattery_131 : decode MX12_flattery.2.1 131 = .ok (.aload_n 0, 1) := by decide +kernel
theorem dX12_flattery_132 : decode MX12_flattery.2.1 132 = .ok (.aload_n 0, 1) := by decide +kernel
theorem dX12_flattery_133 : decode MX12_flattery.2.1 133 = .ok (.getfield 9, 3) := by decide +kernel
theorem dX12_flattery_136 : decode MX12_flattery.2.1 136 = .ok (.iload_n 2, 1) := by decide +kernel
theorem dX12_flattery_137 : decode MX12_flattery.2.1 137 = .ok (.iload_n 3, 1) := by decide +kernel
theorem dX12_flattery_138 : decode MX12_flattery.2.1 138 = .ok (.invokevirtual 216, 3) := by decide +kernel
theorem dX12_flattery_141 : decode MX12_flattery.2.1 141 = .ok (.aload_n 0, 1) := by decide +kernel
theorem dX12_flattery_142 : decode MX12_flattery.2.1 142 = .ok (.getfield 9, 3) := by decide +kernel
theorem dX12_flattery_145 : decode MX12_flattery.2.1 145 = .ok (.iload_n 2, 1) := by decide +kernel
theorem dX12_flattery_146 : decode MX12_flattery.2.1 146 = .ok (.iload_n 3, 1) := by decide +kernel
theorem dX12_flattery_147 : decode MX12_flattery.2.1 147 = .ok (.invokestatic 151, 3) := by decide +kernel
theorem dX12_flattery_150 : decode MX12_flattery.2.1 150 = .ok (.iaload, 1) := by decide +kernel
theorem dX12_flattery_151 : decode MX12_flattery.2.1 151 = .ok (.if_icmp .le 7, 3) := by decide +kernel
theorem dX12_flattery_154 : decode MX12_flattery.2.1 154 = .ok (.lconst 1, 1) := by decide +kernel
theorem dX12_flattery_155 : decode MX12_flattery.2.1 155 = .ok (.goto 4, 3) := by decide +kernel
theorem dX12_flattery_158 : decode MX12_flattery.2.1 158 = .ok (.lconst 0, 1) := by decide +kernel
theorem dX12_flattery_159 : decode MX12_flattery.2.1 159 = .ok (.invokevirtual 253, 3) := by decide +kernel
theorem dX12_flattery_162 : decode MX12_flattery.2.1 162 = .ok (.iload_n 1, 1) := by decide +kernel
theorem dX12_flattery_163 : decode MX12_flattery.2.1 163 = .ok (.ireturn, 1) := by decide +kernel
