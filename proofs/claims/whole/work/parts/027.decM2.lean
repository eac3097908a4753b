theorem dX12_broken_29 : decode cX12_broken 29 = .ok (.lshl, 1) := by decide +kernel
theorem dX12_broken_30 : decode cX12_broken 30 = .ok (.lor, 1) := by decide +kernel
theorem dX12_broken_31 : decode cX12_broken 31 = .ok (.lstore_n 3, 1) := by decide +kernel
theorem dX12_broken_32 : decode cX12_broken 32 = .ok (.iinc 5 1, 3) := by decide +kernel
theorem dX12_broken_35 : decode cX12_broken 35 = .ok (.goto (-16), 3) := by decide +kernel
theorem dX12_broken_38 : decode cX12_broken 38 = .ok (.iconst 0, 1) := by decide +kernel
theorem dX12_broken_39 : decode cX12_broken 39 = .ok (.istore 5, 2) := by decide +kernel
theorem dX12_broken_41 : decode cX12_broken 41 = .ok (.iload 5, 2) := by decide +kernel
theorem dX12_broken_43 : decode cX12_broken 43 = .ok (.aload_n 0, 1) := by decide +kernel
theorem dX12_broken_44 : decode cX12_broken 44 = .ok (.getfield 7, 3) := by decide +kernel
theorem dX12_broken_47 : decode cX12_broken 47 = .ok (.bipush 89, 2) := by decide +kernel
theorem dX12_broken_49 : decode cX12_broken 49 = .ok (.iload_n 1, 1) := by decide +kernel
theorem dX12_broken_50 : decode cX12_broken 50 = .ok (.iadd, 1) := by decide +kernel
theorem dX12_broken_51 : decode cX12_broken 51 = .ok (.iaload, 1) := by decide +kernel
theorem dX12_broken_52 : decode cX12_broken 52 = .ok (.if_icmp .ge 147, 3) := by decide +kernel
theorem dX12_broken_55 : decode cX12_broken 55 = .ok (.aload_n 0, 1) := by decide +kernel
theorem dX12_broken_56 : decode cX12_broken 56 = .ok (.getfield 7, 3) := by decide +kernel
theorem dX12_broken_59 : decode cX12_broken 59 = .ok (.bipush 93, 2) := by decide +kernel
theorem dX12_broken_61 : decode cX12_broken 61 = .ok (.bipush 8, 2) := by decide +kernel
theorem dX12_broken_63 : decode cX12_broken 63 = .ok (.iload_n 1, 1) := by decide +kernel
theorem dX12_broken_64 : decode cX12_broken 64 = .ok (.imul, 1) := by decide +kernel
theorem dX12_broken_65 : decode cX12_broken 65 = .ok (.iadd, 1) := by decide +kernel
theorem dX12_broken_66 : decode cX12_broken 66 = .ok (.iload 5, 2) := by decide +kernel
theorem dX12_broken_68 : decode cX12_broken 68 = .ok (.iadd, 1) := by decide +kernel
theorem dX12_broken_69 : decode cX12_broken 69 = .ok (.iaload, 1) := by decide +kernel
theorem dX12_broken_70 : decode cX12_broken 70 = .ok (.istore 6, 2) := by decide +kernel
theorem dX12_broken_72 : decode cX12_broken 72 = .ok (.lconst 0, 1) := by decide +kernel
theorem dX12_broken_73 : decode cX12_broken 73 = .ok (.lstore 7, 2) := by decide +kernel
theorem dX12_broken_75 : decode cX12_broken 75 = .ok (.iconst 0, 1) := by decide +kernel
theorem dX12_broken_76 : decode cX12_broken 76 = .ok (.istore 9, 2) := by decide +kernel
theorem dX12_broken_78 : decode cX12_broken 78 = .ok (.iconst 0, 1) := by decide +kernel
theorem dX12_broken_79 : decode cX12_broken 79 = .ok (.istore 10, 2) := by decide +kernel
theorem dX12_broken_81 : decode cX12_broken 81 = .ok (.iload 10, 2) := by decide +kernel
theorem dX12_broken_83 : decode cX12_broken 83 = .ok (.iload_n 2, 1) := by decide +kernel
theorem dX12_broken_84 : decode cX12_broken 84 = .ok (.if_icmp .ge 106, 3) := by decide +kernel
theorem dX12_broken_87 : decode cX12_broken 87 = .ok (.lload_n 3, 1) := by decide +kernel
theorem dX12_broken_88 : decode cX12_broken 88 = .ok (.iload 10, 2) := by decide +kernel
theorem dX12_broken_90 : decode cX12_broken 90 = .ok (.lshr, 1) := by decide +kernel
theorem dX12_broken_91 : decode cX12_broken 91 = .ok (.lconst 1, 1) := by decide +kernel
theorem dX12_broken_92 : decode cX12_broken 92 = .ok (.land, 1) := by decide +kernel
theorem dX12_broken_93 : decode cX12_broken 93 = .ok (.lconst 1, 1) := by decide +kernel
theorem dX12_broken_94 : decode cX12_broken 94 = .ok (.lcmp, 1) := by decide +kernel
theorem dX12_broken_95 : decode cX12_broken 95 = .ok (.ifCond .ne 7, 3) := by decide +kernel
theorem dX12_broken_98 : decode cX12_broken 98 = .ok (.iconst 1, 1) := by decide +kernel
theorem dX12_broken_99 : decode cX12_broken 99 = .ok (.goto 4, 3) := by decide +kernel
theorem dX12_broken_102 : decode cX12_broken 102 = .ok (.iconst 0, 1) := by decide +kernel
theorem dX12_broken_103 : decode cX12_broken 103 = .ok (.istore 11, 2) := by decide +kernel
theorem dX12_broken_105 : decode cX12_broken 105 = .ok (.iload 9, 2) := by decide +kernel
theorem dX12_broken_107 : decode cX12_broken 107 = .ok (.ifCond .ne 8, 3) := by decide +kernel
theorem dX12_broken_110 : decode cX12_broken 110 = .ok (.iload 11, 2) := by decide +kernel
theorem dX12_broken_112 : decode cX12_broken 112 = .ok (.ifCond .eq 7, 3) := by decide +kernel
theorem dX12_broken_115 : decode cX12_broken 115 = .ok (.iconst 1, 1) := by decide +kernel
theorem dX12_broken_116 : decode cX12_broken 116 = .ok (.goto 4, 3) := by decide +kernel
theorem dX12_broken_119 : decode cX12_broken 119 = .ok (.iconst 0, 1) := by decide +kernel
theorem dX12_broken_120 : decode cX12_broken 120 = .ok (.istore 9, 2) := by decide +kernel
theorem dX12_broken_122 : decode cX12_broken 122 = .ok (.iload 6, 2) := by decide +kernel
theorem dX12_broken_124 : decode cX12_broken 124 = .ok (.bipush 27, 2) := by decide +kernel
theorem dX12_broken_126 : decode cX12_broken 126 = .ok (.if_icmp .ne 8, 3) := by decide +kernel
theorem dX12_broken_129 : decode cX12_broken 129 = .ok (.iload 9, 2) := by decide +kernel
theorem dX12_broken_131 : decode cX12_broken 131 = .ok (.goto 31, 3) := by decide +kernel
theorem dX12_broken_134 : decode cX12_broken 134 = .ok (.iload 11, 2) := by decide +kernel
theorem dX12_broken_136 : decode cX12_broken 136 = .ok (.ifCond .eq 25, 3) := by decide +kernel
theorem dX12_broken_139 : decode cX12_broken 139 = .ok (.iload 6, 2) := by decide +kernel
theorem dX12_broken_141 : decode cX12_broken 141 = .ok (.bipush 26, 2) := by decide +kernel
theorem dX12_broken_143 : decode cX12_broken 143 = .ok (.if_icmp .eq 14, 3) := by decide +kernel
theorem dX12_broken_146 : decode cX12_broken 146 = .ok (.aload_n 0, 1) := by decide +kernel
theorem dX12_broken_147 : decode cX12_broken 147 = .ok (.iload 10, 2) := by decide +kernel
theorem dX12_broken_149 : decode cX12_broken 149 = .ok (.invokevirtual 148, 3) := by decide +kernel
theorem dX12_broken_152 : decode cX12_broken 152 = .ok (.iload 6, 2) := by decide +kernel
theorem dX12_broken_154 : decode cX12_broken 154 = .ok (.if_icmp .ne 7, 3) := by decide +kernel
theorem dX12_broken_157 : decode cX12_broken 157 = .ok (.iconst 1, 1) := by decide +kernel
theorem dX12_broken_158 : decode cX12_broken 158 = .ok (.goto 4, 3) := by decide +kernel
theorem dX12_broken_161 : decode cX12_broken 161 = .ok (.iconst 0, 1) := by decide +kernel
theorem dX12_broken_162 : decode cX12_broken 162 = .ok (.istore 12, 2) := by decide +kernel
theorem dX12_broken_164 : decode cX12_broken 164 = .ok (.lload 7, 2) := by decide +kernel
theorem dX12_broken_166 : decode cX12_broken 166 = .ok (.iload 12, 2) := by decide +kernel
theorem dX12_broken_168 : decode cX12_broken 168 = .ok (.ifCond .eq 12, 3) := by decide +kernel
theorem dX12_broken_171 : decode cX12_broken 171 = .ok (.lconst 1, 1) := by decide +kernel
theorem dX12_broken_172 : decode cX12_broken 172 = .ok (.iload 10, 2) := by decide +kernel
theorem dX12_broken_174 : decode cX12_broken 174 = .ok (.iconst 1, 1) := by decide +kernel
theorem dX12_broken_175 : decode cX12_broken 175 = .ok (.iadd, 1) := by decide +kernel
theorem dX12_broken_176 : decode cX12_broken 176 = .ok (.lshl, 1) := by decide +kernel
theorem dX12_broken_177 : decode cX12_broken 177 = .ok (.goto 4, 3) := by decide +kernel
theorem dX12_broken_180 : decode cX12_broken 180 = .ok (.lconst 0, 1) := by decide +kernel
theorem dX12_broken_181 : decode cX12_broken 181 = .ok (.lor, 1) := by decide +kernel
theorem dX12_broken_182 : decode cX12_broken 182 = .ok (.lstore 7, 2) := by decide +kernel
theorem dX12_broken_184 : decode cX12_broken 184 = .ok (.iinc 10 1, 3) := by decide +kernel
theorem dX12_broken_187 : decode cX12_broken 187 = .ok (.goto (-106), 3) := by decide +kernel
theorem dX12_broken_190 : decode cX12_broken 190 = .ok (.lload 7, 2) := by decide +kernel
theorem dX12_broken_192 : decode cX12_broken 192 = .ok (.lstore_n 3, 1) := by decide +kernel
theorem dX12_broken_193 : decode cX12_broken 193 = .ok (.iinc 5 1, 3) := by decide +kernel
theorem dX12_broken_196 : decode cX12_broken 196 = .ok (.goto (-155), 3) := by decide +kernel
theorem dX12_broken_199 : decode cX12_broken 199 = .ok (.iconst (-1), 1) := by decide +kernel
theorem dX12_broken_200 : decode cX12_broken 200 = .ok (.istore 5, 2) := by decide +kernel
theorem dX12_broken_202 : decode cX12_broken 202 = .ok (.iload_n 2, 1) := by decide +kernel
theorem dX12_broken_203 : decode cX12_broken 203 = .ok (.istore 6, 2) := by decide +kernel
theorem dX12_broken_205 : decode cX12_broken 205 = .ok (.iload 6, 2) := by decide +kernel
theorem dX12_broken_207 : decode cX12_broken 207 = .ok (.ifCond .le 31, 3) := by decide +kernel
theorem dX12_broken_210 : decode cX12_broken 210 = .ok (.lload_n 3, 1) := by decide +kernel
theorem dX12_broken_211 : decode cX12_broken 211 = .ok (.iload 6, 2) := by decide +kernel
theorem dX12_broken_213 : decode cX12_broken 213 = .ok (.lshr, 1) := by decide +kernel
theorem dX12_broken_214 : decode cX12_broken 214 = .ok (.lconst 1, 1) := by decide +kernel
theorem dX12_broken_215 : decode cX12_broken 215 = .ok (.land, 1) := by decide +kernel
theorem dX12_broken_216 : decode cX12_broken 216 = .ok (.lconst 1, 1) := by decide +kernel
theorem dX12_broken_217 : decode cX12_broken 217 = .ok (.lcmp, 1) := by decide +kernel
theorem dX12_broken_218 : decode cX12_broken 218 = .ok (.ifCond .ne 10, 3) := by decide +kernel
theorem dX12_broken_221 : decode cX12_broken 221 = .ok (.iload 6, 2) := by decide +kernel
theorem dX12_broken_223 : decode cX12_broken 223 = .ok (.iconst 1, 1) := by decide +kernel
theorem dX12_broken_224 : decode cX12_broken 224 = .ok (.isub, 1) := by decide +kernel
theorem dX12_broken_225 : decode cX12_broken 225 = .ok (.goto 5, 3) := by decide +kernel
theorem dX12_broken_228 : decode cX12_broken 228 = .ok (.iload 5, 2) := by decide +kernel
theorem dX12_broken_230 : decode cX12_broken 230 = .ok (.istore 5, 2) := by decide +kernel
theorem dX12_broken_232 : decode cX12_broken 232 = .ok (.iinc 6 (-1), 3) := by decide +kernel
theorem dX12_broken_235 : decode cX12_broken 235 = .ok (.goto (-30), 3) := by decide +kernel
theorem dX12_broken_238 : decode cX12_broken 238 = .ok (.iload 5, 2) := by decide +kernel
theorem dX12_broken_240 : decode cX12_broken 240 = .ok (.ireturn, 1) := by decide +kernel
theorem dX12_word_0 : decode cX12_word 0 = .ok (.iload_n 1, 1) := by decide +kernel
theorem dX12_word_1 : decode cX12_word 1 = .ok (.i2l, 1) := by decide +kernel
theorem dX12_word_2 : decode cX12_word 2 = .ok (.lconst 0, 1) := by decide +kernel
theorem dX12_word_3 : decode cX12_word 3 = .ok (.ldc2_w 108, 3) := by decide +kernel
theorem dX12_word_6 : decode cX12_word 6 = .ok (.invokestatic 59, 3) := by decide +kernel
theorem dX12_word_9 : decode cX12_word 9 = .ok (.ifCond .eq 17, 3) := by decide +kernel
theorem dX12_word_12 : decode cX12_word 12 = .ok (.aload_n 0, 1) := by decide +kernel
theorem dX12_word_13 : decode cX12_word 13 = .ok (.iload_n 1, 1) := by decide +kernel
theorem dX12_word_14 : decode cX12_word 14 = .ok (.aload_n 0, 1) := by decide +kernel
theorem dX12_word_15 : decode cX12_word 15 = .ok (.getfield 7, 3) := by decide +kernel
theorem dX12_word_18 : decode cX12_word 18 = .ok (.iconst 3, 1) := by decide +kernel
theorem dX12_word_19 : decode cX12_word 19 = .ok (.iaload, 1) := by decide +kernel
theorem dX12_word_20 : decode cX12_word 20 = .ok (.invokevirtual 151, 3) := by decide +kernel
theorem dX12_word_23 : decode cX12_word 23 = .ok (.goto 7, 3) := by decide +kernel
theorem dX12_word_26 : decode cX12_word 26 = .ok (.aload_n 0, 1) := by decide +kernel
theorem dX12_word_27 : decode cX12_word 27 = .ok (.invokevirtual 74, 3) := by decide +kernel
theorem dX12_word_30 : decode cX12_word 30 = .ok (.ireturn, 1) := by decide +kernel
theorem dX12_silentIn_0 : decode cX12_silentIn 0 = .ok (.iconst 0, 1) := by decide +kernel
theorem dX12_silentIn_1 : decode cX12_silentIn 1 = .ok (.istore_n 2, 1) := by decide +kernel
theorem dX12_silentIn_2 : decode cX12_silentIn 2 = .ok (.iconst 0, 1) := by decide +kernel
theorem dX12_silentIn_3 : decode cX12_silentIn 3 = .ok (.istore_n 3, 1) := by decide +kernel
theorem dX12_silentIn_4 : decode cX12_silentIn 4 = .ok (.iload_n 3, 1) := by decide +kernel
theorem dX12_silentIn_5 : decode cX12_silentIn 5 = .ok (.iconst 4, 1) := by decide +kernel
theorem dX12_silentIn_6 : decode cX12_silentIn 6 = .ok (.if_icmp .ge 29, 3) := by decide +kernel
theorem dX12_silentIn_9 : decode cX12_silentIn 9 = .ok (.iload_n 2, 1) := by decide +kernel
theorem dX12_silentIn_10 : decode cX12_silentIn 10 = .ok (.aload_n 0, 1) := by decide +kernel
theorem dX12_silentIn_11 : decode cX12_silentIn 11 = .ok (.iload_n 3, 1) := by decide +kernel
theorem dX12_silentIn_12 : decode cX12_silentIn 12 = .ok (.iload_n 1, 1) := by decide +kernel
theorem dX12_silentIn_13 : decode cX12_silentIn 13 = .ok (.invokevirtual 151, 3) := by decide +kernel
theorem dX12_silentIn_16 : decode cX12_silentIn 16 = .ok (.iconst (-1), 1) := by decide +kernel
theorem dX12_silentIn_17 : decode cX12_silentIn 17 = .ok (.if_icmp .ne 9, 3) := by decide +kernel
theorem dX12_silentIn_20 : decode cX12_silentIn 20 = .ok (.iconst 1, 1) := by decide +kernel
theorem dX12_silentIn_21 : decode cX12_silentIn 21 = .ok (.iload_n 3, 1) := by decide +kernel
theorem dX12_silentIn_22 : decode cX12_silentIn 22 = .ok (.ishl, 1) := by decide +kernel
theorem dX12_silentIn_23 : decode cX12_silentIn 23 = .ok (.goto 4, 3) := by decide +kernel
theorem dX12_silentIn_26 : decode cX12_silentIn 26 = .ok (.iconst 0, 1) := by decide +kernel
theorem dX12_silentIn_27 : decode cX12_silentIn 27 = .ok (.ior, 1) := by decide +kernel
theorem dX12_silentIn_28 : decode cX12_silentIn 28 = .ok (.istore_n 2, 1) := by decide +kernel
theorem dX12_silentIn_29 : decode cX12_silentIn 29 = .ok (.iinc 3 1, 3) := by decide +kernel
theorem dX12_silentIn_32 : decode cX12_silentIn 32 = .ok (.goto (-28), 3) := by decide +kernel
theorem dX12_silentIn_35 : decode cX12_silentIn 35 = .ok (.iload_n 2, 1) := by decide +kernel
theorem dX12_silentIn_36 : decode cX12_silentIn 36 = .ok (.ireturn, 1) := by decide +kernel
theorem dX12_silent_0 : decode cX12_silent 0 = .ok (.aload_n 0, 1) := by decide +kernel
theorem dX12_silent_1 : decode cX12_silent 1 = .ok (.aload_n 0, 1) := by decide +kernel
theorem dX12_silent_2 : decode cX12_silent 2 = .ok (.getfield 7, 3) := by decide +kernel
theorem dX12_silent_5 : decode cX12_silent 5 = .ok (.iconst 3, 1) := by decide +kernel
theorem dX12_silent_6 : decode cX12_silent 6 = .ok (.iaload, 1) := by decide +kernel
theorem dX12_silent_7 : decode cX12_silent 7 = .ok (.invokevirtual 154, 3) := by decide +kernel
theorem dX12_silent_10 : decode cX12_silent 10 = .ok (.ireturn, 1) := by decide +kernel
theorem dX12_met_0 : decode cX12_met 0 = .ok (.iload_n 1, 1) := by decide +kernel
theorem dX12_met_1 : decode cX12_met 1 = .ok (.i2l, 1) := by decide +kernel
theorem dX12_met_2 : decode cX12_met 2 = .ok (.lconst 0, 1) := by decide +kernel
theorem dX12_met_3 : decode cX12_met 3 = .ok (.ldc2_w 144, 3) := by decide +kernel
theorem dX12_met_6 : decode cX12_met 6 = .ok (.invokestatic 59, 3) := by decide +kernel
theorem dX12_met_9 : decode cX12_met 9 = .ok (.ifCond .eq 8, 3) := by decide +kernel
theorem dX12_met_12 : decode cX12_met 12 = .ok (.iload_n 2, 1) := by decide +kernel
theorem dX12_met_13 : decode cX12_met 13 = .ok (.iconst (-1), 1) := by decide +kernel
theorem dX12_met_14 : decode cX12_met 14 = .ok (.if_icmp .ge 11, 3) := by decide +kernel
theorem dX12_met_17 : decode cX12_met 17 = .ok (.aload_n 0, 1) := by decide +kernel
theorem dX12_met_18 : decode cX12_met 18 = .ok (.iconst 0, 1) := by decide +kernel
theorem dX12_met_19 : decode cX12_met 19 = .ok (.bipush (-10), 2) := by decide +kernel
theorem dX12_met_21 : decode cX12_met 21 = .ok (.invokevirtual 55, 3) := by decide +kernel
theorem dX12_met_24 : decode cX12_met 24 = .ok (.ireturn, 1) := by decide +kernel
theorem dX12_met_25 : decode cX12_met 25 = .ok (.aload_n 0, 1) := by decide +kernel
theorem dX12_met_26 : decode cX12_met 26 = .ok (.aload_n 0, 1) := by decide +kernel
theorem dX12_met_27 : decode cX12_met 27 = .ok (.getfield 7, 3) := by decide +kernel
theorem dX12_met_30 : decode cX12_met 30 = .ok (.iconst 3, 1) := by decide +kernel
theorem dX12_met_31 : decode cX12_met 31 = .ok (.iaload, 1) := by decide +kernel
theorem dX12_met_32 : decode cX12_met 32 = .ok (.invokevirtual 154, 3) := by decide +kernel
theorem dX12_met_35 : decode cX12_met 35 = .ok (.istore_n 3, 1) := by decide +kernel
theorem dX12_met_36 : decode cX12_met 36 = .ok (.iconst 0, 1) := by decide +kernel
theorem dX12_met_37 : decode cX12_met 37 = .ok (.istore 4, 2) := by decide +kernel
theorem dX12_met_39 : decode cX12_met 39 = .ok (.iload 4, 2) := by decide +kernel
theorem dX12_met_41 : decode cX12_met 41 = .ok (.iconst 3, 1) := by decide +kernel
theorem dX12_met_42 : decode cX12_met 42 = .ok (.if_icmp .gt 135, 3) := by decide +kernel
theorem dX12_met_45 : decode cX12_met 45 = .ok (.aload_n 0, 1) := by decide +kernel
theorem dX12_met_46 : decode cX12_met 46 = .ok (.getfield 7, 3) := by decide +kernel
theorem dX12_met_49 : decode cX12_met 49 = .ok (.iconst 3, 1) := by decide +kernel
theorem dX12_met_50 : decode cX12_met 50 = .ok (.iaload, 1) := by decide +kernel
theorem dX12_met_51 : decode cX12_met 51 = .ok (.iload 4, 2) := by decide +kernel
theorem dX12_met_53 : decode cX12_met 53 = .ok (.iadd, 1) := by decide +kernel
theorem dX12_met_54 : decode cX12_met 54 = .ok (.istore 5, 2) := by decide +kernel
theorem dX12_met_56 : decode cX12_met 56 = .ok (.iconst 0, 1) := by decide +kernel
theorem dX12_met_57 : decode cX12_met 57 = .ok (.istore 6, 2) := by decide +kernel
theorem dX12_met_59 : decode cX12_met 59 = .ok (.iload 6, 2) := by decide +kernel
theorem dX12_met_61 : decode cX12_met 61 = .ok (.iconst 1, 1) := by decide +kernel
theorem dX12_met_62 : decode cX12_met 62 = .ok (.iconst 2, 1) := by decide +kernel
theorem dX12_met_63 : decode cX12_met 63 = .ok (.iload 4, 2) := by decide +kernel
theorem dX12_met_65 : decode cX12_met 65 = .ok (.imul, 1) := by decide +kernel
theorem dX12_met_66 : decode cX12_met 66 = .ok (.ishl, 1) := by decide +kernel
theorem dX12_met_67 : decode cX12_met 67 = .ok (.if_icmp .ge 104, 3) := by decide +kernel
theorem dX12_met_70 : decode cX12_met 70 = .ok (.iconst 0, 1) := by decide +kernel
theorem dX12_met_71 : decode cX12_met 71 = .ok (.istore 7, 2) := by decide +kernel
theorem dX12_met_73 : decode cX12_met 73 = .ok (.iload 7, 2) := by decide +kernel
theorem dX12_met_75 : decode cX12_met 75 = .ok (.iload 4, 2) := by decide +kernel
theorem dX12_met_77 : decode cX12_met 77 = .ok (.if_icmp .ge 30, 3) := by decide +kernel
theorem dX12_met_80 : decode cX12_met 80 = .ok (.aload_n 0, 1) := by decide +kernel
theorem dX12_met_81 : decode cX12_met 81 = .ok (.getfield 35, 3) := by decide +kernel
theorem dX12_met_84 : decode cX12_met 84 = .ok (.iload 7, 2) := by decide +kernel
theorem dX12_met_86 : decode cX12_met 86 = .ok (.iload 6, 2) := by decide +kernel
theorem dX12_met_88 : decode cX12_met 88 = .ok (.iconst 2, 1) := by decide +kernel
theorem dX12_met_89 : decode cX12_met 89 = .ok (.iload 4, 2) := by decide +kernel
theorem dX12_met_91 : decode cX12_met 91 = .ok (.iconst 1, 1) := by decide +kernel
theorem dX12_met_92 : decode cX12_met 92 = .ok (.isub, 1) := by decide +kernel
theorem dX12_met_93 : decode cX12_met 93 = .ok (.iload 7, 2) := by decide +kernel
theorem dX12_met_95 : decode cX12_met 95 = .ok (.isub, 1) := by decide +kernel
theorem dX12_met_96 : decode cX12_met 96 = .ok (.imul, 1) := by decide +kernel
theorem dX12_met_97 : decode cX12_met 97 = .ok (.ishr, 1) := by decide +kernel
theorem dX12_met_98 : decode cX12_met 98 = .ok (.iconst 3, 1) := by decide +kernel
theorem dX12_met_99 : decode cX12_met 99 = .ok (.iand, 1) := by decide +kernel
theorem dX12_met_100 : decode cX12_met 100 = .ok (.iastore, 1) := by decide +kernel
theorem dX12_met_101 : decode cX12_met 101 = .ok (.iinc 7 1, 3) := by decide +kernel
theorem dX12_met_104 : decode cX12_met 104 = .ok (.goto (-31), 3) := by decide +kernel
theorem dX12_met_107 : decode cX12_met 107 = .ok (.iload 5, 2) := by decide +kernel
theorem dX12_met_109 : decode cX12_met 109 = .ok (.ifCond .le 56, 3) := by decide +kernel
theorem dX12_met_112 : decode cX12_met 112 = .ok (.aload_n 0, 1) := by decide +kernel
theorem dX12_met_113 : decode cX12_met 113 = .ok (.iload 5, 2) := by decide +kernel
theorem dX12_met_115 : decode cX12_met 115 = .ok (.iconst 1, 1) := by decide +kernel
theorem dX12_met_116 : decode cX12_met 116 = .ok (.isub, 1) := by decide +kernel
theorem dX12_met_117 : decode cX12_met 117 = .ok (.invokevirtual 148, 3) := by decide +kernel
theorem dX12_met_120 : decode cX12_met 120 = .ok (.iload_n 1, 1) := by decide +kernel
theorem dX12_met_121 : decode cX12_met 121 = .ok (.if_icmp .ne 44, 3) := by decide +kernel
theorem dX12_met_124 : decode cX12_met 124 = .ok (.iload_n 3, 1) := by decide +kernel
theorem dX12_met_125 : decode cX12_met 125 = .ok (.aload_n 0, 1) := by decide +kernel
theorem dX12_met_126 : decode cX12_met 126 = .ok (.iload 5, 2) := by decide +kernel
theorem dX12_met_128 : decode cX12_met 128 = .ok (.invokevirtual 154, 3) := by decide +kernel
theorem dX12_met_131 : decode cX12_met 131 = .ok (.iconst (-1), 1) := by decide +kernel
theorem dX12_met_132 : decode cX12_met 132 = .ok (.ixor, 1) := by decide +kernel
theorem dX12_met_133 : decode cX12_met 133 = .ok (.iand, 1) := by decide +kernel
theorem dX12_met_134 : decode cX12_met 134 = .ok (.ifCond .ne 31, 3) := by decide +kernel
theorem dX12_met_137 : decode cX12_met 137 = .ok (.iload_n 2, 1) := by decide +kernel
theorem dX12_met_138 : decode cX12_met 138 = .ok (.iconst (-1), 1) := by decide +kernel
theorem dX12_met_139 : decode cX12_met 139 = .ok (.if_icmp .ne 8, 3) := by decide +kernel
theorem dX12_met_142 : decode cX12_met 142 = .ok (.iload 4, 2) := by decide +kernel
theorem dX12_met_144 : decode cX12_met 144 = .ok (.goto 20, 3) := by decide +kernel
theorem dX12_met_147 : decode cX12_met 147 = .ok (.iload_n 2, 1) := by decide +kernel
theorem dX12_met_148 : decode cX12_met 148 = .ok (.iload 4, 2) := by decide +kernel
theorem dX12_met_150 : decode cX12_met 150 = .ok (.if_icmp .ge 12, 3) := by decide +kernel
theorem dX12_met_153 : decode cX12_met 153 = .ok (.aload_n 0, 1) := by decide +kernel
theorem dX12_met_154 : decode cX12_met 154 = .ok (.getfield 35, 3) := by decide +kernel
theorem dX12_met_157 : decode cX12_met 157 = .ok (.iload_n 2, 1) := by decide +kernel
theorem dX12_met_158 : decode cX12_met 158 = .ok (.iaload, 1) := by decide +kernel
theorem dX12_met_159 : decode cX12_met 159 = .ok (.goto 5, 3) := by decide +kernel
theorem dX12_met_162 : decode cX12_met 162 = .ok (.bipush (-5), 2) := by decide +kernel
theorem dX12_met_164 : decode cX12_met 164 = .ok (.ireturn, 1) := by decide +kernel
theorem dX12_met_165 : decode cX12_met 165 = .ok (.iinc 6 1, 3) := by decide +kernel
theorem dX12_met_168 : decode cX12_met 168 = .ok (.goto (-109), 3) := by decide +kernel
theorem dX12_met_171 : decode cX12_met 171 = .ok (.iinc 4 1, 3) := by decide +kernel
theorem dX12_met_174 : decode cX12_met 174 = .ok (.goto (-135), 3) := by decide +kernel
theorem dX12_met_177 : decode cX12_met 177 = .ok (.iconst (-1), 1) := by decide +kernel
theorem dX12_met_178 : decode cX12_met 178 = .ok (.ireturn, 1) := by decide +kernel
theorem dX12_show_0 : decode cX12_show 0 = .ok (.iload_n 1, 1) := by decide +kernel
theorem dX12_show_1 : decode cX12_show 1 = .ok (.i2l, 1) := by decide +kernel
theorem dX12_show_2 : decode cX12_show 2 = .ok (.lconst 0, 1) := by decide +kernel
theorem dX12_show_3 : decode cX12_show 3 = .ok (.lconst 1, 1) := by decide +kernel
theorem dX12_show_4 : decode cX12_show 4 = .ok (.invokestatic 59, 3) := by decide +kernel
theorem dX12_show_7 : decode cX12_show 7 = .ok (.ifCond .eq 15, 3) := by decide +kernel
theorem dX12_show_10 : decode cX12_show 10 = .ok (.iload_n 2, 1) := by decide +kernel
theorem dX12_show_11 : decode cX12_show 11 = .ok (.i2l, 1) := by decide +kernel
theorem dX12_show_12 : decode cX12_show 12 = .ok (.lconst 1, 1) := by decide +kernel
theorem dX12_show_13 : decode cX12_show 13 = .ok (.ldc2_w 157, 3) := by decide +kernel
theorem dX12_show_16 : decode cX12_show 16 = .ok (.invokestatic 59, 3) := by decide +kernel
theorem dX12_show_19 : decode cX12_show 19 = .ok (.ifCond .ne 8, 3) := by decide +kernel
theorem dX12_show_22 : decode cX12_show 22 = .ok (.aload_n 0, 1) := by decide +kernel
theorem dX12_show_23 : decode cX12_show 23 = .ok (.invokevirtual 74, 3) := by decide +kernel
theorem dX12_show_26 : decode cX12_show 26 = .ok (.ireturn, 1) := by decide +kernel
theorem dX12_show_27 : decode cX12_show 27 = .ok (.aload_n 0, 1) := by decide +kernel
theorem dX12_show_28 : decode cX12_show 28 = .ok (.getfield 7, 3) := by decide +kernel
theorem dX12_show_31 : decode cX12_show 31 = .ok (.iconst 4, 1) := by decide +kernel
theorem dX12_show_32 : decode cX12_show 32 = .ok (.iload_n 1, 1) := by decide +kernel
theorem dX12_show_33 : decode cX12_show 33 = .ok (.iadd, 1) := by decide +kernel
theorem dX12_show_34 : decode cX12_show 34 = .ok (.iaload, 1) := by decide +kernel
theorem dX12_show_35 : decode cX12_show 35 = .ok (.iconst 4, 1) := by decide +kernel
theorem dX12_show_36 : decode cX12_show 36 = .ok (.if_icmp .ne 8, 3) := by decide +kernel
theorem dX12_show_39 : decode cX12_show 39 = .ok (.aload_n 0, 1) := by decide +kernel
theorem dX12_show_40 : decode cX12_show 40 = .ok (.invokevirtual 78, 3) := by decide +kernel
theorem dX12_show_43 : decode cX12_show 43 = .ok (.ireturn, 1) := by decide +kernel
theorem dX12_show_44 : decode cX12_show 44 = .ok (.aload_n 0, 1) := by decide +kernel
theorem dX12_show_45 : decode cX12_show 45 = .ok (.getfield 7, 3) := by decide +kernel
theorem dX12_show_48 : decode cX12_show 48 = .ok (.bipush 125, 2) := by decide +kernel
theorem dX12_show_50 : decode cX12_show 50 = .ok (.iconst 4, 1) := by decide +kernel
theorem dX12_show_51 : decode cX12_show 51 = .ok (.iload_n 1, 1) := by decide +kernel
theorem dX12_show_52 : decode cX12_show 52 = .ok (.imul, 1) := by decide +kernel
theorem dX12_show_53 : decode cX12_show 53 = .ok (.iadd, 1) := by decide +kernel
theorem dX12_show_54 : decode cX12_show 54 = .ok (.aload_n 0, 1) := by decide +kernel
theorem dX12_show_55 : decode cX12_show 55 = .ok (.getfield 7, 3) := by decide +kernel
theorem dX12_show_58 : decode cX12_show 58 = .ok (.iconst 4, 1) := by decide +kernel
theorem dX12_show_59 : decode cX12_show 59 = .ok (.iload_n 1, 1) := by decide +kernel
theorem dX12_show_60 : decode cX12_show 60 = .ok (.iadd, 1) := by decide +kernel
theorem dX12_show_61 : decode cX12_show 61 = .ok (.iaload, 1) := by decide +kernel
theorem dX12_show_62 : decode cX12_show 62 = .ok (.iadd, 1) := by decide +kernel
theorem dX12_show_63 : decode cX12_show 63 = .ok (.iload_n 2, 1) := by decide +kernel
theorem dX12_show_64 : decode cX12_show 64 = .ok (.iastore, 1) := by decide +kernel
theorem dX12_show_65 : decode cX12_show 65 = .ok (.aload_n 0, 1) := by decide +kernel
theorem dX12_show_66 : decode cX12_show 66 = .ok (.getfield 7, 3) := by decide +kernel
theorem dX12_show_69 : decode cX12_show 69 = .ok (.iconst 4, 1) := by decide +kernel
theorem dX12_show_70 : decode cX12_show 70 = .ok (.iload_n 1, 1) := by decide +kernel
theorem dX12_show_71 : decode cX12_show 71 = .ok (.iadd, 1) := by decide +kernel
theorem dX12_show_72 : decode cX12_show 72 = .ok (.dup2, 1) := by decide +kernel
theorem dX12_show_73 : decode cX12_show 73 = .ok (.iaload, 1) := by decide +kernel
theorem dX12_show_74 : decode cX12_show 74 = .ok (.iconst 1, 1) := by decide +kernel
theorem dX12_show_75 : decode cX12_show 75 = .ok (.iadd, 1) := by decide +kernel
theorem dX12_show_76 : decode cX12_show 76 = .ok (.iastore, 1) := by decide +kernel
theorem dX12_show_77 : decode cX12_show 77 = .ok (.aload_n 0, 1) := by decide +kernel
theorem dX12_show_78 : decode cX12_show 78 = .ok (.getfield 7, 3) := by decide +kernel
theorem dX12_show_81 : decode cX12_show 81 = .ok (.iconst 4, 1) := by decide +kernel
theorem dX12_show_82 : decode cX12_show 82 = .ok (.iload_n 1, 1) := by decide +kernel
theorem dX12_show_83 : decode cX12_show 83 = .ok (.iadd, 1) := by decide +kernel
theorem dX12_show_84 : decode cX12_show 84 = .ok (.iaload, 1) := by decide +kernel
theorem dX12_show_85 : decode cX12_show 85 = .ok (.iconst 1, 1) := by decide +kernel
theorem dX12_show_86 : decode cX12_show 86 = .ok (.isub, 1) := by decide +kernel
theorem dX12_show_87 : decode cX12_show 87 = .ok (.ireturn, 1) := by decide +kernel
theorem dX12_noTrial_0 : decode cX12_noTrial 0 = .ok (.aload_n 0, 1) := by decide +kernel
theorem dX12_noTrial_1 : decode cX12_noTrial 1 = .ok (.getfield 7, 3) := by decide +kernel
theorem dX12_noTrial_4 : decode cX12_noTrial 4 = .ok (.iconst 4, 1) := by decide +kernel
theorem dX12_noTrial_5 : decode cX12_noTrial 5 = .ok (.iaload, 1) := by decide +kernel
theorem dX12_noTrial_6 : decode cX12_noTrial 6 = .ok (.aload_n 0, 1) := by decide +kernel
theorem dX12_noTrial_7 : decode cX12_noTrial 7 = .ok (.getfield 7, 3) := by decide +kernel
theorem dX12_noTrial_10 : decode cX12_noTrial 10 = .ok (.iconst 5, 1) := by decide +kernel
theorem dX12_noTrial_11 : decode cX12_noTrial 11 = .ok (.iaload, 1) := by decide +kernel
theorem dX12_noTrial_12 : decode cX12_noTrial 12 = .ok (.iadd, 1) := by decide +kernel
theorem dX12_noTrial_13 : decode cX12_noTrial 13 = .ok (.istore_n 1, 1) := by decide +kernel
theorem dX12_noTrial_14 : decode cX12_noTrial 14 = .ok (.aload_n 0, 1) := by decide +kernel
theorem dX12_noTrial_15 : decode cX12_noTrial 15 = .ok (.getfield 7, 3) := by decide +kernel
theorem dX12_noTrial_18 : decode cX12_noTrial 18 = .ok (.iconst 4, 1) := by decide +kernel
theorem dX12_noTrial_19 : decode cX12_noTrial 19 = .ok (.iconst 0, 1) := by decide +kernel
theorem dX12_noTrial_20 : decode cX12_noTrial 20 = .ok (.iastore, 1) := by decide +kernel
theorem dX12_noTrial_21 : decode cX12_noTrial 21 = .ok (.aload_n 0, 1) := by decide +kernel
theorem dX12_noTrial_22 : decode cX12_noTrial 22 = .ok (.getfield 7, 3) := by decide +kernel
theorem dX12_noTrial_25 : decode cX12_noTrial 25 = .ok (.iconst 5, 1) := by decide +kernel
theorem dX12_noTrial_26 : decode cX12_noTrial 26 = .ok (.iconst 0, 1) := by decide +kernel
theorem dX12_noTrial_27 : decode cX12_noTrial 27 = .ok (.iastore, 1) := by decide +kernel
theorem dX12_noTrial_28 : decode cX12_noTrial 28 = .ok (.iload_n 1, 1) := by decide +kernel
theorem dX12_noTrial_29 : decode cX12_noTrial 29 = .ok (.ireturn, 1) := by decide +kernel
theorem dX12_weightOf_0 : decode cX12_weightOf 0 = .ok (.iconst 0, 1) := by decide +kernel
theorem dX12_weightOf_1 : decode cX12_weightOf 1 = .ok (.istore_n 3, 1) := by decide +kernel
theorem dX12_weightOf_2 : decode cX12_weightOf 2 = .ok (.iconst 0, 1) := by decide +kernel
theorem dX12_weightOf_3 : decode cX12_weightOf 3 = .ok (.istore 4, 2) := by decide +kernel
theorem dX12_weightOf_5 : decode cX12_weightOf 5 = .ok (.iload 4, 2) := by decide +kernel
theorem dX12_weightOf_7 : decode cX12_weightOf 7 = .ok (.aload_n 0, 1) := by decide +kernel
theorem dX12_weightOf_8 : decode cX12_weightOf 8 = .ok (.getfield 7, 3) := by decide +kernel
theorem dX12_weightOf_11 : decode cX12_weightOf 11 = .ok (.iconst 4, 1) := by decide +kernel
theorem dX12_weightOf_12 : decode cX12_weightOf 12 = .ok (.iload_n 1, 1) := by decide +kernel
theorem dX12_weightOf_13 : decode cX12_weightOf 13 = .ok (.iadd, 1) := by decide +kernel
theorem dX12_weightOf_14 : decode cX12_weightOf 14 = .ok (.iaload, 1) := by decide +kernel
theorem dX12_weightOf_15 : decode cX12_weightOf 15 = .ok (.if_icmp .ge 33, 3) := by decide +kernel
theorem dX12_weightOf_18 : decode cX12_weightOf 18 = .ok (.iload_n 3, 1) := by decide +kernel
theorem dX12_weightOf_19 : decode cX12_weightOf 19 = .ok (.iload_n 2, 1) := by decide +kernel
theorem dX12_weightOf_20 : decode cX12_weightOf 20 = .ok (.iload 4, 2) := by decide +kernel
theorem dX12_weightOf_22 : decode cX12_weightOf 22 = .ok (.ishr, 1) := by decide +kernel
theorem dX12_weightOf_23 : decode cX12_weightOf 23 = .ok (.iconst 1, 1) := by decide +kernel
theorem dX12_weightOf_24 : decode cX12_weightOf 24 = .ok (.iand, 1) := by decide +kernel
theorem dX12_weightOf_25 : decode cX12_weightOf 25 = .ok (.aload_n 0, 1) := by decide +kernel
theorem dX12_weightOf_26 : decode cX12_weightOf 26 = .ok (.getfield 7, 3) := by decide +kernel
theorem dX12_weightOf_29 : decode cX12_weightOf 29 = .ok (.bipush 125, 2) := by decide +kernel
theorem dX12_weightOf_31 : decode cX12_weightOf 31 = .ok (.iconst 4, 1) := by decide +kernel
theorem dX12_weightOf_32 : decode cX12_weightOf 32 = .ok (.iload_n 1, 1) := by decide +kernel
theorem dX12_weightOf_33 : decode cX12_weightOf 33 = .ok (.imul, 1) := by decide +kernel
theorem dX12_weightOf_34 : decode cX12_weightOf 34 = .ok (.iadd, 1) := by decide +kernel
theorem dX12_weightOf_35 : decode cX12_weightOf 35 = .ok (.iload 4, 2) := by decide +kernel
theorem dX12_weightOf_37 : decode cX12_weightOf 37 = .ok (.iadd, 1) := by decide +kernel
theorem dX12_weightOf_38 : decode cX12_weightOf 38 = .ok (.iaload, 1) := by decide +kernel
theorem dX12_weightOf_39 : decode cX12_weightOf 39 = .ok (.imul, 1) := by decide +kernel
theorem dX12_weightOf_40 : decode cX12_weightOf 40 = .ok (.iadd, 1) := by decide +kernel
theorem dX12_weightOf_41 : decode cX12_weightOf 41 = .ok (.istore_n 3, 1) := by decide +kernel
theorem dX12_weightOf_42 : decode cX12_weightOf 42 = .ok (.iinc 4 1, 3) := by decide +kernel
theorem dX12_weightOf_45 : decode cX12_weightOf 45 = .ok (.goto (-40), 3) := by decide +kernel
theorem dX12_weightOf_48 : decode cX12_weightOf 48 = .ok (.iload_n 3, 1) := by decide +kernel
theorem dX12_weightOf_49 : decode cX12_weightOf 49 = .ok (.ireturn, 1) := by decide +kernel
theorem dX12_behind_0 : decode cX12_behind 0 = .ok (.aload_n 0, 1) := by decide +kernel
theorem dX12_behind_1 : decode cX12_behind 1 = .ok (.iconst 0, 1) := by decide +kernel
theorem dX12_behind_2 : decode cX12_behind 2 = .ok (.iload_n 1, 1) := by decide +kernel
theorem dX12_behind_3 : decode cX12_behind 3 = .ok (.invokevirtual 159, 3) := by decide +kernel
theorem dX12_behind_6 : decode cX12_behind 6 = .ok (.aload_n 0, 1) := by decide +kernel
theorem dX12_behind_7 : decode cX12_behind 7 = .ok (.iconst 1, 1) := by decide +kernel
theorem dX12_behind_8 : decode cX12_behind 8 = .ok (.iload_n 2, 1) := by decide +kernel
theorem dX12_behind_9 : decode cX12_behind 9 = .ok (.invokevirtual 159, 3) := by decide +kernel
theorem dX12_behind_12 : decode cX12_behind 12 = .ok (.isub, 1) := by decide +kernel
theorem dX12_behind_13 : decode cX12_behind 13 = .ok (.iload 4, 2) := by decide +kernel
theorem dX12_behind_15 : decode cX12_behind 15 = .ok (.if_icmp .lt 7, 3) := by decide +kernel
theorem dX12_behind_18 : decode cX12_behind 18 = .ok (.iconst 0, 1) := by decide +kernel
theorem dX12_behind_19 : decode cX12_behind 19 = .ok (.goto 18, 3) := by decide +kernel
theorem dX12_behind_22 : decode cX12_behind 22 = .ok (.aload_n 0, 1) := by decide +kernel
theorem dX12_behind_23 : decode cX12_behind 23 = .ok (.getfield 38, 3) := by decide +kernel
theorem dX12_behind_26 : decode cX12_behind 26 = .ok (.bipush 32, 2) := by decide +kernel
theorem dX12_behind_28 : decode cX12_behind 28 = .ok (.iload_n 1, 1) := by decide +kernel
theorem dX12_behind_29 : decode cX12_behind 29 = .ok (.imul, 1) := by decide +kernel
theorem dX12_behind_30 : decode cX12_behind 30 = .ok (.iconst 2, 1) := by decide +kernel
theorem dX12_behind_31 : decode cX12_behind 31 = .ok (.iload_n 2, 1) := by decide +kernel
theorem dX12_behind_32 : decode cX12_behind 32 = .ok (.imul, 1) := by decide +kernel
theorem dX12_behind_33 : decode cX12_behind 33 = .ok (.iadd, 1) := by decide +kernel
theorem dX12_behind_34 : decode cX12_behind 34 = .ok (.iload_n 3, 1) := by decide +kernel
theorem dX12_behind_35 : decode cX12_behind 35 = .ok (.iadd, 1) := by decide +kernel
theorem dX12_behind_36 : decode cX12_behind 36 = .ok (.iaload, 1) := by decide +kernel
theorem dX12_behind_37 : decode cX12_behind 37 = .ok (.ireturn, 1) := by decide +kernel
theorem dX12_reckons_0 : decode cX12_reckons 0 = .ok (.bipush 15, 2) := by decide +kernel
theorem dX12_reckons_2 : decode cX12_reckons 2 = .ok (.istore_n 2, 1) := by decide +kernel
theorem dX12_reckons_3 : decode cX12_reckons 3 = .ok (.iload_n 2, 1) := by decide +kernel
theorem dX12_reckons_4 : decode cX12_reckons 4 = .ok (.ifCond .lt 204, 3) := by decide +kernel
theorem dX12_reckons_7 : decode cX12_reckons 7 = .ok (.bipush 15, 2) := by decide +kernel
theorem dX12_reckons_9 : decode cX12_reckons 9 = .ok (.istore_n 3, 1) := by decide +kernel
theorem dX12_reckons_10 : decode cX12_reckons 10 = .ok (.iload_n 3, 1) := by decide +kernel
theorem dX12_reckons_11 : decode cX12_reckons 11 = .ok (.ifCond .lt 191, 3) := by decide +kernel
theorem dX12_reckons_14 : decode cX12_reckons 14 = .ok (.iconst (-1), 1) := by decide +kernel
theorem dX12_reckons_15 : decode cX12_reckons 15 = .ok (.istore 4, 2) := by decide +kernel
theorem dX12_reckons_17 : decode cX12_reckons 17 = .ok (.iconst 0, 1) := by decide +kernel
theorem dX12_reckons_18 : decode cX12_reckons 18 = .ok (.istore 5, 2) := by decide +kernel
theorem dX12_reckons_20 : decode cX12_reckons 20 = .ok (.iconst 0, 1) := by decide +kernel
theorem dX12_reckons_21 : decode cX12_reckons 21 = .ok (.istore 6, 2) := by decide +kernel
theorem dX12_reckons_23 : decode cX12_reckons 23 = .ok (.iload 6, 2) := by decide +kernel
theorem dX12_reckons_25 : decode cX12_reckons 25 = .ok (.aload_n 0, 1) := by decide +kernel
theorem dX12_reckons_26 : decode cX12_reckons 26 = .ok (.getfield 7, 3) := by decide +kernel
theorem dX12_reckons_29 : decode cX12_reckons 29 = .ok (.iconst 4, 1) := by decide +kernel
theorem dX12_reckons_30 : decode cX12_reckons 30 = .ok (.iaload, 1) := by decide +kernel
theorem dX12_reckons_31 : decode cX12_reckons 31 = .ok (.if_icmp .ge 57, 3) := by decide +kernel
theorem dX12_reckons_34 : decode cX12_reckons 34 = .ok (.iload_n 2, 1) := by decide +kernel
theorem dX12_reckons_35 : decode cX12_reckons 35 = .ok (.iload 6, 2) := by decide +kernel
theorem dX12_reckons_37 : decode cX12_reckons 37 = .ok (.ishr, 1) := by decide +kernel
theorem dX12_reckons_38 : decode cX12_reckons 38 = .ok (.iconst 1, 1) := by decide +kernel
theorem dX12_reckons_39 : decode cX12_reckons 39 = .ok (.iand, 1) := by decide +kernel
theorem dX12_reckons_40 : decode cX12_reckons 40 = .ok (.ifCond .ne 42, 3) := by decide +kernel
theorem dX12_reckons_43 : decode cX12_reckons 43 = .ok (.iconst 1, 1) := by decide +kernel
theorem dX12_reckons_44 : decode cX12_reckons 44 = .ok (.aload_n 0, 1) := by decide +kernel
theorem dX12_reckons_45 : decode cX12_reckons 45 = .ok (.iload_n 2, 1) := by decide +kernel
theorem dX12_reckons_46 : decode cX12_reckons 46 = .ok (.iconst 1, 1) := by decide +kernel
theorem dX12_reckons_47 : decode cX12_reckons 47 = .ok (.iload 6, 2) := by decide +kernel
theorem dX12_reckons_49 : decode cX12_reckons 49 = .ok (.ishl, 1) := by decide +kernel
theorem dX12_reckons_50 : decode cX12_reckons 50 = .ok (.ior, 1) := by decide +kernel
theorem dX12_reckons_51 : decode cX12_reckons 51 = .ok (.iload_n 3, 1) := by decide +kernel
theorem dX12_reckons_52 : decode cX12_reckons 52 = .ok (.iconst 1, 1) := by decide +kernel
theorem dX12_reckons_53 : decode cX12_reckons 53 = .ok (.iload_n 1, 1) := by decide +kernel
theorem dX12_reckons_54 : decode cX12_reckons 54 = .ok (.invokevirtual 162, 3) := by decide +kernel
theorem dX12_reckons_57 : decode cX12_reckons 57 = .ok (.iadd, 1) := by decide +kernel
theorem dX12_reckons_58 : decode cX12_reckons 58 = .ok (.istore 7, 2) := by decide +kernel
theorem dX12_reckons_60 : decode cX12_reckons 60 = .ok (.iload 4, 2) := by decide +kernel
theorem dX12_reckons_62 : decode cX12_reckons 62 = .ok (.iconst (-1), 1) := by decide +kernel
theorem dX12_reckons_63 : decode cX12_reckons 63 = .ok (.if_icmp .eq 10, 3) := by decide +kernel
theorem dX12_reckons_66 : decode cX12_reckons 66 = .ok (.iload 7, 2) := by decide +kernel
theorem dX12_reckons_68 : decode cX12_reckons 68 = .ok (.iload 4, 2) := by decide +kernel
theorem dX12_reckons_70 : decode cX12_reckons 70 = .ok (.if_icmp .ge 8, 3) := by decide +kernel
theorem dX12_reckons_73 : decode cX12_reckons 73 = .ok (.iload 7, 2) := by decide +kernel
theorem dX12_reckons_75 : decode cX12_reckons 75 = .ok (.goto 5, 3) := by decide +kernel
theorem dX12_reckons_78 : decode cX12_reckons 78 = .ok (.iload 4, 2) := by decide +kernel
theorem dX12_reckons_80 : decode cX12_reckons 80 = .ok (.istore 4, 2) := by decide +kernel
theorem dX12_reckons_82 : decode cX12_reckons 82 = .ok (.iinc 6 1, 3) := by decide +kernel
theorem dX12_reckons_85 : decode cX12_reckons 85 = .ok (.goto (-62), 3) := by decide +kernel
theorem dX12_reckons_88 : decode cX12_reckons 88 = .ok (.iconst 0, 1) := by decide +kernel
theorem dX12_reckons_89 : decode cX12_reckons 89 = .ok (.istore 6, 2) := by decide +kernel
theorem dX12_reckons_91 : decode cX12_reckons 91 = .ok (.iload 6, 2) := by decide +kernel
theorem dX12_reckons_93 : decode cX12_reckons 93 = .ok (.aload_n 0, 1) := by decide +kernel
theorem dX12_reckons_94 : decode cX12_reckons 94 = .ok (.getfield 7, 3) := by decide +kernel
theorem dX12_reckons_97 : decode cX12_reckons 97 = .ok (.iconst 5, 1) := by decide +kernel
theorem dX12_reckons_98 : decode cX12_reckons 98 = .ok (.iaload, 1) := by decide +kernel
theorem dX12_reckons_99 : decode cX12_reckons 99 = .ok (.if_icmp .ge 55, 3) := by decide +kernel
theorem dX12_reckons_102 : decode cX12_reckons 102 = .ok (.iload_n 3, 1) := by decide +kernel
theorem dX12_reckons_103 : decode cX12_reckons 103 = .ok (.iload 6, 2) := by decide +kernel
theorem dX12_reckons_105 : decode cX12_reckons 105 = .ok (.ishr, 1) := by decide +kernel
theorem dX12_reckons_106 : decode cX12_reckons 106 = .ok (.iconst 1, 1) := by decide +kernel
theorem dX12_reckons_107 : decode cX12_reckons 107 = .ok (.iand, 1) := by decide +kernel
theorem dX12_reckons_108 : decode cX12_reckons 108 = .ok (.ifCond .ne 21, 3) := by decide +kernel
theorem dX12_reckons_111 : decode cX12_reckons 111 = .ok (.iconst 1, 1) := by decide +kernel
theorem dX12_reckons_112 : decode cX12_reckons 112 = .ok (.aload_n 0, 1) := by decide +kernel
theorem dX12_reckons_113 : decode cX12_reckons 113 = .ok (.iload_n 2, 1) := by decide +kernel
theorem dX12_reckons_114 : decode cX12_reckons 114 = .ok (.iload_n 3, 1) := by decide +kernel
theorem dX12_reckons_115 : decode cX12_reckons 115 = .ok (.iconst 1, 1) := by decide +kernel
theorem dX12_reckons_116 : decode cX12_reckons 116 = .ok (.iload 6, 2) := by decide +kernel
theorem dX12_reckons_118 : decode cX12_reckons 118 = .ok (.ishl, 1) := by decide +kernel
theorem dX12_reckons_119 : decode cX12_reckons 119 = .ok (.ior, 1) := by decide +kernel
theorem dX12_reckons_120 : decode cX12_reckons 120 = .ok (.iconst 0, 1) := by decide +kernel
theorem dX12_reckons_121 : decode cX12_reckons 121 = .ok (.iload_n 1, 1) := by decide +kernel
theorem dX12_reckons_122 : decode cX12_reckons 122 = .ok (.invokevirtual 162, 3) := by decide +kernel
theorem dX12_reckons_125 : decode cX12_reckons 125 = .ok (.iadd, 1) := by decide +kernel
theorem dX12_reckons_126 : decode cX12_reckons 126 = .ok (.goto 4, 3) := by decide +kernel
theorem dX12_reckons_129 : decode cX12_reckons 129 = .ok (.iconst 0, 1) := by decide +kernel
theorem dX12_reckons_130 : decode cX12_reckons 130 = .ok (.istore 7, 2) := by decide +kernel
theorem dX12_reckons_132 : decode cX12_reckons 132 = .ok (.iload 7, 2) := by decide +kernel
theorem dX12_reckons_134 : decode cX12_reckons 134 = .ok (.iload 5, 2) := by decide +kernel
theorem dX12_reckons_136 : decode cX12_reckons 136 = .ok (.if_icmp .le 8, 3) := by decide +kernel
theorem dX12_reckons_139 : decode cX12_reckons 139 = .ok (.iload 7, 2) := by decide +kernel
theorem dX12_reckons_141 : decode cX12_reckons 141 = .ok (.goto 5, 3) := by decide +kernel
theorem dX12_reckons_144 : decode cX12_reckons 144 = .ok (.iload 5, 2) := by decide +kernel
theorem dX12_reckons_146 : decode cX12_reckons 146 = .ok (.istore 5, 2) := by decide +kernel
theorem dX12_reckons_148 : decode cX12_reckons 148 = .ok (.iinc 6 1, 3) := by decide +kernel
theorem dX12_reckons_151 : decode cX12_reckons 151 = .ok (.goto (-60), 3) := by decide +kernel
theorem dX12_reckons_154 : decode cX12_reckons 154 = .ok (.aload_n 0, 1) := by decide +kernel
theorem dX12_reckons_155 : decode cX12_reckons 155 = .ok (.getfield 38, 3) := by decide +kernel
theorem dX12_reckons_158 : decode cX12_reckons 158 = .ok (.bipush 32, 2) := by decide +kernel
theorem dX12_reckons_160 : decode cX12_reckons 160 = .ok (.iload_n 2, 1) := by decide +kernel
theorem dX12_reckons_161 : decode cX12_reckons 161 = .ok (.imul, 1) := by decide +kernel
theorem dX12_reckons_162 : decode cX12_reckons 162 = .ok (.iconst 2, 1) := by decide +kernel
theorem dX12_reckons_163 : decode cX12_reckons 163 = .ok (.iload_n 3, 1) := by decide +kernel
theorem dX12_reckons_164 : decode cX12_reckons 164 = .ok (.imul, 1) := by decide +kernel
theorem dX12_reckons_165 : decode cX12_reckons 165 = .ok (.iadd, 1) := by decide +kernel
theorem dX12_reckons_166 : decode cX12_reckons 166 = .ok (.iload 4, 2) := by decide +kernel
theorem dX12_reckons_168 : decode cX12_reckons 168 = .ok (.iconst (-1), 1) := by decide +kernel
theorem dX12_reckons_169 : decode cX12_reckons 169 = .ok (.if_icmp .ne 7, 3) := by decide +kernel
theorem dX12_reckons_172 : decode cX12_reckons 172 = .ok (.iconst 0, 1) := by decide +kernel
theorem dX12_reckons_173 : decode cX12_reckons 173 = .ok (.goto 5, 3) := by decide +kernel
theorem dX12_reckons_176 : decode cX12_reckons 176 = .ok (.iload 4, 2) := by decide +kernel
theorem dX12_reckons_178 : decode cX12_reckons 178 = .ok (.iastore, 1) := by decide +kernel
theorem dX12_reckons_179 : decode cX12_reckons 179 = .ok (.aload_n 0, 1) := by decide +kernel
theorem dX12_reckons_180 : decode cX12_reckons 180 = .ok (.getfield 38, 3) := by decide +kernel
theorem dX12_reckons_183 : decode cX12_reckons 183 = .ok (.bipush 32, 2) := by decide +kernel
theorem dX12_reckons_185 : decode cX12_reckons 185 = .ok (.iload_n 2, 1) := by decide +kernel
theorem dX12_reckons_186 : decode cX12_reckons 186 = .ok (.imul, 1) := by decide +kernel
theorem dX12_reckons_187 : decode cX12_reckons 187 = .ok (.iconst 2, 1) := by decide +kernel
theorem dX12_reckons_188 : decode cX12_reckons 188 = .ok (.iload_n 3, 1) := by decide +kernel
theorem dX12_reckons_189 : decode cX12_reckons 189 = .ok (.imul, 1) := by decide +kernel
theorem dX12_reckons_190 : decode cX12_reckons 190 = .ok (.iadd, 1) := by decide +kernel
theorem dX12_reckons_191 : decode cX12_reckons 191 = .ok (.iconst 1, 1) := by decide +kernel
theorem dX12_reckons_192 : decode cX12_reckons 192 = .ok (.iadd, 1) := by decide +kernel
theorem dX12_reckons_193 : decode cX12_reckons 193 = .ok (.iload 5, 2) := by decide +kernel
theorem dX12_reckons_195 : decode cX12_reckons 195 = .ok (.iastore, 1) := by decide +kernel
theorem dX12_reckons_196 : decode cX12_reckons 196 = .ok (.iinc 3 (-1), 3) := by decide +kernel
theorem dX12_reckons_199 : decode cX12_reckons 199 = .ok (.goto (-189), 3) := by decide +kernel
theorem dX12_reckons_202 : decode cX12_reckons 202 = .ok (.iinc 2 (-1), 3) := by decide +kernel
theorem dX12_reckons_205 : decode cX12_reckons 205 = .ok (.goto (-202), 3) := by decide +kernel
theorem dX12_reckons_208 : decode cX12_reckons 208 = .ok (.return_, 1) := by decide +kernel
theorem dX12_lasts_0 : decode cX12_lasts 0 = .ok (.iload_n 1, 1) := by decide +kernel
theorem dX12_lasts_1 : decode cX12_lasts 1 = .ok (.i2l, 1) := by decide +kernel
theorem dX12_lasts_2 : decode cX12_lasts 2 = .ok (.lconst 1, 1) := by decide +kernel
theorem dX12_lasts_3 : decode cX12_lasts 3 = .ok (.ldc2_w 72, 3) := by decide +kernel
theorem dX12_lasts_6 : decode cX12_lasts 6 = .ok (.invokestatic 59, 3) := by decide +kernel
theorem dX12_lasts_9 : decode cX12_lasts 9 = .ok (.ifCond .eq 13, 3) := by decide +kernel
theorem dX12_lasts_12 : decode cX12_lasts 12 = .ok (.iload_n 2, 1) := by decide +kernel
theorem dX12_lasts_13 : decode cX12_lasts 13 = .ok (.i2l, 1) := by decide +kernel
theorem dX12_lasts_14 : decode cX12_lasts 14 = .ok (.lconst 0, 1) := by decide +kernel
theorem dX12_lasts_15 : decode cX12_lasts 15 = .ok (.lconst 1, 1) := by decide +kernel
theorem dX12_lasts_16 : decode cX12_lasts 16 = .ok (.invokestatic 59, 3) := by decide +kernel
theorem dX12_lasts_19 : decode cX12_lasts 19 = .ok (.ifCond .ne 8, 3) := by decide +kernel
theorem dX12_lasts_22 : decode cX12_lasts 22 = .ok (.aload_n 0, 1) := by decide +kernel
theorem dX12_lasts_23 : decode cX12_lasts 23 = .ok (.invokevirtual 74, 3) := by decide +kernel
theorem dX12_lasts_26 : decode cX12_lasts 26 = .ok (.ireturn, 1) := by decide +kernel
theorem dX12_lasts_27 : decode cX12_lasts 27 = .ok (.aload_n 0, 1) := by decide +kernel
theorem dX12_lasts_28 : decode cX12_lasts 28 = .ok (.iload_n 1, 1) := by decide +kernel
theorem dX12_lasts_29 : decode cX12_lasts 29 = .ok (.invokevirtual 166, 3) := by decide +kernel
theorem dX12_lasts_32 : decode cX12_lasts 32 = .ok (.iconst (-1), 1) := by decide +kernel
theorem dX12_lasts_33 : decode cX12_lasts 33 = .ok (.istore_n 3, 1) := by decide +kernel
theorem dX12_lasts_34 : decode cX12_lasts 34 = .ok (.aload_n 0, 1) := by decide +kernel
theorem dX12_lasts_35 : decode cX12_lasts 35 = .ok (.getfield 7, 3) := by decide +kernel
theorem dX12_lasts_38 : decode cX12_lasts 38 = .ok (.iconst 4, 1) := by decide +kernel
theorem dX12_lasts_39 : decode cX12_lasts 39 = .ok (.iaload, 1) := by decide +kernel
theorem dX12_lasts_40 : decode cX12_lasts 40 = .ok (.iconst 1, 1) := by decide +kernel
theorem dX12_lasts_41 : decode cX12_lasts 41 = .ok (.isub, 1) := by decide +kernel
theorem dX12_lasts_42 : decode cX12_lasts 42 = .ok (.istore 4, 2) := by decide +kernel
theorem dX12_lasts_44 : decode cX12_lasts 44 = .ok (.iload 4, 2) := by decide +kernel
theorem dX12_lasts_46 : decode cX12_lasts 46 = .ok (.ifCond .lt 38, 3) := by decide +kernel
theorem dX12_lasts_49 : decode cX12_lasts 49 = .ok (.iconst 1, 1) := by decide +kernel
theorem dX12_lasts_50 : decode cX12_lasts 50 = .ok (.aload_n 0, 1) := by decide +kernel
theorem dX12_lasts_51 : decode cX12_lasts 51 = .ok (.iconst 1, 1) := by decide +kernel
theorem dX12_lasts_52 : decode cX12_lasts 52 = .ok (.iload 4, 2) := by decide +kernel
theorem dX12_lasts_54 : decode cX12_lasts 54 = .ok (.ishl, 1) := by decide +kernel
theorem dX12_lasts_55 : decode cX12_lasts 55 = .ok (.iconst 0, 1) := by decide +kernel
theorem dX12_lasts_56 : decode cX12_lasts 56 = .ok (.iconst 1, 1) := by decide +kernel
theorem dX12_lasts_57 : decode cX12_lasts 57 = .ok (.iload_n 1, 1) := by decide +kernel
theorem dX12_lasts_58 : decode cX12_lasts 58 = .ok (.invokevirtual 162, 3) := by decide +kernel
theorem dX12_lasts_61 : decode cX12_lasts 61 = .ok (.iadd, 1) := by decide +kernel
theorem dX12_lasts_62 : decode cX12_lasts 62 = .ok (.aload_n 0, 1) := by decide +kernel
theorem dX12_lasts_63 : decode cX12_lasts 63 = .ok (.getfield 38, 3) := by decide +kernel
theorem dX12_lasts_66 : decode cX12_lasts 66 = .ok (.iconst 0, 1) := by decide +kernel
theorem dX12_lasts_67 : decode cX12_lasts 67 = .ok (.iaload, 1) := by decide +kernel
theorem dX12_lasts_68 : decode cX12_lasts 68 = .ok (.if_icmp .ne 8, 3) := by decide +kernel
theorem dX12_lasts_71 : decode cX12_lasts 71 = .ok (.iload 4, 2) := by decide +kernel
theorem dX12_lasts_73 : decode cX12_lasts 73 = .ok (.goto 4, 3) := by decide +kernel
theorem dX12_lasts_76 : decode cX12_lasts 76 = .ok (.iload_n 3, 1) := by decide +kernel
theorem dX12_lasts_77 : decode cX12_lasts 77 = .ok (.istore_n 3, 1) := by decide +kernel
theorem dX12_lasts_78 : decode cX12_lasts 78 = .ok (.iinc 4 (-1), 3) := by decide +kernel
theorem dX12_lasts_81 : decode cX12_lasts 81 = .ok (.goto (-37), 3) := by decide +kernel
theorem dX12_lasts_84 : decode cX12_lasts 84 = .ok (.iload_n 2, 1) := by decide +kernel
theorem dX12_lasts_85 : decode cX12_lasts 85 = .ok (.ifCond .ne 12, 3) := by decide +kernel
theorem dX12_lasts_88 : decode cX12_lasts 88 = .ok (.aload_n 0, 1) := by decide +kernel
theorem dX12_lasts_89 : decode cX12_lasts 89 = .ok (.getfield 38, 3) := by decide +kernel
theorem dX12_lasts_92 : decode cX12_lasts 92 = .ok (.iconst 0, 1) := by decide +kernel
theorem dX12_lasts_93 : decode cX12_lasts 93 = .ok (.iaload, 1) := by decide +kernel
theorem dX12_lasts_94 : decode cX12_lasts 94 = .ok (.goto 4, 3) := by decide +kernel
theorem dX12_lasts_97 : decode cX12_lasts 97 = .ok (.iload_n 3, 1) := by decide +kernel
theorem dX12_lasts_98 : decode cX12_lasts 98 = .ok (.ireturn, 1) := by decide +kernel
theorem dX12_type_0 : decode cX12_type 0 = .ok (.iload_n 3, 1) := by decide +kernel
theorem dX12_type_1 : decode cX12_type 1 = .ok (.i2l, 1) := by decide +kernel
theorem dX12_type_2 : decode cX12_type 2 = .ok (.lconst 1, 1) := by decide +kernel
theorem dX12_type_3 : decode cX12_type 3 = .ok (.ldc2_w 170, 3) := by decide +kernel
theorem dX12_type_6 : decode cX12_type 6 = .ok (.invokestatic 59, 3) := by decide +kernel
theorem dX12_type_9 : decode cX12_type 9 = .ok (.ifCond .ne 8, 3) := by decide +kernel
theorem dX12_type_12 : decode cX12_type 12 = .ok (.aload_n 0, 1) := by decide +kernel
theorem dX12_type_13 : decode cX12_type 13 = .ok (.invokevirtual 74, 3) := by decide +kernel
theorem dX12_type_16 : decode cX12_type 16 = .ok (.ireturn, 1) := by decide +kernel
theorem dX12_type_17 : decode cX12_type 17 = .ok (.aload_n 0, 1) := by decide +kernel
theorem dX12_type_18 : decode cX12_type 18 = .ok (.getfield 172, 3) := by decide +kernel
theorem dX12_type_21 : decode cX12_type 21 = .ok (.iload_n 3, 1) := by decide +kernel
theorem dX12_type_22 : decode cX12_type 22 = .ok (.iadd, 1) := by decide +kernel
theorem dX12_type_23 : decode cX12_type 23 = .ok (.sipush 200, 3) := by decide +kernel
theorem dX12_type_26 : decode cX12_type 26 = .ok (.if_icmp .le 8, 3) := by decide +kernel
theorem dX12_type_29 : decode cX12_type 29 = .ok (.aload_n 0, 1) := by decide +kernel
theorem dX12_type_30 : decode cX12_type 30 = .ok (.invokevirtual 78, 3) := by decide +kernel
theorem dX12_type_33 : decode cX12_type 33 = .ok (.ireturn, 1) := by decide +kernel
theorem dX12_type_34 : decode cX12_type 34 = .ok (.iload_n 3, 1) := by decide +kernel
theorem dX12_type_35 : decode cX12_type 35 = .ok (.iconst 1, 1) := by decide +kernel
theorem dX12_type_36 : decode cX12_type 36 = .ok (.isub, 1) := by decide +kernel
theorem dX12_type_37 : decode cX12_type 37 = .ok (.istore 4, 2) := by decide +kernel
theorem dX12_type_39 : decode cX12_type 39 = .ok (.iload 4, 2) := by decide +kernel
theorem dX12_type_41 : decode cX12_type 41 = .ok (.ifCond .lt 40, 3) := by decide +kernel
theorem dX12_type_44 : decode cX12_type 44 = .ok (.aload_n 0, 1) := by decide +kernel
theorem dX12_type_45 : decode cX12_type 45 = .ok (.getfield 41, 3) := by decide +kernel
theorem dX12_type_48 : decode cX12_type 48 = .ok (.aload_n 0, 1) := by decide +kernel
theorem dX12_type_49 : decode cX12_type 49 = .ok (.getfield 172, 3) := by decide +kernel
theorem dX12_type_52 : decode cX12_type 52 = .ok (.lload_n 1, 1) := by decide +kernel
theorem dX12_type_53 : decode cX12_type 53 = .ok (.bipush 8, 2) := by decide +kernel
theorem dX12_type_55 : decode cX12_type 55 = .ok (.iload 4, 2) := by decide +kernel
theorem dX12_type_57 : decode cX12_type 57 = .ok (.imul, 1) := by decide +kernel
theorem dX12_type_58 : decode cX12_type 58 = .ok (.lshr, 1) := by decide +kernel
theorem dX12_type_59 : decode cX12_type 59 = .ok (.ldc2_w 176, 3) := by decide +kernel
theorem dX12_type_62 : decode cX12_type 62 = .ok (.land, 1) := by decide +kernel
theorem dX12_type_63 : decode cX12_type 63 = .ok (.l2i, 1) := by decide +kernel
theorem dX12_type_64 : decode cX12_type 64 = .ok (.iastore, 1) := by decide +kernel
theorem dX12_type_65 : decode cX12_type 65 = .ok (.aload_n 0, 1) := by decide +kernel
theorem dX12_type_66 : decode cX12_type 66 = .ok (.dup, 1) := by decide +kernel
theorem dX12_type_67 : decode cX12_type 67 = .ok (.getfield 172, 3) := by decide +kernel
theorem dX12_type_70 : decode cX12_type 70 = .ok (.iconst 1, 1) := by decide +kernel
theorem dX12_type_71 : decode cX12_type 71 = .ok (.iadd, 1) := by decide +kernel
theorem dX12_type_72 : decode cX12_type 72 = .ok (.putfield 172, 3) := by decide +kernel
theorem dX12_type_75 : decode cX12_type 75 = .ok (.iinc 4 (-1), 3) := by decide +kernel
theorem dX12_type_78 : decode cX12_type 78 = .ok (.goto (-39), 3) := by decide +kernel
theorem dX12_type_81 : decode cX12_type 81 = .ok (.aload_n 0, 1) := by decide +kernel
theorem dX12_type_82 : decode cX12_type 82 = .ok (.getfield 172, 3) := by decide +kernel
theorem dX12_type_85 : decode cX12_type 85 = .ok (.ireturn, 1) := by decide +kernel
theorem dX12_clear_0 : decode cX12_clear 0 = .ok (.aload_n 0, 1) := by decide +kernel
theorem dX12_clear_1 : decode cX12_clear 1 = .ok (.getfield 172, 3) := by decide +kernel
theorem dX12_clear_4 : decode cX12_clear 4 = .ok (.istore_n 1, 1) := by decide +kernel
theorem dX12_clear_5 : decode cX12_clear 5 = .ok (.aload_n 0, 1) := by decide +kernel
theorem dX12_clear_6 : decode cX12_clear 6 = .ok (.iconst 0, 1) := by decide +kernel
theorem dX12_clear_7 : decode cX12_clear 7 = .ok (.putfield 172, 3) := by decide +kernel
theorem dX12_clear_10 : decode cX12_clear 10 = .ok (.iload_n 1, 1) := by decide +kernel
theorem dX12_clear_11 : decode cX12_clear 11 = .ok (.ireturn, 1) := by decide +kernel
theorem dX12_isAt_0 : decode cX12_isAt 0 = .ok (.aload_n 0, 1) := by decide +kernel
theorem dX12_isAt_1 : decode cX12_isAt 1 = .ok (.getfield 178, 3) := by decide +kernel
theorem dX12_isAt_4 : decode cX12_isAt 4 = .ok (.aload_n 0, 1) := by decide +kernel
theorem dX12_isAt_5 : decode cX12_isAt 5 = .ok (.getfield 172, 3) := by decide +kernel
theorem dX12_isAt_8 : decode cX12_isAt 8 = .ok (.if_icmp .ge 27, 3) := by decide +kernel
theorem dX12_isAt_11 : decode cX12_isAt 11 = .ok (.aload_n 0, 1) := by decide +kernel
theorem dX12_isAt_12 : decode cX12_isAt 12 = .ok (.getfield 41, 3) := by decide +kernel
theorem dX12_isAt_15 : decode cX12_isAt 15 = .ok (.aload_n 0, 1) := by decide +kernel
theorem dX12_isAt_16 : decode cX12_isAt 16 = .ok (.getfield 178, 3) := by decide +kernel
theorem dX12_isAt_19 : decode cX12_isAt 19 = .ok (.iaload, 1) := by decide +kernel
theorem dX12_isAt_20 : decode cX12_isAt 20 = .ok (.i2l, 1) := by decide +kernel
theorem dX12_isAt_21 : decode cX12_isAt 21 = .ok (.iload_n 1, 1) := by decide +kernel
theorem dX12_isAt_22 : decode cX12_isAt 22 = .ok (.i2l, 1) := by decide +kernel
theorem dX12_isAt_23 : decode cX12_isAt 23 = .ok (.iload_n 2, 1) := by decide +kernel
theorem dX12_isAt_24 : decode cX12_isAt 24 = .ok (.i2l, 1) := by decide +kernel
theorem dX12_isAt_25 : decode cX12_isAt 25 = .ok (.invokestatic 59, 3) := by decide +kernel
theorem dX12_isAt_28 : decode cX12_isAt 28 = .ok (.ifCond .eq 7, 3) := by decide +kernel
theorem dX12_isAt_31 : decode cX12_isAt 31 = .ok (.iconst 1, 1) := by decide +kernel
theorem dX12_isAt_32 : decode cX12_isAt 32 = .ok (.goto 4, 3) := by decide +kernel
theorem dX12_isAt_35 : decode cX12_isAt 35 = .ok (.iconst 0, 1) := by decide +kernel
theorem dX12_isAt_36 : decode cX12_isAt 36 = .ok (.ireturn, 1) := by decide +kernel
theorem dX12_isSign_0 : decode cX12_isSign 0 = .ok (.aload_n 0, 1) := by decide +kernel
theorem dX12_isSign_1 : decode cX12_isSign 1 = .ok (.bipush 97, 2) := by decide +kernel
theorem dX12_isSign_3 : decode cX12_isSign 3 = .ok (.bipush 122, 2) := by decide +kernel
theorem dX12_isSign_5 : decode cX12_isSign 5 = .ok (.invokevirtual 181, 3) := by decide +kernel
theorem dX12_isSign_8 : decode cX12_isSign 8 = .ok (.ifCond .ne 25, 3) := by decide +kernel
theorem dX12_isSign_11 : decode cX12_isSign 11 = .ok (.aload_n 0, 1) := by decide +kernel
theorem dX12_isSign_12 : decode cX12_isSign 12 = .ok (.bipush 46, 2) := by decide +kernel
theorem dX12_isSign_14 : decode cX12_isSign 14 = .ok (.bipush 46, 2) := by decide +kernel
theorem dX12_isSign_16 : decode cX12_isSign 16 = .ok (.invokevirtual 181, 3) := by decide +kernel
theorem dX12_isSign_19 : decode cX12_isSign 19 = .ok (.ifCond .ne 14, 3) := by decide +kernel
theorem dX12_isSign_22 : decode cX12_isSign 22 = .ok (.aload_n 0, 1) := by decide +kernel
theorem dX12_isSign_23 : decode cX12_isSign 23 = .ok (.bipush 43, 2) := by decide +kernel
theorem dX12_isSign_25 : decode cX12_isSign 25 = .ok (.bipush 43, 2) := by decide +kernel
theorem dX12_isSign_27 : decode cX12_isSign 27 = .ok (.invokevirtual 181, 3) := by decide +kernel
theorem dX12_isSign_30 : decode cX12_isSign 30 = .ok (.ifCond .eq 7, 3) := by decide +kernel
theorem dX12_isSign_33 : decode cX12_isSign 33 = .ok (.iconst 1, 1) := by decide +kernel
theorem dX12_isSign_34 : decode cX12_isSign 34 = .ok (.goto 4, 3) := by decide +kernel
theorem dX12_isSign_37 : decode cX12_isSign 37 = .ok (.iconst 0, 1) := by decide +kernel
theorem dX12_isSign_38 : decode cX12_isSign 38 = .ok (.ireturn, 1) := by decide +kernel
theorem dX12_scans_0 : decode cX12_scans 0 = .ok (.aload_n 0, 1) := by decide +kernel
theorem dX12_scans_1 : decode cX12_scans 1 = .ok (.bipush 32, 2) := by decide +kernel
theorem dX12_scans_3 : decode cX12_scans 3 = .ok (.bipush 32, 2) := by decide +kernel
theorem dX12_scans_5 : decode cX12_scans 5 = .ok (.invokevirtual 181, 3) := by decide +kernel
theorem dX12_scans_8 : decode cX12_scans 8 = .ok (.ifCond .eq 16, 3) := by decide +kernel
theorem dX12_scans_11 : decode cX12_scans 11 = .ok (.aload_n 0, 1) := by decide +kernel
theorem dX12_scans_12 : decode cX12_scans 12 = .ok (.dup, 1) := by decide +kernel
theorem dX12_scans_13 : decode cX12_scans 13 = .ok (.getfield 178, 3) := by decide +kernel
theorem dX12_scans_16 : decode cX12_scans 16 = .ok (.iconst 1, 1) := by decide +kernel
theorem dX12_scans_17 : decode cX12_scans 17 = .ok (.iadd, 1) := by decide +kernel
theorem dX12_scans_18 : decode cX12_scans 18 = .ok (.putfield 178, 3) := by decide +kernel
theorem dX12_scans_21 : decode cX12_scans 21 = .ok (.goto (-21), 3) := by decide +kernel
theorem dX12_scans_24 : decode cX12_scans 24 = .ok (.aload_n 0, 1) := by decide +kernel
theorem dX12_scans_25 : decode cX12_scans 25 = .ok (.aload_n 0, 1) := by decide +kernel
theorem dX12_scans_26 : decode cX12_scans 26 = .ok (.getfield 178, 3) := by decide +kernel
theorem dX12_scans_29 : decode cX12_scans 29 = .ok (.putfield 185, 3) := by decide +kernel
theorem dX12_scans_32 : decode cX12_scans 32 = .ok (.aload_n 0, 1) := by decide +kernel
theorem dX12_scans_33 : decode cX12_scans 33 = .ok (.getfield 178, 3) := by decide +kernel
theorem dX12_scans_36 : decode cX12_scans 36 = .ok (.aload_n 0, 1) := by decide +kernel
theorem dX12_scans_37 : decode cX12_scans 37 = .ok (.getfield 172, 3) := by decide +kernel
theorem dX12_scans_40 : decode cX12_scans 40 = .ok (.if_icmp .ne 9, 3) := by decide +kernel
theorem dX12_scans_43 : decode cX12_scans 43 = .ok (.aload_n 0, 1) := by decide +kernel
theorem dX12_scans_44 : decode cX12_scans 44 = .ok (.iconst 0, 1) := by decide +kernel
theorem dX12_scans_45 : decode cX12_scans 45 = .ok (.putfield 188, 3) := by decide +kernel
theorem dX12_scans_48 : decode cX12_scans 48 = .ok (.return_, 1) := by decide +kernel
theorem dX12_scans_49 : decode cX12_scans 49 = .ok (.aload_n 0, 1) := by decide +kernel
theorem dX12_scans_50 : decode cX12_scans 50 = .ok (.invokevirtual 191, 3) := by decide +kernel
theorem dX12_scans_53 : decode cX12_scans 53 = .ok (.ifCond .eq 121, 3) := by decide +kernel
theorem dX12_scans_56 : decode cX12_scans 56 = .ok (.aload_n 0, 1) := by decide +kernel
theorem dX12_scans_57 : decode cX12_scans 57 = .ok (.lconst 0, 1) := by decide +kernel
theorem dX12_scans_58 : decode cX12_scans 58 = .ok (.putfield 195, 3) := by decide +kernel
theorem dX12_scans_61 : decode cX12_scans 61 = .ok (.aload_n 0, 1) := by decide +kernel
theorem dX12_scans_62 : decode cX12_scans 62 = .ok (.iconst 1, 1) := by decide +kernel
theorem dX12_scans_63 : decode cX12_scans 63 = .ok (.putfield 198, 3) := by decide +kernel
theorem dX12_scans_66 : decode cX12_scans 66 = .ok (.aload_n 0, 1) := by decide +kernel
theorem dX12_scans_67 : decode cX12_scans 67 = .ok (.invokevirtual 191, 3) := by decide +kernel
theorem dX12_scans_70 : decode cX12_scans 70 = .ok (.ifCond .eq 98, 3) := by decide +kernel
theorem dX12_scans_73 : decode cX12_scans 73 = .ok (.aload_n 0, 1) := by decide +kernel
theorem dX12_scans_74 : decode cX12_scans 74 = .ok (.aload_n 0, 1) := by decide +kernel
theorem dX12_scans_75 : decode cX12_scans 75 = .ok (.getfield 198, 3) := by decide +kernel
theorem dX12_scans_78 : decode cX12_scans 78 = .ok (.ifCond .eq 18, 3) := by decide +kernel
theorem dX12_scans_81 : decode cX12_scans 81 = .ok (.aload_n 0, 1) := by decide +kernel
theorem dX12_scans_82 : decode cX12_scans 82 = .ok (.bipush 97, 2) := by decide +kernel
theorem dX12_scans_84 : decode cX12_scans 84 = .ok (.bipush 122, 2) := by decide +kernel
theorem dX12_scans_86 : decode cX12_scans 86 = .ok (.invokevirtual 181, 3) := by decide +kernel
theorem dX12_scans_89 : decode cX12_scans 89 = .ok (.ifCond .eq 7, 3) := by decide +kernel
theorem dX12_scans_92 : decode cX12_scans 92 = .ok (.iconst 1, 1) := by decide +kernel
theorem dX12_scans_93 : decode cX12_scans 93 = .ok (.goto 4, 3) := by decide +kernel
theorem dX12_scans_96 : decode cX12_scans 96 = .ok (.iconst 0, 1) := by decide +kernel
theorem dX12_scans_97 : decode cX12_scans 97 = .ok (.putfield 198, 3) := by decide +kernel
theorem dX12_scans_100 : decode cX12_scans 100 = .ok (.aload_n 0, 1) := by decide +kernel
theorem dX12_scans_101 : decode cX12_scans 101 = .ok (.aload_n 0, 1) := by decide +kernel
theorem dX12_scans_102 : decode cX12_scans 102 = .ok (.getfield 178, 3) := by decide +kernel
theorem dX12_scans_105 : decode cX12_scans 105 = .ok (.aload_n 0, 1) := by decide +kernel
theorem dX12_scans_106 : decode cX12_scans 106 = .ok (.getfield 185, 3) := by decide +kernel
theorem dX12_scans_109 : decode cX12_scans 109 = .ok (.isub, 1) := by decide +kernel
theorem dX12_scans_110 : decode cX12_scans 110 = .ok (.iconst 5, 1) := by decide +kernel
theorem dX12_scans_111 : decode cX12_scans 111 = .ok (.if_icmp .gt 10, 3) := by decide +kernel
theorem dX12_scans_114 : decode cX12_scans 114 = .ok (.aload_n 0, 1) := by decide +kernel
theorem dX12_scans_115 : decode cX12_scans 115 = .ok (.getfield 198, 3) := by decide +kernel
theorem dX12_scans_118 : decode cX12_scans 118 = .ok (.ifCond .ne 9, 3) := by decide +kernel
theorem dX12_scans_121 : decode cX12_scans 121 = .ok (.ldc2_w 201, 3) := by decide +kernel
theorem dX12_scans_124 : decode cX12_scans 124 = .ok (.goto 28, 3) := by decide +kernel
theorem dX12_scans_127 : decode cX12_scans 127 = .ok (.ldc2_w 203, 3) := by decide +kernel
theorem dX12_scans_130 : decode cX12_scans 130 = .ok (.aload_n 0, 1) := by decide +kernel
theorem dX12_scans_131 : decode cX12_scans 131 = .ok (.getfield 195, 3) := by decide +kernel
theorem dX12_scans_134 : decode cX12_scans 134 = .ok (.lmul, 1) := by decide +kernel
theorem dX12_scans_135 : decode cX12_scans 135 = .ok (.aload_n 0, 1) := by decide +kernel
theorem dX12_scans_136 : decode cX12_scans 136 = .ok (.getfield 41, 3) := by decide +kernel
theorem dX12_scans_139 : decode cX12_scans 139 = .ok (.aload_n 0, 1) := by decide +kernel
theorem dX12_scans_140 : decode cX12_scans 140 = .ok (.getfield 178, 3) := by decide +kernel
theorem dX12_scans_143 : decode cX12_scans 143 = .ok (.iaload, 1) := by decide +kernel
theorem dX12_scans_144 : decode cX12_scans 144 = .ok (.i2l, 1) := by decide +kernel
theorem dX12_scans_145 : decode cX12_scans 145 = .ok (.ladd, 1) := by decide +kernel
theorem dX12_scans_146 : decode cX12_scans 146 = .ok (.ldc2_w 205, 3) := by decide +kernel
theorem dX12_scans_149 : decode cX12_scans 149 = .ok (.lsub, 1) := by decide +kernel
theorem dX12_scans_150 : decode cX12_scans 150 = .ok (.lconst 1, 1) := by decide +kernel
theorem dX12_scans_151 : decode cX12_scans 151 = .ok (.ladd, 1) := by decide +kernel
theorem dX12_scans_152 : decode cX12_scans 152 = .ok (.putfield 195, 3) := by decide +kernel
theorem dX12_scans_155 : decode cX12_scans 155 = .ok (.aload_n 0, 1) := by decide +kernel
theorem dX12_scans_156 : decode cX12_scans 156 = .ok (.dup, 1) := by decide +kernel
theorem dX12_scans_157 : decode cX12_scans 157 = .ok (.getfield 178, 3) := by decide +kernel
theorem dX12_scans_160 : decode cX12_scans 160 = .ok (.iconst 1, 1) := by decide +kernel
theorem dX12_scans_161 : decode cX12_scans 161 = .ok (.iadd, 1) := by decide +kernel
theorem dX12_scans_162 : decode cX12_scans 162 = .ok (.putfield 178, 3) := by decide +kernel
theorem dX12_scans_165 : decode cX12_scans 165 = .ok (.goto (-99), 3) := by decide +kernel
theorem dX12_scans_168 : decode cX12_scans 168 = .ok (.aload_n 0, 1) := by decide +kernel
theorem dX12_scans_169 : decode cX12_scans 169 = .ok (.iconst 4, 1) := by decide +kernel
theorem dX12_scans_170 : decode cX12_scans 170 = .ok (.putfield 188, 3) := by decide +kernel
theorem dX12_scans_173 : decode cX12_scans 173 = .ok (.return_, 1) := by decide +kernel
theorem dX12_scans_174 : decode cX12_scans 174 = .ok (.aload_n 0, 1) := by decide +kernel
theorem dX12_scans_175 : decode cX12_scans 175 = .ok (.bipush 48, 2) := by decide +kernel
theorem dX12_scans_177 : decode cX12_scans 177 = .ok (.bipush 57, 2) := by decide +kernel
theorem dX12_scans_179 : decode cX12_scans 179 = .ok (.invokevirtual 181, 3) := by decide +kernel
theorem dX12_scans_182 : decode cX12_scans 182 = .ok (.ifCond .eq 99, 3) := by decide +kernel
theorem dX12_scans_185 : decode cX12_scans 185 = .ok (.aload_n 0, 1) := by decide +kernel
theorem dX12_scans_186 : decode cX12_scans 186 = .ok (.iconst 0, 1) := by decide +kernel
theorem dX12_scans_187 : decode cX12_scans 187 = .ok (.putfield 207, 3) := by decide +kernel
theorem dX12_scans_190 : decode cX12_scans 190 = .ok (.aload_n 0, 1) := by decide +kernel
theorem dX12_scans_191 : decode cX12_scans 191 = .ok (.bipush 48, 2) := by decide +kernel
theorem dX12_scans_193 : decode cX12_scans 193 = .ok (.bipush 57, 2) := by decide +kernel
theorem dX12_scans_195 : decode cX12_scans 195 = .ok (.invokevirtual 181, 3) := by decide +kernel
theorem dX12_scans_198 : decode cX12_scans 198 = .ok (.ifCond .eq 60, 3) := by decide +kernel
theorem dX12_scans_201 : decode cX12_scans 201 = .ok (.aload_n 0, 1) := by decide +kernel
theorem dX12_scans_202 : decode cX12_scans 202 = .ok (.aload_n 0, 1) := by decide +kernel
theorem dX12_scans_203 : decode cX12_scans 203 = .ok (.getfield 178, 3) := by decide +kernel
theorem dX12_scans_206 : decode cX12_scans 206 = .ok (.aload_n 0, 1) := by decide +kernel
theorem dX12_scans_207 : decode cX12_scans 207 = .ok (.getfield 185, 3) := by decide +kernel
theorem dX12_scans_210 : decode cX12_scans 210 = .ok (.isub, 1) := by decide +kernel
theorem dX12_scans_211 : decode cX12_scans 211 = .ok (.iconst 2, 1) := by decide +kernel
theorem dX12_scans_212 : decode cX12_scans 212 = .ok (.if_icmp .ge 26, 3) := by decide +kernel
theorem dX12_scans_215 : decode cX12_scans 215 = .ok (.bipush 10, 2) := by decide +kernel
theorem dX12_scans_217 : decode cX12_scans 217 = .ok (.aload_n 0, 1) := by decide +kernel
theorem dX12_scans_218 : decode cX12_scans 218 = .ok (.getfield 207, 3) := by decide +kernel
theorem dX12_scans_221 : decode cX12_scans 221 = .ok (.imul, 1) := by decide +kernel
theorem dX12_scans_222 : decode cX12_scans 222 = .ok (.aload_n 0, 1) := by decide +kernel
theorem dX12_scans_223 : decode cX12_scans 223 = .ok (.getfield 41, 3) := by decide +kernel
theorem dX12_scans_226 : decode cX12_scans 226 = .ok (.aload_n 0, 1) := by decide +kernel
theorem dX12_scans_227 : decode cX12_scans 227 = .ok (.getfield 178, 3) := by decide +kernel
theorem dX12_scans_230 : decode cX12_scans 230 = .ok (.iaload, 1) := by decide +kernel
theorem dX12_scans_231 : decode cX12_scans 231 = .ok (.iadd, 1) := by decide +kernel
theorem dX12_scans_232 : decode cX12_scans 232 = .ok (.bipush 48, 2) := by decide +kernel
theorem dX12_scans_234 : decode cX12_scans 234 = .ok (.isub, 1) := by decide +kernel
theorem dX12_scans_235 : decode cX12_scans 235 = .ok (.goto 7, 3) := by decide +kernel
theorem dX12_scans_238 : decode cX12_scans 238 = .ok (.aload_n 0, 1) := by decide +kernel
theorem dX12_scans_239 : decode cX12_scans 239 = .ok (.getfield 207, 3) := by decide +kernel
theorem dX12_scans_242 : decode cX12_scans 242 = .ok (.putfield 207, 3) := by decide +kernel
theorem dX12_scans_245 : decode cX12_scans 245 = .ok (.aload_n 0, 1) := by decide +kernel
theorem dX12_scans_246 : decode cX12_scans 246 = .ok (.dup, 1) := by decide +kernel
theorem dX12_scans_247 : decode cX12_scans 247 = .ok (.getfield 178, 3) := by decide +kernel
theorem dX12_scans_250 : decode cX12_scans 250 = .ok (.iconst 1, 1) := by decide +kernel
theorem dX12_scans_251 : decode cX12_scans 251 = .ok (.iadd, 1) := by decide +kernel
theorem dX12_scans_252 : decode cX12_scans 252 = .ok (.putfield 178, 3) := by decide +kernel
theorem dX12_scans_255 : decode cX12_scans 255 = .ok (.goto (-65), 3) := by decide +kernel
theorem dX12_scans_258 : decode cX12_scans 258 = .ok (.aload_n 0, 1) := by decide +kernel
theorem dX12_scans_259 : decode cX12_scans 259 = .ok (.aload_n 0, 1) := by decide +kernel
theorem dX12_scans_260 : decode cX12_scans 260 = .ok (.getfield 178, 3) := by decide +kernel
theorem dX12_scans_263 : decode cX12_scans 263 = .ok (.aload_n 0, 1) := by decide +kernel
