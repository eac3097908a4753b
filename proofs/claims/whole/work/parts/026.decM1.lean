theorem dX12_plans_21 : decode cX12_plans 21 = .ok (.iconst 0, 1) := by decide +kernel
theorem dX12_plans_22 : decode cX12_plans 22 = .ok (.istore 7, 2) := by decide +kernel
theorem dX12_plans_24 : decode cX12_plans 24 = .ok (.iload 7, 2) := by decide +kernel
theorem dX12_plans_26 : decode cX12_plans 26 = .ok (.iload_n 1, 1) := by decide +kernel
theorem dX12_plans_27 : decode cX12_plans 27 = .ok (.if_icmp .ge 56, 3) := by decide +kernel
theorem dX12_plans_30 : decode cX12_plans 30 = .ok (.aload_n 0, 1) := by decide +kernel
theorem dX12_plans_31 : decode cX12_plans 31 = .ok (.getfield 29, 3) := by decide +kernel
theorem dX12_plans_34 : decode cX12_plans 34 = .ok (.iload 7, 2) := by decide +kernel
theorem dX12_plans_36 : decode cX12_plans 36 = .ok (.iload 5, 2) := by decide +kernel
theorem dX12_plans_38 : decode cX12_plans 38 = .ok (.iconst 3, 1) := by decide +kernel
theorem dX12_plans_39 : decode cX12_plans 39 = .ok (.iload_n 1, 1) := by decide +kernel
theorem dX12_plans_40 : decode cX12_plans 40 = .ok (.iconst 1, 1) := by decide +kernel
theorem dX12_plans_41 : decode cX12_plans 41 = .ok (.isub, 1) := by decide +kernel
theorem dX12_plans_42 : decode cX12_plans 42 = .ok (.iload 7, 2) := by decide +kernel
theorem dX12_plans_44 : decode cX12_plans 44 = .ok (.isub, 1) := by decide +kernel
theorem dX12_plans_45 : decode cX12_plans 45 = .ok (.imul, 1) := by decide +kernel
theorem dX12_plans_46 : decode cX12_plans 46 = .ok (.ishr, 1) := by decide +kernel
theorem dX12_plans_47 : decode cX12_plans 47 = .ok (.bipush 7, 2) := by decide +kernel
theorem dX12_plans_49 : decode cX12_plans 49 = .ok (.iand, 1) := by decide +kernel
theorem dX12_plans_50 : decode cX12_plans 50 = .ok (.iastore, 1) := by decide +kernel
theorem dX12_plans_51 : decode cX12_plans 51 = .ok (.iload 6, 2) := by decide +kernel
theorem dX12_plans_53 : decode cX12_plans 53 = .ok (.ifCond .eq 21, 3) := by decide +kernel
theorem dX12_plans_56 : decode cX12_plans 56 = .ok (.aload_n 0, 1) := by decide +kernel
theorem dX12_plans_57 : decode cX12_plans 57 = .ok (.aload_n 0, 1) := by decide +kernel
theorem dX12_plans_58 : decode cX12_plans 58 = .ok (.getfield 29, 3) := by decide +kernel
theorem dX12_plans_61 : decode cX12_plans 61 = .ok (.iload 7, 2) := by decide +kernel
theorem dX12_plans_63 : decode cX12_plans 63 = .ok (.iaload, 1) := by decide +kernel
theorem dX12_plans_64 : decode cX12_plans 64 = .ok (.invokevirtual 96, 3) := by decide +kernel
theorem dX12_plans_67 : decode cX12_plans 67 = .ok (.ifCond .eq 7, 3) := by decide +kernel
theorem dX12_plans_70 : decode cX12_plans 70 = .ok (.iconst 1, 1) := by decide +kernel
theorem dX12_plans_71 : decode cX12_plans 71 = .ok (.goto 4, 3) := by decide +kernel
theorem dX12_plans_74 : decode cX12_plans 74 = .ok (.iconst 0, 1) := by decide +kernel
theorem dX12_plans_75 : decode cX12_plans 75 = .ok (.istore 6, 2) := by decide +kernel
theorem dX12_plans_77 : decode cX12_plans 77 = .ok (.iinc 7 1, 3) := by decide +kernel
theorem dX12_plans_80 : decode cX12_plans 80 = .ok (.goto (-56), 3) := by decide +kernel
theorem dX12_plans_83 : decode cX12_plans 83 = .ok (.iconst 0, 1) := by decide +kernel
theorem dX12_plans_84 : decode cX12_plans 84 = .ok (.istore 7, 2) := by decide +kernel
theorem dX12_plans_86 : decode cX12_plans 86 = .ok (.aload_n 0, 1) := by decide +kernel
theorem dX12_plans_87 : decode cX12_plans 87 = .ok (.invokevirtual 99, 3) := by decide +kernel
theorem dX12_plans_90 : decode cX12_plans 90 = .ok (.iconst 0, 1) := by decide +kernel
theorem dX12_plans_91 : decode cX12_plans 91 = .ok (.istore 8, 2) := by decide +kernel
theorem dX12_plans_93 : decode cX12_plans 93 = .ok (.iload 8, 2) := by decide +kernel
theorem dX12_plans_95 : decode cX12_plans 95 = .ok (.iload_n 1, 1) := by decide +kernel
theorem dX12_plans_96 : decode cX12_plans 96 = .ok (.if_icmp .ge 58, 3) := by decide +kernel
theorem dX12_plans_99 : decode cX12_plans 99 = .ok (.iload 6, 2) := by decide +kernel
theorem dX12_plans_101 : decode cX12_plans 101 = .ok (.ifCond .eq 53, 3) := by decide +kernel
theorem dX12_plans_104 : decode cX12_plans 104 = .ok (.aload_n 0, 1) := by decide +kernel
theorem dX12_plans_105 : decode cX12_plans 105 = .ok (.aload_n 0, 1) := by decide +kernel
theorem dX12_plans_106 : decode cX12_plans 106 = .ok (.getfield 29, 3) := by decide +kernel
theorem dX12_plans_109 : decode cX12_plans 109 = .ok (.iload 8, 2) := by decide +kernel
theorem dX12_plans_111 : decode cX12_plans 111 = .ok (.iaload, 1) := by decide +kernel
theorem dX12_plans_112 : decode cX12_plans 112 = .ok (.invokevirtual 102, 3) := by decide +kernel
theorem dX12_plans_115 : decode cX12_plans 115 = .ok (.istore 9, 2) := by decide +kernel
theorem dX12_plans_117 : decode cX12_plans 117 = .ok (.iload 7, 2) := by decide +kernel
theorem dX12_plans_119 : decode cX12_plans 119 = .ok (.aload_n 0, 1) := by decide +kernel
theorem dX12_plans_120 : decode cX12_plans 120 = .ok (.getfield 29, 3) := by decide +kernel
theorem dX12_plans_123 : decode cX12_plans 123 = .ok (.iload 8, 2) := by decide +kernel
theorem dX12_plans_125 : decode cX12_plans 125 = .ok (.iaload, 1) := by decide +kernel
theorem dX12_plans_126 : decode cX12_plans 126 = .ok (.i2l, 1) := by decide +kernel
theorem dX12_plans_127 : decode cX12_plans 127 = .ok (.ldc2_w 108, 3) := by decide +kernel
theorem dX12_plans_130 : decode cX12_plans 130 = .ok (.ldc2_w 110, 3) := by decide +kernel
theorem dX12_plans_133 : decode cX12_plans 133 = .ok (.invokestatic 59, 3) := by decide +kernel
theorem dX12_plans_136 : decode cX12_plans 136 = .ok (.ifCond .eq 8, 3) := by decide +kernel
theorem dX12_plans_139 : decode cX12_plans 139 = .ok (.iload 9, 2) := by decide +kernel
theorem dX12_plans_141 : decode cX12_plans 141 = .ok (.goto 4, 3) := by decide +kernel
theorem dX12_plans_144 : decode cX12_plans 144 = .ok (.iconst 0, 1) := by decide +kernel
theorem dX12_plans_145 : decode cX12_plans 145 = .ok (.iadd, 1) := by decide +kernel
theorem dX12_plans_146 : decode cX12_plans 146 = .ok (.istore 7, 2) := by decide +kernel
theorem dX12_plans_148 : decode cX12_plans 148 = .ok (.iinc 8 1, 3) := by decide +kernel
theorem dX12_plans_151 : decode cX12_plans 151 = .ok (.goto (-58), 3) := by decide +kernel
theorem dX12_plans_154 : decode cX12_plans 154 = .ok (.iload 6, 2) := by decide +kernel
theorem dX12_plans_156 : decode cX12_plans 156 = .ok (.ifCond .eq 51, 3) := by decide +kernel
theorem dX12_plans_159 : decode cX12_plans 159 = .ok (.iload 7, 2) := by decide +kernel
theorem dX12_plans_161 : decode cX12_plans 161 = .ok (.iload 4, 2) := by decide +kernel
theorem dX12_plans_163 : decode cX12_plans 163 = .ok (.if_icmp .le 44, 3) := by decide +kernel
theorem dX12_plans_166 : decode cX12_plans 166 = .ok (.aload_n 0, 1) := by decide +kernel
theorem dX12_plans_167 : decode cX12_plans 167 = .ok (.iload_n 2, 1) := by decide +kernel
theorem dX12_plans_168 : decode cX12_plans 168 = .ok (.invokevirtual 112, 3) := by decide +kernel
theorem dX12_plans_171 : decode cX12_plans 171 = .ok (.ifCond .eq 36, 3) := by decide +kernel
theorem dX12_plans_174 : decode cX12_plans 174 = .ok (.iload 7, 2) := by decide +kernel
theorem dX12_plans_176 : decode cX12_plans 176 = .ok (.istore 4, 2) := by decide +kernel
theorem dX12_plans_178 : decode cX12_plans 178 = .ok (.iconst 0, 1) := by decide +kernel
theorem dX12_plans_179 : decode cX12_plans 179 = .ok (.istore 8, 2) := by decide +kernel
theorem dX12_plans_181 : decode cX12_plans 181 = .ok (.iload 8, 2) := by decide +kernel
theorem dX12_plans_183 : decode cX12_plans 183 = .ok (.iload_n 1, 1) := by decide +kernel
theorem dX12_plans_184 : decode cX12_plans 184 = .ok (.if_icmp .ge 23, 3) := by decide +kernel
theorem dX12_plans_187 : decode cX12_plans 187 = .ok (.aload_n 0, 1) := by decide +kernel
theorem dX12_plans_188 : decode cX12_plans 188 = .ok (.getfield 32, 3) := by decide +kernel
theorem dX12_plans_191 : decode cX12_plans 191 = .ok (.iload 8, 2) := by decide +kernel
theorem dX12_plans_193 : decode cX12_plans 193 = .ok (.aload_n 0, 1) := by decide +kernel
theorem dX12_plans_194 : decode cX12_plans 194 = .ok (.getfield 29, 3) := by decide +kernel
theorem dX12_plans_197 : decode cX12_plans 197 = .ok (.iload 8, 2) := by decide +kernel
theorem dX12_plans_199 : decode cX12_plans 199 = .ok (.iaload, 1) := by decide +kernel
theorem dX12_plans_200 : decode cX12_plans 200 = .ok (.iastore, 1) := by decide +kernel
theorem dX12_plans_201 : decode cX12_plans 201 = .ok (.iinc 8 1, 3) := by decide +kernel
theorem dX12_plans_204 : decode cX12_plans 204 = .ok (.goto (-23), 3) := by decide +kernel
theorem dX12_plans_207 : decode cX12_plans 207 = .ok (.iinc 5 1, 3) := by decide +kernel
theorem dX12_plans_210 : decode cX12_plans 210 = .ok (.goto (-198), 3) := by decide +kernel
theorem dX12_plans_213 : decode cX12_plans 213 = .ok (.iload 4, 2) := by decide +kernel
theorem dX12_plans_215 : decode cX12_plans 215 = .ok (.ireturn, 1) := by decide +kernel
theorem dX12_plan_0 : decode cX12_plan 0 = .ok (.iload_n 1, 1) := by decide +kernel
theorem dX12_plan_1 : decode cX12_plan 1 = .ok (.i2l, 1) := by decide +kernel
theorem dX12_plan_2 : decode cX12_plan 2 = .ok (.lconst 0, 1) := by decide +kernel
theorem dX12_plan_3 : decode cX12_plan 3 = .ok (.ldc2_w 70, 3) := by decide +kernel
theorem dX12_plan_6 : decode cX12_plan 6 = .ok (.invokestatic 59, 3) := by decide +kernel
theorem dX12_plan_9 : decode cX12_plan 9 = .ok (.ifCond .eq 8, 3) := by decide +kernel
theorem dX12_plan_12 : decode cX12_plan 12 = .ok (.iload_n 2, 1) := by decide +kernel
theorem dX12_plan_13 : decode cX12_plan 13 = .ok (.iconst (-1), 1) := by decide +kernel
theorem dX12_plan_14 : decode cX12_plan 14 = .ok (.if_icmp .ge 11, 3) := by decide +kernel
theorem dX12_plan_17 : decode cX12_plan 17 = .ok (.aload_n 0, 1) := by decide +kernel
theorem dX12_plan_18 : decode cX12_plan 18 = .ok (.iconst 0, 1) := by decide +kernel
theorem dX12_plan_19 : decode cX12_plan 19 = .ok (.bipush (-10), 2) := by decide +kernel
theorem dX12_plan_21 : decode cX12_plan 21 = .ok (.invokevirtual 55, 3) := by decide +kernel
theorem dX12_plan_24 : decode cX12_plan 24 = .ok (.ireturn, 1) := by decide +kernel
theorem dX12_plan_25 : decode cX12_plan 25 = .ok (.aload_n 0, 1) := by decide +kernel
theorem dX12_plan_26 : decode cX12_plan 26 = .ok (.iload_n 1, 1) := by decide +kernel
theorem dX12_plan_27 : decode cX12_plan 27 = .ok (.iconst 0, 1) := by decide +kernel
theorem dX12_plan_28 : decode cX12_plan 28 = .ok (.invokevirtual 115, 3) := by decide +kernel
theorem dX12_plan_31 : decode cX12_plan 31 = .ok (.istore_n 3, 1) := by decide +kernel
theorem dX12_plan_32 : decode cX12_plan 32 = .ok (.iload_n 2, 1) := by decide +kernel
theorem dX12_plan_33 : decode cX12_plan 33 = .ok (.iconst (-1), 1) := by decide +kernel
theorem dX12_plan_34 : decode cX12_plan 34 = .ok (.if_icmp .ne 7, 3) := by decide +kernel
theorem dX12_plan_37 : decode cX12_plan 37 = .ok (.iload_n 3, 1) := by decide +kernel
theorem dX12_plan_38 : decode cX12_plan 38 = .ok (.goto 19, 3) := by decide +kernel
theorem dX12_plan_41 : decode cX12_plan 41 = .ok (.iload_n 2, 1) := by decide +kernel
theorem dX12_plan_42 : decode cX12_plan 42 = .ok (.iload_n 1, 1) := by decide +kernel
theorem dX12_plan_43 : decode cX12_plan 43 = .ok (.if_icmp .ge 12, 3) := by decide +kernel
theorem dX12_plan_46 : decode cX12_plan 46 = .ok (.aload_n 0, 1) := by decide +kernel
theorem dX12_plan_47 : decode cX12_plan 47 = .ok (.getfield 32, 3) := by decide +kernel
theorem dX12_plan_50 : decode cX12_plan 50 = .ok (.iload_n 2, 1) := by decide +kernel
theorem dX12_plan_51 : decode cX12_plan 51 = .ok (.iaload, 1) := by decide +kernel
theorem dX12_plan_52 : decode cX12_plan 52 = .ok (.goto 5, 3) := by decide +kernel
theorem dX12_plan_55 : decode cX12_plan 55 = .ok (.bipush (-5), 2) := by decide +kernel
theorem dX12_plan_57 : decode cX12_plan 57 = .ok (.ireturn, 1) := by decide +kernel
theorem dX12_inTime_0 : decode cX12_inTime 0 = .ok (.iload_n 1, 1) := by decide +kernel
theorem dX12_inTime_1 : decode cX12_inTime 1 = .ok (.i2l, 1) := by decide +kernel
theorem dX12_inTime_2 : decode cX12_inTime 2 = .ok (.lconst 0, 1) := by decide +kernel
theorem dX12_inTime_3 : decode cX12_inTime 3 = .ok (.ldc2_w 70, 3) := by decide +kernel
theorem dX12_inTime_6 : decode cX12_inTime 6 = .ok (.invokestatic 59, 3) := by decide +kernel
theorem dX12_inTime_9 : decode cX12_inTime 9 = .ok (.ifCond .eq 16, 3) := by decide +kernel
theorem dX12_inTime_12 : decode cX12_inTime 12 = .ok (.aload_n 0, 1) := by decide +kernel
theorem dX12_inTime_13 : decode cX12_inTime 13 = .ok (.iload_n 2, 1) := by decide +kernel
theorem dX12_inTime_14 : decode cX12_inTime 14 = .ok (.invokevirtual 118, 3) := by decide +kernel
theorem dX12_inTime_17 : decode cX12_inTime 17 = .ok (.ifCond .eq 8, 3) := by decide +kernel
theorem dX12_inTime_20 : decode cX12_inTime 20 = .ok (.iload_n 3, 1) := by decide +kernel
theorem dX12_inTime_21 : decode cX12_inTime 21 = .ok (.iconst (-1), 1) := by decide +kernel
theorem dX12_inTime_22 : decode cX12_inTime 22 = .ok (.if_icmp .ge 11, 3) := by decide +kernel
theorem dX12_inTime_25 : decode cX12_inTime 25 = .ok (.aload_n 0, 1) := by decide +kernel
theorem dX12_inTime_26 : decode cX12_inTime 26 = .ok (.iconst 0, 1) := by decide +kernel
theorem dX12_inTime_27 : decode cX12_inTime 27 = .ok (.bipush (-10), 2) := by decide +kernel
theorem dX12_inTime_29 : decode cX12_inTime 29 = .ok (.invokevirtual 55, 3) := by decide +kernel
theorem dX12_inTime_32 : decode cX12_inTime 32 = .ok (.ireturn, 1) := by decide +kernel
theorem dX12_inTime_33 : decode cX12_inTime 33 = .ok (.aload_n 0, 1) := by decide +kernel
theorem dX12_inTime_34 : decode cX12_inTime 34 = .ok (.iload_n 1, 1) := by decide +kernel
theorem dX12_inTime_35 : decode cX12_inTime 35 = .ok (.iload_n 2, 1) := by decide +kernel
theorem dX12_inTime_36 : decode cX12_inTime 36 = .ok (.invokevirtual 115, 3) := by decide +kernel
theorem dX12_inTime_39 : decode cX12_inTime 39 = .ok (.istore 4, 2) := by decide +kernel
theorem dX12_inTime_41 : decode cX12_inTime 41 = .ok (.iload 4, 2) := by decide +kernel
theorem dX12_inTime_43 : decode cX12_inTime 43 = .ok (.iconst (-1), 1) := by decide +kernel
theorem dX12_inTime_44 : decode cX12_inTime 44 = .ok (.if_icmp .eq 8, 3) := by decide +kernel
theorem dX12_inTime_47 : decode cX12_inTime 47 = .ok (.iload_n 3, 1) := by decide +kernel
theorem dX12_inTime_48 : decode cX12_inTime 48 = .ok (.iconst (-1), 1) := by decide +kernel
theorem dX12_inTime_49 : decode cX12_inTime 49 = .ok (.if_icmp .ne 8, 3) := by decide +kernel
theorem dX12_inTime_52 : decode cX12_inTime 52 = .ok (.iload 4, 2) := by decide +kernel
theorem dX12_inTime_54 : decode cX12_inTime 54 = .ok (.goto 19, 3) := by decide +kernel
theorem dX12_inTime_57 : decode cX12_inTime 57 = .ok (.iload_n 3, 1) := by decide +kernel
theorem dX12_inTime_58 : decode cX12_inTime 58 = .ok (.iload_n 1, 1) := by decide +kernel
theorem dX12_inTime_59 : decode cX12_inTime 59 = .ok (.if_icmp .ge 12, 3) := by decide +kernel
theorem dX12_inTime_62 : decode cX12_inTime 62 = .ok (.aload_n 0, 1) := by decide +kernel
theorem dX12_inTime_63 : decode cX12_inTime 63 = .ok (.getfield 32, 3) := by decide +kernel
theorem dX12_inTime_66 : decode cX12_inTime 66 = .ok (.iload_n 3, 1) := by decide +kernel
theorem dX12_inTime_67 : decode cX12_inTime 67 = .ok (.iaload, 1) := by decide +kernel
theorem dX12_inTime_68 : decode cX12_inTime 68 = .ok (.goto 5, 3) := by decide +kernel
theorem dX12_inTime_71 : decode cX12_inTime 71 = .ok (.bipush (-5), 2) := by decide +kernel
theorem dX12_inTime_73 : decode cX12_inTime 73 = .ok (.ireturn, 1) := by decide +kernel
theorem dX12_fewest_0 : decode cX12_fewest 0 = .ok (.aload_n 0, 1) := by decide +kernel
theorem dX12_fewest_1 : decode cX12_fewest 1 = .ok (.iload_n 1, 1) := by decide +kernel
theorem dX12_fewest_2 : decode cX12_fewest 2 = .ok (.invokevirtual 118, 3) := by decide +kernel
theorem dX12_fewest_5 : decode cX12_fewest 5 = .ok (.ifCond .ne 8, 3) := by decide +kernel
theorem dX12_fewest_8 : decode cX12_fewest 8 = .ok (.aload_n 0, 1) := by decide +kernel
theorem dX12_fewest_9 : decode cX12_fewest 9 = .ok (.invokevirtual 74, 3) := by decide +kernel
theorem dX12_fewest_12 : decode cX12_fewest 12 = .ok (.ireturn, 1) := by decide +kernel
theorem dX12_fewest_13 : decode cX12_fewest 13 = .ok (.iconst 0, 1) := by decide +kernel
theorem dX12_fewest_14 : decode cX12_fewest 14 = .ok (.istore_n 2, 1) := by decide +kernel
theorem dX12_fewest_15 : decode cX12_fewest 15 = .ok (.iload_n 2, 1) := by decide +kernel
theorem dX12_fewest_16 : decode cX12_fewest 16 = .ok (.bipush 6, 2) := by decide +kernel
theorem dX12_fewest_18 : decode cX12_fewest 18 = .ok (.if_icmp .ge 21, 3) := by decide +kernel
theorem dX12_fewest_21 : decode cX12_fewest 21 = .ok (.aload_n 0, 1) := by decide +kernel
theorem dX12_fewest_22 : decode cX12_fewest 22 = .ok (.iload_n 2, 1) := by decide +kernel
theorem dX12_fewest_23 : decode cX12_fewest 23 = .ok (.iload_n 1, 1) := by decide +kernel
theorem dX12_fewest_24 : decode cX12_fewest 24 = .ok (.invokevirtual 115, 3) := by decide +kernel
theorem dX12_fewest_27 : decode cX12_fewest 27 = .ok (.iconst (-1), 1) := by decide +kernel
theorem dX12_fewest_28 : decode cX12_fewest 28 = .ok (.if_icmp .eq 5, 3) := by decide +kernel
theorem dX12_fewest_31 : decode cX12_fewest 31 = .ok (.iload_n 2, 1) := by decide +kernel
theorem dX12_fewest_32 : decode cX12_fewest 32 = .ok (.ireturn, 1) := by decide +kernel
theorem dX12_fewest_33 : decode cX12_fewest 33 = .ok (.iinc 2 1, 3) := by decide +kernel
theorem dX12_fewest_36 : decode cX12_fewest 36 = .ok (.goto (-21), 3) := by decide +kernel
theorem dX12_fewest_39 : decode cX12_fewest 39 = .ok (.iconst (-1), 1) := by decide +kernel
theorem dX12_fewest_40 : decode cX12_fewest 40 = .ok (.ireturn, 1) := by decide +kernel
theorem dX12_left_0 : decode cX12_left 0 = .ok (.iload_n 1, 1) := by decide +kernel
theorem dX12_left_1 : decode cX12_left 1 = .ok (.i2l, 1) := by decide +kernel
theorem dX12_left_2 : decode cX12_left 2 = .ok (.lconst 0, 1) := by decide +kernel
theorem dX12_left_3 : decode cX12_left 3 = .ok (.ldc2_w 70, 3) := by decide +kernel
theorem dX12_left_6 : decode cX12_left 6 = .ok (.invokestatic 59, 3) := by decide +kernel
theorem dX12_left_9 : decode cX12_left 9 = .ok (.ifCond .eq 13, 3) := by decide +kernel
theorem dX12_left_12 : decode cX12_left 12 = .ok (.iload_n 2, 1) := by decide +kernel
theorem dX12_left_13 : decode cX12_left 13 = .ok (.i2l, 1) := by decide +kernel
theorem dX12_left_14 : decode cX12_left 14 = .ok (.lconst 0, 1) := by decide +kernel
theorem dX12_left_15 : decode cX12_left 15 = .ok (.lconst 1, 1) := by decide +kernel
theorem dX12_left_16 : decode cX12_left 16 = .ok (.invokestatic 59, 3) := by decide +kernel
theorem dX12_left_19 : decode cX12_left 19 = .ok (.ifCond .ne 11, 3) := by decide +kernel
theorem dX12_left_22 : decode cX12_left 22 = .ok (.aload_n 0, 1) := by decide +kernel
theorem dX12_left_23 : decode cX12_left 23 = .ok (.iconst 0, 1) := by decide +kernel
theorem dX12_left_24 : decode cX12_left 24 = .ok (.bipush (-10), 2) := by decide +kernel
theorem dX12_left_26 : decode cX12_left 26 = .ok (.invokevirtual 55, 3) := by decide +kernel
theorem dX12_left_29 : decode cX12_left 29 = .ok (.ireturn, 1) := by decide +kernel
theorem dX12_left_30 : decode cX12_left 30 = .ok (.aload_n 0, 1) := by decide +kernel
theorem dX12_left_31 : decode cX12_left 31 = .ok (.iload_n 1, 1) := by decide +kernel
theorem dX12_left_32 : decode cX12_left 32 = .ok (.iconst 0, 1) := by decide +kernel
theorem dX12_left_33 : decode cX12_left 33 = .ok (.invokevirtual 115, 3) := by decide +kernel
theorem dX12_left_36 : decode cX12_left 36 = .ok (.pop, 1) := by decide +kernel
theorem dX12_left_37 : decode cX12_left 37 = .ok (.aload_n 0, 1) := by decide +kernel
theorem dX12_left_38 : decode cX12_left 38 = .ok (.invokevirtual 99, 3) := by decide +kernel
theorem dX12_left_41 : decode cX12_left 41 = .ok (.iconst 0, 1) := by decide +kernel
theorem dX12_left_42 : decode cX12_left 42 = .ok (.istore_n 3, 1) := by decide +kernel
theorem dX12_left_43 : decode cX12_left 43 = .ok (.iload_n 3, 1) := by decide +kernel
theorem dX12_left_44 : decode cX12_left 44 = .ok (.iload_n 1, 1) := by decide +kernel
theorem dX12_left_45 : decode cX12_left 45 = .ok (.if_icmp .ge 20, 3) := by decide +kernel
theorem dX12_left_48 : decode cX12_left 48 = .ok (.aload_n 0, 1) := by decide +kernel
theorem dX12_left_49 : decode cX12_left 49 = .ok (.aload_n 0, 1) := by decide +kernel
theorem dX12_left_50 : decode cX12_left 50 = .ok (.getfield 32, 3) := by decide +kernel
theorem dX12_left_53 : decode cX12_left 53 = .ok (.iload_n 3, 1) := by decide +kernel
theorem dX12_left_54 : decode cX12_left 54 = .ok (.iaload, 1) := by decide +kernel
theorem dX12_left_55 : decode cX12_left 55 = .ok (.invokevirtual 102, 3) := by decide +kernel
theorem dX12_left_58 : decode cX12_left 58 = .ok (.pop, 1) := by decide +kernel
theorem dX12_left_59 : decode cX12_left 59 = .ok (.iinc 3 1, 3) := by decide +kernel
theorem dX12_left_62 : decode cX12_left 62 = .ok (.goto (-19), 3) := by decide +kernel
theorem dX12_left_65 : decode cX12_left 65 = .ok (.iconst 0, 1) := by decide +kernel
theorem dX12_left_66 : decode cX12_left 66 = .ok (.istore_n 3, 1) := by decide +kernel
theorem dX12_left_67 : decode cX12_left 67 = .ok (.iconst (-1), 1) := by decide +kernel
theorem dX12_left_68 : decode cX12_left 68 = .ok (.istore 4, 2) := by decide +kernel
theorem dX12_left_70 : decode cX12_left 70 = .ok (.iconst (-1), 1) := by decide +kernel
theorem dX12_left_71 : decode cX12_left 71 = .ok (.istore 5, 2) := by decide +kernel
theorem dX12_left_73 : decode cX12_left 73 = .ok (.iconst 0, 1) := by decide +kernel
theorem dX12_left_74 : decode cX12_left 74 = .ok (.istore 6, 2) := by decide +kernel
theorem dX12_left_76 : decode cX12_left 76 = .ok (.iload 6, 2) := by decide +kernel
theorem dX12_left_78 : decode cX12_left 78 = .ok (.aload_n 0, 1) := by decide +kernel
theorem dX12_left_79 : decode cX12_left 79 = .ok (.getfield 7, 3) := by decide +kernel
theorem dX12_left_82 : decode cX12_left 82 = .ok (.iconst 1, 1) := by decide +kernel
theorem dX12_left_83 : decode cX12_left 83 = .ok (.iaload, 1) := by decide +kernel
theorem dX12_left_84 : decode cX12_left 84 = .ok (.if_icmp .ge 69, 3) := by decide +kernel
theorem dX12_left_87 : decode cX12_left 87 = .ok (.aload_n 0, 1) := by decide +kernel
theorem dX12_left_88 : decode cX12_left 88 = .ok (.getfield 7, 3) := by decide +kernel
theorem dX12_left_91 : decode cX12_left 91 = .ok (.bipush 25, 2) := by decide +kernel
theorem dX12_left_93 : decode cX12_left 93 = .ok (.iload 6, 2) := by decide +kernel
theorem dX12_left_95 : decode cX12_left 95 = .ok (.iadd, 1) := by decide +kernel
theorem dX12_left_96 : decode cX12_left 96 = .ok (.iaload, 1) := by decide +kernel
theorem dX12_left_97 : decode cX12_left 97 = .ok (.aload_n 0, 1) := by decide +kernel
theorem dX12_left_98 : decode cX12_left 98 = .ok (.getfield 26, 3) := by decide +kernel
theorem dX12_left_101 : decode cX12_left 101 = .ok (.bipush 6, 2) := by decide +kernel
theorem dX12_left_103 : decode cX12_left 103 = .ok (.iload 6, 2) := by decide +kernel
theorem dX12_left_105 : decode cX12_left 105 = .ok (.iadd, 1) := by decide +kernel
theorem dX12_left_106 : decode cX12_left 106 = .ok (.iaload, 1) := by decide +kernel
theorem dX12_left_107 : decode cX12_left 107 = .ok (.isub, 1) := by decide +kernel
theorem dX12_left_108 : decode cX12_left 108 = .ok (.istore 7, 2) := by decide +kernel
theorem dX12_left_110 : decode cX12_left 110 = .ok (.iload_n 3, 1) := by decide +kernel
theorem dX12_left_111 : decode cX12_left 111 = .ok (.iload 7, 2) := by decide +kernel
theorem dX12_left_113 : decode cX12_left 113 = .ok (.iadd, 1) := by decide +kernel
theorem dX12_left_114 : decode cX12_left 114 = .ok (.istore_n 3, 1) := by decide +kernel
theorem dX12_left_115 : decode cX12_left 115 = .ok (.iload 7, 2) := by decide +kernel
theorem dX12_left_117 : decode cX12_left 117 = .ok (.iload 5, 2) := by decide +kernel
theorem dX12_left_119 : decode cX12_left 119 = .ok (.if_icmp .le 8, 3) := by decide +kernel
theorem dX12_left_122 : decode cX12_left 122 = .ok (.iload 6, 2) := by decide +kernel
theorem dX12_left_124 : decode cX12_left 124 = .ok (.goto 5, 3) := by decide +kernel
theorem dX12_left_127 : decode cX12_left 127 = .ok (.iload 4, 2) := by decide +kernel
theorem dX12_left_129 : decode cX12_left 129 = .ok (.istore 4, 2) := by decide +kernel
theorem dX12_left_131 : decode cX12_left 131 = .ok (.iload 7, 2) := by decide +kernel
theorem dX12_left_133 : decode cX12_left 133 = .ok (.iload 5, 2) := by decide +kernel
theorem dX12_left_135 : decode cX12_left 135 = .ok (.if_icmp .le 8, 3) := by decide +kernel
theorem dX12_left_138 : decode cX12_left 138 = .ok (.iload 7, 2) := by decide +kernel
theorem dX12_left_140 : decode cX12_left 140 = .ok (.goto 5, 3) := by decide +kernel
theorem dX12_left_143 : decode cX12_left 143 = .ok (.iload 5, 2) := by decide +kernel
theorem dX12_left_145 : decode cX12_left 145 = .ok (.istore 5, 2) := by decide +kernel
theorem dX12_left_147 : decode cX12_left 147 = .ok (.iinc 6 1, 3) := by decide +kernel
theorem dX12_left_150 : decode cX12_left 150 = .ok (.goto (-74), 3) := by decide +kernel
theorem dX12_left_153 : decode cX12_left 153 = .ok (.iload_n 2, 1) := by decide +kernel
theorem dX12_left_154 : decode cX12_left 154 = .ok (.ifCond .ne 7, 3) := by decide +kernel
theorem dX12_left_157 : decode cX12_left 157 = .ok (.iload_n 3, 1) := by decide +kernel
theorem dX12_left_158 : decode cX12_left 158 = .ok (.goto 5, 3) := by decide +kernel
theorem dX12_left_161 : decode cX12_left 161 = .ok (.iload 4, 2) := by decide +kernel
theorem dX12_left_163 : decode cX12_left 163 = .ok (.ireturn, 1) := by decide +kernel
theorem dX12_power_0 : decode cX12_power 0 = .ok (.lconst 1, 1) := by decide +kernel
theorem dX12_power_1 : decode cX12_power 1 = .ok (.lstore_n 3, 1) := by decide +kernel
theorem dX12_power_2 : decode cX12_power 2 = .ok (.iconst 0, 1) := by decide +kernel
theorem dX12_power_3 : decode cX12_power 3 = .ok (.istore 5, 2) := by decide +kernel
theorem dX12_power_5 : decode cX12_power 5 = .ok (.iload 5, 2) := by decide +kernel
theorem dX12_power_7 : decode cX12_power 7 = .ok (.iload_n 2, 1) := by decide +kernel
theorem dX12_power_8 : decode cX12_power 8 = .ok (.if_icmp .ge 13, 3) := by decide +kernel
theorem dX12_power_11 : decode cX12_power 11 = .ok (.lload_n 3, 1) := by decide +kernel
theorem dX12_power_12 : decode cX12_power 12 = .ok (.lload_n 0, 1) := by decide +kernel
theorem dX12_power_13 : decode cX12_power 13 = .ok (.lmul, 1) := by decide +kernel
theorem dX12_power_14 : decode cX12_power 14 = .ok (.lstore_n 3, 1) := by decide +kernel
theorem dX12_power_15 : decode cX12_power 15 = .ok (.iinc 5 1, 3) := by decide +kernel
theorem dX12_power_18 : decode cX12_power 18 = .ok (.goto (-13), 3) := by decide +kernel
theorem dX12_power_21 : decode cX12_power 21 = .ok (.lload_n 3, 1) := by decide +kernel
theorem dX12_power_22 : decode cX12_power 22 = .ok (.lreturn, 1) := by decide +kernel
theorem dX12_stung_0 : decode cX12_stung 0 = .ok (.lconst 0, 1) := by decide +kernel
theorem dX12_stung_1 : decode cX12_stung 1 = .ok (.lstore_n 3, 1) := by decide +kernel
theorem dX12_stung_2 : decode cX12_stung 2 = .ok (.lconst 1, 1) := by decide +kernel
theorem dX12_stung_3 : decode cX12_stung 3 = .ok (.lstore 5, 2) := by decide +kernel
theorem dX12_stung_5 : decode cX12_stung 5 = .ok (.iconst 0, 1) := by decide +kernel
theorem dX12_stung_6 : decode cX12_stung 6 = .ok (.istore 7, 2) := by decide +kernel
theorem dX12_stung_8 : decode cX12_stung 8 = .ok (.iload 7, 2) := by decide +kernel
theorem dX12_stung_10 : decode cX12_stung 10 = .ok (.iload_n 1, 1) := by decide +kernel
theorem dX12_stung_11 : decode cX12_stung 11 = .ok (.if_icmp .gt 61, 3) := by decide +kernel
theorem dX12_stung_14 : decode cX12_stung 14 = .ok (.lload_n 3, 1) := by decide +kernel
theorem dX12_stung_15 : decode cX12_stung 15 = .ok (.iload 7, 2) := by decide +kernel
theorem dX12_stung_17 : decode cX12_stung 17 = .ok (.iload_n 2, 1) := by decide +kernel
theorem dX12_stung_18 : decode cX12_stung 18 = .ok (.if_icmp .ge 29, 3) := by decide +kernel
theorem dX12_stung_21 : decode cX12_stung 21 = .ok (.lload 5, 2) := by decide +kernel
theorem dX12_stung_23 : decode cX12_stung 23 = .ok (.iload_n 0, 1) := by decide +kernel
theorem dX12_stung_24 : decode cX12_stung 24 = .ok (.i2l, 1) := by decide +kernel
theorem dX12_stung_25 : decode cX12_stung 25 = .ok (.iload 7, 2) := by decide +kernel
theorem dX12_stung_27 : decode cX12_stung 27 = .ok (.invokestatic 121, 3) := by decide +kernel
theorem dX12_stung_30 : decode cX12_stung 30 = .ok (.lmul, 1) := by decide +kernel
theorem dX12_stung_31 : decode cX12_stung 31 = .ok (.bipush 10, 2) := by decide +kernel
theorem dX12_stung_33 : decode cX12_stung 33 = .ok (.iload_n 0, 1) := by decide +kernel
theorem dX12_stung_34 : decode cX12_stung 34 = .ok (.isub, 1) := by decide +kernel
theorem dX12_stung_35 : decode cX12_stung 35 = .ok (.i2l, 1) := by decide +kernel
theorem dX12_stung_36 : decode cX12_stung 36 = .ok (.iload_n 1, 1) := by decide +kernel
theorem dX12_stung_37 : decode cX12_stung 37 = .ok (.iload 7, 2) := by decide +kernel
theorem dX12_stung_39 : decode cX12_stung 39 = .ok (.isub, 1) := by decide +kernel
theorem dX12_stung_40 : decode cX12_stung 40 = .ok (.invokestatic 121, 3) := by decide +kernel
theorem dX12_stung_43 : decode cX12_stung 43 = .ok (.lmul, 1) := by decide +kernel
theorem dX12_stung_44 : decode cX12_stung 44 = .ok (.goto 4, 3) := by decide +kernel
theorem dX12_stung_47 : decode cX12_stung 47 = .ok (.lconst 0, 1) := by decide +kernel
theorem dX12_stung_48 : decode cX12_stung 48 = .ok (.ladd, 1) := by decide +kernel
theorem dX12_stung_49 : decode cX12_stung 49 = .ok (.lstore_n 3, 1) := by decide +kernel
theorem dX12_stung_50 : decode cX12_stung 50 = .ok (.lload 5, 2) := by decide +kernel
theorem dX12_stung_52 : decode cX12_stung 52 = .ok (.iload_n 1, 1) := by decide +kernel
theorem dX12_stung_53 : decode cX12_stung 53 = .ok (.iload 7, 2) := by decide +kernel
theorem dX12_stung_55 : decode cX12_stung 55 = .ok (.isub, 1) := by decide +kernel
theorem dX12_stung_56 : decode cX12_stung 56 = .ok (.i2l, 1) := by decide +kernel
theorem dX12_stung_57 : decode cX12_stung 57 = .ok (.lmul, 1) := by decide +kernel
theorem dX12_stung_58 : decode cX12_stung 58 = .ok (.iload 7, 2) := by decide +kernel
theorem dX12_stung_60 : decode cX12_stung 60 = .ok (.iconst 1, 1) := by decide +kernel
theorem dX12_stung_61 : decode cX12_stung 61 = .ok (.iadd, 1) := by decide +kernel
theorem dX12_stung_62 : decode cX12_stung 62 = .ok (.i2l, 1) := by decide +kernel
theorem dX12_stung_63 : decode cX12_stung 63 = .ok (.ldiv, 1) := by decide +kernel
theorem dX12_stung_64 : decode cX12_stung 64 = .ok (.lstore 5, 2) := by decide +kernel
theorem dX12_stung_66 : decode cX12_stung 66 = .ok (.iinc 7 1, 3) := by decide +kernel
theorem dX12_stung_69 : decode cX12_stung 69 = .ok (.goto (-61), 3) := by decide +kernel
theorem dX12_stung_72 : decode cX12_stung 72 = .ok (.lload_n 3, 1) := by decide +kernel
theorem dX12_stung_73 : decode cX12_stung 73 = .ok (.lreturn, 1) := by decide +kernel
theorem dX12_divisor_0 : decode cX12_divisor 0 = .ok (.lload_n 0, 1) := by decide +kernel
theorem dX12_divisor_1 : decode cX12_divisor 1 = .ok (.lstore 4, 2) := by decide +kernel
theorem dX12_divisor_3 : decode cX12_divisor 3 = .ok (.lload_n 2, 1) := by decide +kernel
theorem dX12_divisor_4 : decode cX12_divisor 4 = .ok (.lstore 6, 2) := by decide +kernel
theorem dX12_divisor_6 : decode cX12_divisor 6 = .ok (.lload 6, 2) := by decide +kernel
theorem dX12_divisor_8 : decode cX12_divisor 8 = .ok (.lconst 0, 1) := by decide +kernel
theorem dX12_divisor_9 : decode cX12_divisor 9 = .ok (.lcmp, 1) := by decide +kernel
theorem dX12_divisor_10 : decode cX12_divisor 10 = .ok (.ifCond .eq 21, 3) := by decide +kernel
theorem dX12_divisor_13 : decode cX12_divisor 13 = .ok (.lload 4, 2) := by decide +kernel
theorem dX12_divisor_15 : decode cX12_divisor 15 = .ok (.lload 6, 2) := by decide +kernel
theorem dX12_divisor_17 : decode cX12_divisor 17 = .ok (.lrem, 1) := by decide +kernel
theorem dX12_divisor_18 : decode cX12_divisor 18 = .ok (.lstore 8, 2) := by decide +kernel
theorem dX12_divisor_20 : decode cX12_divisor 20 = .ok (.lload 6, 2) := by decide +kernel
theorem dX12_divisor_22 : decode cX12_divisor 22 = .ok (.lstore 4, 2) := by decide +kernel
theorem dX12_divisor_24 : decode cX12_divisor 24 = .ok (.lload 8, 2) := by decide +kernel
theorem dX12_divisor_26 : decode cX12_divisor 26 = .ok (.lstore 6, 2) := by decide +kernel
theorem dX12_divisor_28 : decode cX12_divisor 28 = .ok (.goto (-22), 3) := by decide +kernel
theorem dX12_divisor_31 : decode cX12_divisor 31 = .ok (.lload 4, 2) := by decide +kernel
theorem dX12_divisor_33 : decode cX12_divisor 33 = .ok (.lreturn, 1) := by decide +kernel
theorem dX12_stings_0 : decode cX12_stings 0 = .ok (.iload_n 1, 1) := by decide +kernel
theorem dX12_stings_1 : decode cX12_stings 1 = .ok (.i2l, 1) := by decide +kernel
theorem dX12_stings_2 : decode cX12_stings 2 = .ok (.lconst 0, 1) := by decide +kernel
theorem dX12_stings_3 : decode cX12_stings 3 = .ok (.ldc2_w 125, 3) := by decide +kernel
theorem dX12_stings_6 : decode cX12_stings 6 = .ok (.invokestatic 59, 3) := by decide +kernel
theorem dX12_stings_9 : decode cX12_stings 9 = .ok (.ifCond .eq 27, 3) := by decide +kernel
theorem dX12_stings_12 : decode cX12_stings 12 = .ok (.iload_n 2, 1) := by decide +kernel
theorem dX12_stings_13 : decode cX12_stings 13 = .ok (.i2l, 1) := by decide +kernel
theorem dX12_stings_14 : decode cX12_stings 14 = .ok (.lconst 0, 1) := by decide +kernel
theorem dX12_stings_15 : decode cX12_stings 15 = .ok (.ldc2_w 81, 3) := by decide +kernel
theorem dX12_stings_18 : decode cX12_stings 18 = .ok (.invokestatic 59, 3) := by decide +kernel
theorem dX12_stings_21 : decode cX12_stings 21 = .ok (.ifCond .eq 15, 3) := by decide +kernel
theorem dX12_stings_24 : decode cX12_stings 24 = .ok (.iload_n 3, 1) := by decide +kernel
theorem dX12_stings_25 : decode cX12_stings 25 = .ok (.i2l, 1) := by decide +kernel
theorem dX12_stings_26 : decode cX12_stings 26 = .ok (.lconst 0, 1) := by decide +kernel
theorem dX12_stings_27 : decode cX12_stings 27 = .ok (.ldc2_w 127, 3) := by decide +kernel
theorem dX12_stings_30 : decode cX12_stings 30 = .ok (.invokestatic 59, 3) := by decide +kernel
theorem dX12_stings_33 : decode cX12_stings 33 = .ok (.ifCond .ne 8, 3) := by decide +kernel
theorem dX12_stings_36 : decode cX12_stings 36 = .ok (.aload_n 0, 1) := by decide +kernel
theorem dX12_stings_37 : decode cX12_stings 37 = .ok (.invokevirtual 74, 3) := by decide +kernel
theorem dX12_stings_40 : decode cX12_stings 40 = .ok (.ireturn, 1) := by decide +kernel
theorem dX12_stings_41 : decode cX12_stings 41 = .ok (.iload_n 1, 1) := by decide +kernel
theorem dX12_stings_42 : decode cX12_stings 42 = .ok (.iload_n 2, 1) := by decide +kernel
theorem dX12_stings_43 : decode cX12_stings 43 = .ok (.iload_n 3, 1) := by decide +kernel
theorem dX12_stings_44 : decode cX12_stings 44 = .ok (.invokestatic 129, 3) := by decide +kernel
theorem dX12_stings_47 : decode cX12_stings 47 = .ok (.lstore 4, 2) := by decide +kernel
theorem dX12_stings_49 : decode cX12_stings 49 = .ok (.ldc2_w 125, 3) := by decide +kernel
theorem dX12_stings_52 : decode cX12_stings 52 = .ok (.iload_n 2, 1) := by decide +kernel
theorem dX12_stings_53 : decode cX12_stings 53 = .ok (.invokestatic 121, 3) := by decide +kernel
theorem dX12_stings_56 : decode cX12_stings 56 = .ok (.lstore 6, 2) := by decide +kernel
theorem dX12_stings_58 : decode cX12_stings 58 = .ok (.lload 4, 2) := by decide +kernel
theorem dX12_stings_60 : decode cX12_stings 60 = .ok (.lload 6, 2) := by decide +kernel
theorem dX12_stings_62 : decode cX12_stings 62 = .ok (.invokestatic 133, 3) := by decide +kernel
theorem dX12_stings_65 : decode cX12_stings 65 = .ok (.lstore 8, 2) := by decide +kernel
theorem dX12_stings_67 : decode cX12_stings 67 = .ok (.aload_n 0, 1) := by decide +kernel
theorem dX12_stings_68 : decode cX12_stings 68 = .ok (.lload 4, 2) := by decide +kernel
theorem dX12_stings_70 : decode cX12_stings 70 = .ok (.lload 8, 2) := by decide +kernel
theorem dX12_stings_72 : decode cX12_stings 72 = .ok (.ldiv, 1) := by decide +kernel
theorem dX12_stings_73 : decode cX12_stings 73 = .ok (.putfield 137, 3) := by decide +kernel
theorem dX12_stings_76 : decode cX12_stings 76 = .ok (.aload_n 0, 1) := by decide +kernel
theorem dX12_stings_77 : decode cX12_stings 77 = .ok (.lload 6, 2) := by decide +kernel
theorem dX12_stings_79 : decode cX12_stings 79 = .ok (.lload 8, 2) := by decide +kernel
theorem dX12_stings_81 : decode cX12_stings 81 = .ok (.ldiv, 1) := by decide +kernel
theorem dX12_stings_82 : decode cX12_stings 82 = .ok (.putfield 47, 3) := by decide +kernel
theorem dX12_stings_85 : decode cX12_stings 85 = .ok (.iconst 1, 1) := by decide +kernel
theorem dX12_stings_86 : decode cX12_stings 86 = .ok (.ireturn, 1) := by decide +kernel
theorem dX12_surest_0 : decode cX12_surest 0 = .ok (.iload_n 1, 1) := by decide +kernel
theorem dX12_surest_1 : decode cX12_surest 1 = .ok (.i2l, 1) := by decide +kernel
theorem dX12_surest_2 : decode cX12_surest 2 = .ok (.lconst 0, 1) := by decide +kernel
theorem dX12_surest_3 : decode cX12_surest 3 = .ok (.ldc2_w 125, 3) := by decide +kernel
theorem dX12_surest_6 : decode cX12_surest 6 = .ok (.invokestatic 59, 3) := by decide +kernel
theorem dX12_surest_9 : decode cX12_surest 9 = .ok (.ifCond .eq 40, 3) := by decide +kernel
theorem dX12_surest_12 : decode cX12_surest 12 = .ok (.iload_n 2, 1) := by decide +kernel
theorem dX12_surest_13 : decode cX12_surest 13 = .ok (.i2l, 1) := by decide +kernel
theorem dX12_surest_14 : decode cX12_surest 14 = .ok (.lconst 0, 1) := by decide +kernel
theorem dX12_surest_15 : decode cX12_surest 15 = .ok (.ldc2_w 127, 3) := by decide +kernel
theorem dX12_surest_18 : decode cX12_surest 18 = .ok (.invokestatic 59, 3) := by decide +kernel
theorem dX12_surest_21 : decode cX12_surest 21 = .ok (.ifCond .eq 28, 3) := by decide +kernel
theorem dX12_surest_24 : decode cX12_surest 24 = .ok (.iload 4, 2) := by decide +kernel
theorem dX12_surest_26 : decode cX12_surest 26 = .ok (.i2l, 1) := by decide +kernel
theorem dX12_surest_27 : decode cX12_surest 27 = .ok (.lconst 1, 1) := by decide +kernel
theorem dX12_surest_28 : decode cX12_surest 28 = .ok (.ldc2_w 140, 3) := by decide +kernel
theorem dX12_surest_31 : decode cX12_surest 31 = .ok (.invokestatic 59, 3) := by decide +kernel
theorem dX12_surest_34 : decode cX12_surest 34 = .ok (.ifCond .eq 15, 3) := by decide +kernel
theorem dX12_surest_37 : decode cX12_surest 37 = .ok (.iload_n 3, 1) := by decide +kernel
theorem dX12_surest_38 : decode cX12_surest 38 = .ok (.i2l, 1) := by decide +kernel
theorem dX12_surest_39 : decode cX12_surest 39 = .ok (.lconst 1, 1) := by decide +kernel
theorem dX12_surest_40 : decode cX12_surest 40 = .ok (.iload 4, 2) := by decide +kernel
theorem dX12_surest_42 : decode cX12_surest 42 = .ok (.i2l, 1) := by decide +kernel
theorem dX12_surest_43 : decode cX12_surest 43 = .ok (.invokestatic 59, 3) := by decide +kernel
theorem dX12_surest_46 : decode cX12_surest 46 = .ok (.ifCond .ne 8, 3) := by decide +kernel
theorem dX12_surest_49 : decode cX12_surest 49 = .ok (.aload_n 0, 1) := by decide +kernel
theorem dX12_surest_50 : decode cX12_surest 50 = .ok (.invokevirtual 74, 3) := by decide +kernel
theorem dX12_surest_53 : decode cX12_surest 53 = .ok (.ireturn, 1) := by decide +kernel
theorem dX12_surest_54 : decode cX12_surest 54 = .ok (.iconst (-1), 1) := by decide +kernel
theorem dX12_surest_55 : decode cX12_surest 55 = .ok (.istore 5, 2) := by decide +kernel
theorem dX12_surest_57 : decode cX12_surest 57 = .ok (.iconst 0, 1) := by decide +kernel
theorem dX12_surest_58 : decode cX12_surest 58 = .ok (.istore 6, 2) := by decide +kernel
theorem dX12_surest_60 : decode cX12_surest 60 = .ok (.iload 6, 2) := by decide +kernel
theorem dX12_surest_62 : decode cX12_surest 62 = .ok (.bipush 12, 2) := by decide +kernel
theorem dX12_surest_64 : decode cX12_surest 64 = .ok (.if_icmp .gt 44, 3) := by decide +kernel
theorem dX12_surest_67 : decode cX12_surest 67 = .ok (.iload_n 1, 1) := by decide +kernel
theorem dX12_surest_68 : decode cX12_surest 68 = .ok (.iload 6, 2) := by decide +kernel
theorem dX12_surest_70 : decode cX12_surest 70 = .ok (.iload_n 2, 1) := by decide +kernel
theorem dX12_surest_71 : decode cX12_surest 71 = .ok (.invokestatic 129, 3) := by decide +kernel
theorem dX12_surest_74 : decode cX12_surest 74 = .ok (.iload 4, 2) := by decide +kernel
theorem dX12_surest_76 : decode cX12_surest 76 = .ok (.i2l, 1) := by decide +kernel
theorem dX12_surest_77 : decode cX12_surest 77 = .ok (.lmul, 1) := by decide +kernel
theorem dX12_surest_78 : decode cX12_surest 78 = .ok (.iload_n 3, 1) := by decide +kernel
theorem dX12_surest_79 : decode cX12_surest 79 = .ok (.i2l, 1) := by decide +kernel
theorem dX12_surest_80 : decode cX12_surest 80 = .ok (.ldc2_w 125, 3) := by decide +kernel
theorem dX12_surest_83 : decode cX12_surest 83 = .ok (.iload 6, 2) := by decide +kernel
theorem dX12_surest_85 : decode cX12_surest 85 = .ok (.invokestatic 121, 3) := by decide +kernel
theorem dX12_surest_88 : decode cX12_surest 88 = .ok (.lmul, 1) := by decide +kernel
theorem dX12_surest_89 : decode cX12_surest 89 = .ok (.lcmp, 1) := by decide +kernel
theorem dX12_surest_90 : decode cX12_surest 90 = .ok (.ifCond .lt 8, 3) := by decide +kernel
theorem dX12_surest_93 : decode cX12_surest 93 = .ok (.iload 6, 2) := by decide +kernel
theorem dX12_surest_95 : decode cX12_surest 95 = .ok (.goto 5, 3) := by decide +kernel
theorem dX12_surest_98 : decode cX12_surest 98 = .ok (.iload 5, 2) := by decide +kernel
theorem dX12_surest_100 : decode cX12_surest 100 = .ok (.istore 5, 2) := by decide +kernel
theorem dX12_surest_102 : decode cX12_surest 102 = .ok (.iinc 6 1, 3) := by decide +kernel
theorem dX12_surest_105 : decode cX12_surest 105 = .ok (.goto (-45), 3) := by decide +kernel
theorem dX12_surest_108 : decode cX12_surest 108 = .ok (.iload 5, 2) := by decide +kernel
theorem dX12_surest_110 : decode cX12_surest 110 = .ok (.ireturn, 1) := by decide +kernel
theorem dX12_told_0 : decode cX12_told 0 = .ok (.aload_n 0, 1) := by decide +kernel
theorem dX12_told_1 : decode cX12_told 1 = .ok (.iload_n 1, 1) := by decide +kernel
theorem dX12_told_2 : decode cX12_told 2 = .ok (.invokevirtual 63, 3) := by decide +kernel
theorem dX12_told_5 : decode cX12_told 5 = .ok (.ifCond .eq 15, 3) := by decide +kernel
theorem dX12_told_8 : decode cX12_told 8 = .ok (.iload_n 2, 1) := by decide +kernel
theorem dX12_told_9 : decode cX12_told 9 = .ok (.i2l, 1) := by decide +kernel
theorem dX12_told_10 : decode cX12_told 10 = .ok (.lconst 0, 1) := by decide +kernel
theorem dX12_told_11 : decode cX12_told 11 = .ok (.ldc2_w 72, 3) := by decide +kernel
theorem dX12_told_14 : decode cX12_told 14 = .ok (.invokestatic 59, 3) := by decide +kernel
theorem dX12_told_17 : decode cX12_told 17 = .ok (.ifCond .ne 8, 3) := by decide +kernel
theorem dX12_told_20 : decode cX12_told 20 = .ok (.aload_n 0, 1) := by decide +kernel
theorem dX12_told_21 : decode cX12_told 21 = .ok (.invokevirtual 74, 3) := by decide +kernel
theorem dX12_told_24 : decode cX12_told 24 = .ok (.ireturn, 1) := by decide +kernel
theorem dX12_told_25 : decode cX12_told 25 = .ok (.aload_n 0, 1) := by decide +kernel
theorem dX12_told_26 : decode cX12_told 26 = .ok (.getfield 7, 3) := by decide +kernel
theorem dX12_told_29 : decode cX12_told 29 = .ok (.bipush 16, 2) := by decide +kernel
theorem dX12_told_31 : decode cX12_told 31 = .ok (.iconst 3, 1) := by decide +kernel
theorem dX12_told_32 : decode cX12_told 32 = .ok (.iload_n 1, 1) := by decide +kernel
theorem dX12_told_33 : decode cX12_told 33 = .ok (.imul, 1) := by decide +kernel
theorem dX12_told_34 : decode cX12_told 34 = .ok (.iadd, 1) := by decide +kernel
theorem dX12_told_35 : decode cX12_told 35 = .ok (.iconst 2, 1) := by decide +kernel
theorem dX12_told_36 : decode cX12_told 36 = .ok (.iadd, 1) := by decide +kernel
theorem dX12_told_37 : decode cX12_told 37 = .ok (.iaload, 1) := by decide +kernel
theorem dX12_told_38 : decode cX12_told 38 = .ok (.istore_n 3, 1) := by decide +kernel
theorem dX12_told_39 : decode cX12_told 39 = .ok (.aload_n 0, 1) := by decide +kernel
theorem dX12_told_40 : decode cX12_told 40 = .ok (.getfield 7, 3) := by decide +kernel
theorem dX12_told_43 : decode cX12_told 43 = .ok (.bipush 16, 2) := by decide +kernel
theorem dX12_told_45 : decode cX12_told 45 = .ok (.iconst 3, 1) := by decide +kernel
theorem dX12_told_46 : decode cX12_told 46 = .ok (.iload_n 1, 1) := by decide +kernel
theorem dX12_told_47 : decode cX12_told 47 = .ok (.imul, 1) := by decide +kernel
theorem dX12_told_48 : decode cX12_told 48 = .ok (.iadd, 1) := by decide +kernel
theorem dX12_told_49 : decode cX12_told 49 = .ok (.iconst 2, 1) := by decide +kernel
theorem dX12_told_50 : decode cX12_told 50 = .ok (.iadd, 1) := by decide +kernel
theorem dX12_told_51 : decode cX12_told 51 = .ok (.iload_n 2, 1) := by decide +kernel
theorem dX12_told_52 : decode cX12_told 52 = .ok (.iastore, 1) := by decide +kernel
theorem dX12_told_53 : decode cX12_told 53 = .ok (.iload_n 3, 1) := by decide +kernel
theorem dX12_told_54 : decode cX12_told 54 = .ok (.ireturn, 1) := by decide +kernel
theorem dX12_bare_0 : decode cX12_bare 0 = .ok (.iload_n 1, 1) := by decide +kernel
theorem dX12_bare_1 : decode cX12_bare 1 = .ok (.i2l, 1) := by decide +kernel
theorem dX12_bare_2 : decode cX12_bare 2 = .ok (.lconst 0, 1) := by decide +kernel
theorem dX12_bare_3 : decode cX12_bare 3 = .ok (.ldc2_w 142, 3) := by decide +kernel
theorem dX12_bare_6 : decode cX12_bare 6 = .ok (.invokestatic 59, 3) := by decide +kernel
theorem dX12_bare_9 : decode cX12_bare 9 = .ok (.ifCond .eq 13, 3) := by decide +kernel
theorem dX12_bare_12 : decode cX12_bare 12 = .ok (.iload_n 2, 1) := by decide +kernel
theorem dX12_bare_13 : decode cX12_bare 13 = .ok (.i2l, 1) := by decide +kernel
theorem dX12_bare_14 : decode cX12_bare 14 = .ok (.lconst 0, 1) := by decide +kernel
theorem dX12_bare_15 : decode cX12_bare 15 = .ok (.lconst 1, 1) := by decide +kernel
theorem dX12_bare_16 : decode cX12_bare 16 = .ok (.invokestatic 59, 3) := by decide +kernel
theorem dX12_bare_19 : decode cX12_bare 19 = .ok (.ifCond .ne 8, 3) := by decide +kernel
theorem dX12_bare_22 : decode cX12_bare 22 = .ok (.aload_n 0, 1) := by decide +kernel
theorem dX12_bare_23 : decode cX12_bare 23 = .ok (.invokevirtual 74, 3) := by decide +kernel
theorem dX12_bare_26 : decode cX12_bare 26 = .ok (.ireturn, 1) := by decide +kernel
theorem dX12_bare_27 : decode cX12_bare 27 = .ok (.iconst 0, 1) := by decide +kernel
theorem dX12_bare_28 : decode cX12_bare 28 = .ok (.istore_n 3, 1) := by decide +kernel
theorem dX12_bare_29 : decode cX12_bare 29 = .ok (.iconst (-1), 1) := by decide +kernel
theorem dX12_bare_30 : decode cX12_bare 30 = .ok (.istore 4, 2) := by decide +kernel
theorem dX12_bare_32 : decode cX12_bare 32 = .ok (.iconst 0, 1) := by decide +kernel
theorem dX12_bare_33 : decode cX12_bare 33 = .ok (.istore 5, 2) := by decide +kernel
theorem dX12_bare_35 : decode cX12_bare 35 = .ok (.iload 5, 2) := by decide +kernel
theorem dX12_bare_37 : decode cX12_bare 37 = .ok (.iconst 1, 1) := by decide +kernel
theorem dX12_bare_38 : decode cX12_bare 38 = .ok (.iconst 3, 1) := by decide +kernel
theorem dX12_bare_39 : decode cX12_bare 39 = .ok (.iload_n 1, 1) := by decide +kernel
theorem dX12_bare_40 : decode cX12_bare 40 = .ok (.imul, 1) := by decide +kernel
theorem dX12_bare_41 : decode cX12_bare 41 = .ok (.ishl, 1) := by decide +kernel
theorem dX12_bare_42 : decode cX12_bare 42 = .ok (.if_icmp .ge 178, 3) := by decide +kernel
theorem dX12_bare_45 : decode cX12_bare 45 = .ok (.iconst 1, 1) := by decide +kernel
theorem dX12_bare_46 : decode cX12_bare 46 = .ok (.istore 6, 2) := by decide +kernel
theorem dX12_bare_48 : decode cX12_bare 48 = .ok (.aload_n 0, 1) := by decide +kernel
theorem dX12_bare_49 : decode cX12_bare 49 = .ok (.invokevirtual 99, 3) := by decide +kernel
theorem dX12_bare_52 : decode cX12_bare 52 = .ok (.iconst 0, 1) := by decide +kernel
theorem dX12_bare_53 : decode cX12_bare 53 = .ok (.istore 7, 2) := by decide +kernel
theorem dX12_bare_55 : decode cX12_bare 55 = .ok (.iload 7, 2) := by decide +kernel
theorem dX12_bare_57 : decode cX12_bare 57 = .ok (.iload_n 1, 1) := by decide +kernel
theorem dX12_bare_58 : decode cX12_bare 58 = .ok (.if_icmp .ge 65, 3) := by decide +kernel
theorem dX12_bare_61 : decode cX12_bare 61 = .ok (.iload 6, 2) := by decide +kernel
theorem dX12_bare_63 : decode cX12_bare 63 = .ok (.ifCond .eq 60, 3) := by decide +kernel
theorem dX12_bare_66 : decode cX12_bare 66 = .ok (.iload 5, 2) := by decide +kernel
theorem dX12_bare_68 : decode cX12_bare 68 = .ok (.iconst 3, 1) := by decide +kernel
theorem dX12_bare_69 : decode cX12_bare 69 = .ok (.iload_n 1, 1) := by decide +kernel
theorem dX12_bare_70 : decode cX12_bare 70 = .ok (.iconst 1, 1) := by decide +kernel
theorem dX12_bare_71 : decode cX12_bare 71 = .ok (.isub, 1) := by decide +kernel
theorem dX12_bare_72 : decode cX12_bare 72 = .ok (.iload 7, 2) := by decide +kernel
theorem dX12_bare_74 : decode cX12_bare 74 = .ok (.isub, 1) := by decide +kernel
theorem dX12_bare_75 : decode cX12_bare 75 = .ok (.imul, 1) := by decide +kernel
theorem dX12_bare_76 : decode cX12_bare 76 = .ok (.ishr, 1) := by decide +kernel
theorem dX12_bare_77 : decode cX12_bare 77 = .ok (.bipush 7, 2) := by decide +kernel
theorem dX12_bare_79 : decode cX12_bare 79 = .ok (.iand, 1) := by decide +kernel
theorem dX12_bare_80 : decode cX12_bare 80 = .ok (.istore 8, 2) := by decide +kernel
theorem dX12_bare_82 : decode cX12_bare 82 = .ok (.aload_n 0, 1) := by decide +kernel
theorem dX12_bare_83 : decode cX12_bare 83 = .ok (.iload 8, 2) := by decide +kernel
theorem dX12_bare_85 : decode cX12_bare 85 = .ok (.invokevirtual 63, 3) := by decide +kernel
theorem dX12_bare_88 : decode cX12_bare 88 = .ok (.ifCond .ne 10, 3) := by decide +kernel
theorem dX12_bare_91 : decode cX12_bare 91 = .ok (.iload 8, 2) := by decide +kernel
theorem dX12_bare_93 : decode cX12_bare 93 = .ok (.bipush 7, 2) := by decide +kernel
theorem dX12_bare_95 : decode cX12_bare 95 = .ok (.if_icmp .ne 7, 3) := by decide +kernel
theorem dX12_bare_98 : decode cX12_bare 98 = .ok (.iconst 1, 1) := by decide +kernel
theorem dX12_bare_99 : decode cX12_bare 99 = .ok (.goto 4, 3) := by decide +kernel
theorem dX12_bare_102 : decode cX12_bare 102 = .ok (.iconst 0, 1) := by decide +kernel
theorem dX12_bare_103 : decode cX12_bare 103 = .ok (.istore 6, 2) := by decide +kernel
theorem dX12_bare_105 : decode cX12_bare 105 = .ok (.iload 6, 2) := by decide +kernel
theorem dX12_bare_107 : decode cX12_bare 107 = .ok (.ifCond .eq 10, 3) := by decide +kernel
theorem dX12_bare_110 : decode cX12_bare 110 = .ok (.aload_n 0, 1) := by decide +kernel
theorem dX12_bare_111 : decode cX12_bare 111 = .ok (.iload 8, 2) := by decide +kernel
theorem dX12_bare_113 : decode cX12_bare 113 = .ok (.invokevirtual 102, 3) := by decide +kernel
theorem dX12_bare_116 : decode cX12_bare 116 = .ok (.pop, 1) := by decide +kernel
theorem dX12_bare_117 : decode cX12_bare 117 = .ok (.iinc 7 1, 3) := by decide +kernel
theorem dX12_bare_120 : decode cX12_bare 120 = .ok (.goto (-65), 3) := by decide +kernel
theorem dX12_bare_123 : decode cX12_bare 123 = .ok (.iconst 0, 1) := by decide +kernel
theorem dX12_bare_124 : decode cX12_bare 124 = .ok (.istore 7, 2) := by decide +kernel
theorem dX12_bare_126 : decode cX12_bare 126 = .ok (.iload 7, 2) := by decide +kernel
theorem dX12_bare_128 : decode cX12_bare 128 = .ok (.aload_n 0, 1) := by decide +kernel
theorem dX12_bare_129 : decode cX12_bare 129 = .ok (.getfield 7, 3) := by decide +kernel
theorem dX12_bare_132 : decode cX12_bare 132 = .ok (.iconst 0, 1) := by decide +kernel
theorem dX12_bare_133 : decode cX12_bare 133 = .ok (.iaload, 1) := by decide +kernel
theorem dX12_bare_134 : decode cX12_bare 134 = .ok (.if_icmp .ge 47, 3) := by decide +kernel
theorem dX12_bare_137 : decode cX12_bare 137 = .ok (.iload 6, 2) := by decide +kernel
theorem dX12_bare_139 : decode cX12_bare 139 = .ok (.ifCond .eq 33, 3) := by decide +kernel
theorem dX12_bare_142 : decode cX12_bare 142 = .ok (.aload_n 0, 1) := by decide +kernel
theorem dX12_bare_143 : decode cX12_bare 143 = .ok (.getfield 26, 3) := by decide +kernel
theorem dX12_bare_146 : decode cX12_bare 146 = .ok (.iconst 3, 1) := by decide +kernel
theorem dX12_bare_147 : decode cX12_bare 147 = .ok (.iload 7, 2) := by decide +kernel
theorem dX12_bare_149 : decode cX12_bare 149 = .ok (.iadd, 1) := by decide +kernel
theorem dX12_bare_150 : decode cX12_bare 150 = .ok (.iaload, 1) := by decide +kernel
theorem dX12_bare_151 : decode cX12_bare 151 = .ok (.aload_n 0, 1) := by decide +kernel
theorem dX12_bare_152 : decode cX12_bare 152 = .ok (.getfield 7, 3) := by decide +kernel
theorem dX12_bare_155 : decode cX12_bare 155 = .ok (.bipush 16, 2) := by decide +kernel
theorem dX12_bare_157 : decode cX12_bare 157 = .ok (.iconst 3, 1) := by decide +kernel
theorem dX12_bare_158 : decode cX12_bare 158 = .ok (.iload 7, 2) := by decide +kernel
theorem dX12_bare_160 : decode cX12_bare 160 = .ok (.imul, 1) := by decide +kernel
theorem dX12_bare_161 : decode cX12_bare 161 = .ok (.iadd, 1) := by decide +kernel
theorem dX12_bare_162 : decode cX12_bare 162 = .ok (.iconst 2, 1) := by decide +kernel
theorem dX12_bare_163 : decode cX12_bare 163 = .ok (.iadd, 1) := by decide +kernel
theorem dX12_bare_164 : decode cX12_bare 164 = .ok (.iaload, 1) := by decide +kernel
theorem dX12_bare_165 : decode cX12_bare 165 = .ok (.if_icmp .ne 7, 3) := by decide +kernel
theorem dX12_bare_168 : decode cX12_bare 168 = .ok (.iconst 1, 1) := by decide +kernel
theorem dX12_bare_169 : decode cX12_bare 169 = .ok (.goto 4, 3) := by decide +kernel
theorem dX12_bare_172 : decode cX12_bare 172 = .ok (.iconst 0, 1) := by decide +kernel
theorem dX12_bare_173 : decode cX12_bare 173 = .ok (.istore 6, 2) := by decide +kernel
theorem dX12_bare_175 : decode cX12_bare 175 = .ok (.iinc 7 1, 3) := by decide +kernel
theorem dX12_bare_178 : decode cX12_bare 178 = .ok (.goto (-52), 3) := by decide +kernel
theorem dX12_bare_181 : decode cX12_bare 181 = .ok (.iload_n 3, 1) := by decide +kernel
theorem dX12_bare_182 : decode cX12_bare 182 = .ok (.iload 6, 2) := by decide +kernel
theorem dX12_bare_184 : decode cX12_bare 184 = .ok (.ifCond .eq 7, 3) := by decide +kernel
theorem dX12_bare_187 : decode cX12_bare 187 = .ok (.iconst 1, 1) := by decide +kernel
theorem dX12_bare_188 : decode cX12_bare 188 = .ok (.goto 4, 3) := by decide +kernel
theorem dX12_bare_191 : decode cX12_bare 191 = .ok (.iconst 0, 1) := by decide +kernel
theorem dX12_bare_192 : decode cX12_bare 192 = .ok (.iadd, 1) := by decide +kernel
theorem dX12_bare_193 : decode cX12_bare 193 = .ok (.istore_n 3, 1) := by decide +kernel
theorem dX12_bare_194 : decode cX12_bare 194 = .ok (.iload 6, 2) := by decide +kernel
theorem dX12_bare_196 : decode cX12_bare 196 = .ok (.ifCond .eq 14, 3) := by decide +kernel
theorem dX12_bare_199 : decode cX12_bare 199 = .ok (.iload 4, 2) := by decide +kernel
theorem dX12_bare_201 : decode cX12_bare 201 = .ok (.iconst (-1), 1) := by decide +kernel
theorem dX12_bare_202 : decode cX12_bare 202 = .ok (.if_icmp .ne 8, 3) := by decide +kernel
theorem dX12_bare_205 : decode cX12_bare 205 = .ok (.iload 5, 2) := by decide +kernel
theorem dX12_bare_207 : decode cX12_bare 207 = .ok (.goto 5, 3) := by decide +kernel
theorem dX12_bare_210 : decode cX12_bare 210 = .ok (.iload 4, 2) := by decide +kernel
theorem dX12_bare_212 : decode cX12_bare 212 = .ok (.istore 4, 2) := by decide +kernel
theorem dX12_bare_214 : decode cX12_bare 214 = .ok (.iinc 5 1, 3) := by decide +kernel
theorem dX12_bare_217 : decode cX12_bare 217 = .ok (.goto (-182), 3) := by decide +kernel
theorem dX12_bare_220 : decode cX12_bare 220 = .ok (.iload_n 2, 1) := by decide +kernel
theorem dX12_bare_221 : decode cX12_bare 221 = .ok (.ifCond .ne 7, 3) := by decide +kernel
theorem dX12_bare_224 : decode cX12_bare 224 = .ok (.iload_n 3, 1) := by decide +kernel
theorem dX12_bare_225 : decode cX12_bare 225 = .ok (.goto 18, 3) := by decide +kernel
theorem dX12_bare_228 : decode cX12_bare 228 = .ok (.iload 4, 2) := by decide +kernel
theorem dX12_bare_230 : decode cX12_bare 230 = .ok (.iconst (-1), 1) := by decide +kernel
theorem dX12_bare_231 : decode cX12_bare 231 = .ok (.if_icmp .ne 10, 3) := by decide +kernel
theorem dX12_bare_234 : decode cX12_bare 234 = .ok (.aload_n 0, 1) := by decide +kernel
theorem dX12_bare_235 : decode cX12_bare 235 = .ok (.invokevirtual 105, 3) := by decide +kernel
theorem dX12_bare_238 : decode cX12_bare 238 = .ok (.goto 5, 3) := by decide +kernel
theorem dX12_bare_241 : decode cX12_bare 241 = .ok (.iload 4, 2) := by decide +kernel
theorem dX12_bare_243 : decode cX12_bare 243 = .ok (.ireturn, 1) := by decide +kernel
theorem dX12_sign_0 : decode cX12_sign 0 = .ok (.iload_n 1, 1) := by decide +kernel
theorem dX12_sign_1 : decode cX12_sign 1 = .ok (.i2l, 1) := by decide +kernel
theorem dX12_sign_2 : decode cX12_sign 2 = .ok (.lconst 0, 1) := by decide +kernel
theorem dX12_sign_3 : decode cX12_sign 3 = .ok (.ldc2_w 144, 3) := by decide +kernel
theorem dX12_sign_6 : decode cX12_sign 6 = .ok (.invokestatic 59, 3) := by decide +kernel
theorem dX12_sign_9 : decode cX12_sign 9 = .ok (.ifCond .ne 8, 3) := by decide +kernel
theorem dX12_sign_12 : decode cX12_sign 12 = .ok (.aload_n 0, 1) := by decide +kernel
theorem dX12_sign_13 : decode cX12_sign 13 = .ok (.invokevirtual 74, 3) := by decide +kernel
theorem dX12_sign_16 : decode cX12_sign 16 = .ok (.ireturn, 1) := by decide +kernel
theorem dX12_sign_17 : decode cX12_sign 17 = .ok (.aload_n 0, 1) := by decide +kernel
theorem dX12_sign_18 : decode cX12_sign 18 = .ok (.getfield 7, 3) := by decide +kernel
theorem dX12_sign_21 : decode cX12_sign 21 = .ok (.iconst 3, 1) := by decide +kernel
theorem dX12_sign_22 : decode cX12_sign 22 = .ok (.iaload, 1) := by decide +kernel
theorem dX12_sign_23 : decode cX12_sign 23 = .ok (.bipush 60, 2) := by decide +kernel
theorem dX12_sign_25 : decode cX12_sign 25 = .ok (.if_icmp .ne 8, 3) := by decide +kernel
theorem dX12_sign_28 : decode cX12_sign 28 = .ok (.aload_n 0, 1) := by decide +kernel
theorem dX12_sign_29 : decode cX12_sign 29 = .ok (.invokevirtual 78, 3) := by decide +kernel
theorem dX12_sign_32 : decode cX12_sign 32 = .ok (.ireturn, 1) := by decide +kernel
theorem dX12_sign_33 : decode cX12_sign 33 = .ok (.aload_n 0, 1) := by decide +kernel
theorem dX12_sign_34 : decode cX12_sign 34 = .ok (.getfield 7, 3) := by decide +kernel
theorem dX12_sign_37 : decode cX12_sign 37 = .ok (.bipush 29, 2) := by decide +kernel
theorem dX12_sign_39 : decode cX12_sign 39 = .ok (.aload_n 0, 1) := by decide +kernel
theorem dX12_sign_40 : decode cX12_sign 40 = .ok (.getfield 7, 3) := by decide +kernel
theorem dX12_sign_43 : decode cX12_sign 43 = .ok (.iconst 3, 1) := by decide +kernel
theorem dX12_sign_44 : decode cX12_sign 44 = .ok (.iaload, 1) := by decide +kernel
theorem dX12_sign_45 : decode cX12_sign 45 = .ok (.iadd, 1) := by decide +kernel
theorem dX12_sign_46 : decode cX12_sign 46 = .ok (.iload_n 1, 1) := by decide +kernel
theorem dX12_sign_47 : decode cX12_sign 47 = .ok (.iastore, 1) := by decide +kernel
theorem dX12_sign_48 : decode cX12_sign 48 = .ok (.aload_n 0, 1) := by decide +kernel
theorem dX12_sign_49 : decode cX12_sign 49 = .ok (.getfield 7, 3) := by decide +kernel
theorem dX12_sign_52 : decode cX12_sign 52 = .ok (.iconst 3, 1) := by decide +kernel
theorem dX12_sign_53 : decode cX12_sign 53 = .ok (.dup2, 1) := by decide +kernel
theorem dX12_sign_54 : decode cX12_sign 54 = .ok (.iaload, 1) := by decide +kernel
theorem dX12_sign_55 : decode cX12_sign 55 = .ok (.iconst 1, 1) := by decide +kernel
theorem dX12_sign_56 : decode cX12_sign 56 = .ok (.iadd, 1) := by decide +kernel
theorem dX12_sign_57 : decode cX12_sign 57 = .ok (.iastore, 1) := by decide +kernel
theorem dX12_sign_58 : decode cX12_sign 58 = .ok (.aload_n 0, 1) := by decide +kernel
theorem dX12_sign_59 : decode cX12_sign 59 = .ok (.getfield 7, 3) := by decide +kernel
theorem dX12_sign_62 : decode cX12_sign 62 = .ok (.iconst 3, 1) := by decide +kernel
theorem dX12_sign_63 : decode cX12_sign 63 = .ok (.iaload, 1) := by decide +kernel
theorem dX12_sign_64 : decode cX12_sign 64 = .ok (.ireturn, 1) := by decide +kernel
theorem dX12_hush_0 : decode cX12_hush 0 = .ok (.aload_n 0, 1) := by decide +kernel
theorem dX12_hush_1 : decode cX12_hush 1 = .ok (.getfield 7, 3) := by decide +kernel
theorem dX12_hush_4 : decode cX12_hush 4 = .ok (.iconst 3, 1) := by decide +kernel
theorem dX12_hush_5 : decode cX12_hush 5 = .ok (.iaload, 1) := by decide +kernel
theorem dX12_hush_6 : decode cX12_hush 6 = .ok (.istore_n 1, 1) := by decide +kernel
theorem dX12_hush_7 : decode cX12_hush 7 = .ok (.aload_n 0, 1) := by decide +kernel
theorem dX12_hush_8 : decode cX12_hush 8 = .ok (.getfield 7, 3) := by decide +kernel
theorem dX12_hush_11 : decode cX12_hush 11 = .ok (.iconst 3, 1) := by decide +kernel
theorem dX12_hush_12 : decode cX12_hush 12 = .ok (.iconst 0, 1) := by decide +kernel
theorem dX12_hush_13 : decode cX12_hush 13 = .ok (.iastore, 1) := by decide +kernel
theorem dX12_hush_14 : decode cX12_hush 14 = .ok (.iload_n 1, 1) := by decide +kernel
theorem dX12_hush_15 : decode cX12_hush 15 = .ok (.ireturn, 1) := by decide +kernel
theorem dX12_law_0 : decode cX12_law 0 = .ok (.iload_n 1, 1) := by decide +kernel
theorem dX12_law_1 : decode cX12_law 1 = .ok (.i2l, 1) := by decide +kernel
theorem dX12_law_2 : decode cX12_law 2 = .ok (.lconst 0, 1) := by decide +kernel
theorem dX12_law_3 : decode cX12_law 3 = .ok (.ldc2_w 108, 3) := by decide +kernel
theorem dX12_law_6 : decode cX12_law 6 = .ok (.invokestatic 59, 3) := by decide +kernel
theorem dX12_law_9 : decode cX12_law 9 = .ok (.ifCond .eq 15, 3) := by decide +kernel
theorem dX12_law_12 : decode cX12_law 12 = .ok (.iload_n 2, 1) := by decide +kernel
theorem dX12_law_13 : decode cX12_law 13 = .ok (.i2l, 1) := by decide +kernel
theorem dX12_law_14 : decode cX12_law 14 = .ok (.lconst 0, 1) := by decide +kernel
theorem dX12_law_15 : decode cX12_law 15 = .ok (.ldc2_w 146, 3) := by decide +kernel
theorem dX12_law_18 : decode cX12_law 18 = .ok (.invokestatic 59, 3) := by decide +kernel
theorem dX12_law_21 : decode cX12_law 21 = .ok (.ifCond .ne 8, 3) := by decide +kernel
theorem dX12_law_24 : decode cX12_law 24 = .ok (.aload_n 0, 1) := by decide +kernel
theorem dX12_law_25 : decode cX12_law 25 = .ok (.invokevirtual 74, 3) := by decide +kernel
theorem dX12_law_28 : decode cX12_law 28 = .ok (.ireturn, 1) := by decide +kernel
theorem dX12_law_29 : decode cX12_law 29 = .ok (.aload_n 0, 1) := by decide +kernel
theorem dX12_law_30 : decode cX12_law 30 = .ok (.getfield 7, 3) := by decide +kernel
theorem dX12_law_33 : decode cX12_law 33 = .ok (.bipush 89, 2) := by decide +kernel
theorem dX12_law_35 : decode cX12_law 35 = .ok (.iload_n 1, 1) := by decide +kernel
theorem dX12_law_36 : decode cX12_law 36 = .ok (.iadd, 1) := by decide +kernel
theorem dX12_law_37 : decode cX12_law 37 = .ok (.iaload, 1) := by decide +kernel
theorem dX12_law_38 : decode cX12_law 38 = .ok (.bipush 8, 2) := by decide +kernel
theorem dX12_law_40 : decode cX12_law 40 = .ok (.if_icmp .ne 8, 3) := by decide +kernel
theorem dX12_law_43 : decode cX12_law 43 = .ok (.aload_n 0, 1) := by decide +kernel
theorem dX12_law_44 : decode cX12_law 44 = .ok (.invokevirtual 78, 3) := by decide +kernel
theorem dX12_law_47 : decode cX12_law 47 = .ok (.ireturn, 1) := by decide +kernel
theorem dX12_law_48 : decode cX12_law 48 = .ok (.aload_n 0, 1) := by decide +kernel
theorem dX12_law_49 : decode cX12_law 49 = .ok (.getfield 7, 3) := by decide +kernel
theorem dX12_law_52 : decode cX12_law 52 = .ok (.bipush 93, 2) := by decide +kernel
theorem dX12_law_54 : decode cX12_law 54 = .ok (.bipush 8, 2) := by decide +kernel
theorem dX12_law_56 : decode cX12_law 56 = .ok (.iload_n 1, 1) := by decide +kernel
theorem dX12_law_57 : decode cX12_law 57 = .ok (.imul, 1) := by decide +kernel
theorem dX12_law_58 : decode cX12_law 58 = .ok (.iadd, 1) := by decide +kernel
theorem dX12_law_59 : decode cX12_law 59 = .ok (.aload_n 0, 1) := by decide +kernel
theorem dX12_law_60 : decode cX12_law 60 = .ok (.getfield 7, 3) := by decide +kernel
theorem dX12_law_63 : decode cX12_law 63 = .ok (.bipush 89, 2) := by decide +kernel
theorem dX12_law_65 : decode cX12_law 65 = .ok (.iload_n 1, 1) := by decide +kernel
theorem dX12_law_66 : decode cX12_law 66 = .ok (.iadd, 1) := by decide +kernel
theorem dX12_law_67 : decode cX12_law 67 = .ok (.iaload, 1) := by decide +kernel
theorem dX12_law_68 : decode cX12_law 68 = .ok (.iadd, 1) := by decide +kernel
theorem dX12_law_69 : decode cX12_law 69 = .ok (.iload_n 2, 1) := by decide +kernel
theorem dX12_law_70 : decode cX12_law 70 = .ok (.iastore, 1) := by decide +kernel
theorem dX12_law_71 : decode cX12_law 71 = .ok (.aload_n 0, 1) := by decide +kernel
theorem dX12_law_72 : decode cX12_law 72 = .ok (.getfield 7, 3) := by decide +kernel
theorem dX12_law_75 : decode cX12_law 75 = .ok (.bipush 89, 2) := by decide +kernel
theorem dX12_law_77 : decode cX12_law 77 = .ok (.iload_n 1, 1) := by decide +kernel
theorem dX12_law_78 : decode cX12_law 78 = .ok (.iadd, 1) := by decide +kernel
theorem dX12_law_79 : decode cX12_law 79 = .ok (.dup2, 1) := by decide +kernel
theorem dX12_law_80 : decode cX12_law 80 = .ok (.iaload, 1) := by decide +kernel
theorem dX12_law_81 : decode cX12_law 81 = .ok (.iconst 1, 1) := by decide +kernel
theorem dX12_law_82 : decode cX12_law 82 = .ok (.iadd, 1) := by decide +kernel
theorem dX12_law_83 : decode cX12_law 83 = .ok (.iastore, 1) := by decide +kernel
theorem dX12_law_84 : decode cX12_law 84 = .ok (.aload_n 0, 1) := by decide +kernel
theorem dX12_law_85 : decode cX12_law 85 = .ok (.getfield 7, 3) := by decide +kernel
theorem dX12_law_88 : decode cX12_law 88 = .ok (.bipush 89, 2) := by decide +kernel
theorem dX12_law_90 : decode cX12_law 90 = .ok (.iload_n 1, 1) := by decide +kernel
theorem dX12_law_91 : decode cX12_law 91 = .ok (.iadd, 1) := by decide +kernel
theorem dX12_law_92 : decode cX12_law 92 = .ok (.iaload, 1) := by decide +kernel
theorem dX12_law_93 : decode cX12_law 93 = .ok (.ireturn, 1) := by decide +kernel
theorem dX12_noLaw_0 : decode cX12_noLaw 0 = .ok (.iload_n 1, 1) := by decide +kernel
theorem dX12_noLaw_1 : decode cX12_noLaw 1 = .ok (.i2l, 1) := by decide +kernel
theorem dX12_noLaw_2 : decode cX12_noLaw 2 = .ok (.lconst 0, 1) := by decide +kernel
theorem dX12_noLaw_3 : decode cX12_noLaw 3 = .ok (.ldc2_w 108, 3) := by decide +kernel
theorem dX12_noLaw_6 : decode cX12_noLaw 6 = .ok (.invokestatic 59, 3) := by decide +kernel
theorem dX12_noLaw_9 : decode cX12_noLaw 9 = .ok (.ifCond .ne 8, 3) := by decide +kernel
theorem dX12_noLaw_12 : decode cX12_noLaw 12 = .ok (.aload_n 0, 1) := by decide +kernel
theorem dX12_noLaw_13 : decode cX12_noLaw 13 = .ok (.invokevirtual 74, 3) := by decide +kernel
theorem dX12_noLaw_16 : decode cX12_noLaw 16 = .ok (.ireturn, 1) := by decide +kernel
theorem dX12_noLaw_17 : decode cX12_noLaw 17 = .ok (.aload_n 0, 1) := by decide +kernel
theorem dX12_noLaw_18 : decode cX12_noLaw 18 = .ok (.getfield 7, 3) := by decide +kernel
theorem dX12_noLaw_21 : decode cX12_noLaw 21 = .ok (.bipush 89, 2) := by decide +kernel
theorem dX12_noLaw_23 : decode cX12_noLaw 23 = .ok (.iload_n 1, 1) := by decide +kernel
theorem dX12_noLaw_24 : decode cX12_noLaw 24 = .ok (.iadd, 1) := by decide +kernel
theorem dX12_noLaw_25 : decode cX12_noLaw 25 = .ok (.iaload, 1) := by decide +kernel
theorem dX12_noLaw_26 : decode cX12_noLaw 26 = .ok (.istore_n 2, 1) := by decide +kernel
theorem dX12_noLaw_27 : decode cX12_noLaw 27 = .ok (.aload_n 0, 1) := by decide +kernel
theorem dX12_noLaw_28 : decode cX12_noLaw 28 = .ok (.getfield 7, 3) := by decide +kernel
theorem dX12_noLaw_31 : decode cX12_noLaw 31 = .ok (.bipush 89, 2) := by decide +kernel
theorem dX12_noLaw_33 : decode cX12_noLaw 33 = .ok (.iload_n 1, 1) := by decide +kernel
theorem dX12_noLaw_34 : decode cX12_noLaw 34 = .ok (.iadd, 1) := by decide +kernel
theorem dX12_noLaw_35 : decode cX12_noLaw 35 = .ok (.iconst 0, 1) := by decide +kernel
theorem dX12_noLaw_36 : decode cX12_noLaw 36 = .ok (.iastore, 1) := by decide +kernel
theorem dX12_noLaw_37 : decode cX12_noLaw 37 = .ok (.iload_n 2, 1) := by decide +kernel
theorem dX12_noLaw_38 : decode cX12_noLaw 38 = .ok (.ireturn, 1) := by decide +kernel
theorem dX12_signAt_0 : decode cX12_signAt 0 = .ok (.iload_n 1, 1) := by decide +kernel
theorem dX12_signAt_1 : decode cX12_signAt 1 = .ok (.aload_n 0, 1) := by decide +kernel
theorem dX12_signAt_2 : decode cX12_signAt 2 = .ok (.getfield 7, 3) := by decide +kernel
theorem dX12_signAt_5 : decode cX12_signAt 5 = .ok (.iconst 3, 1) := by decide +kernel
theorem dX12_signAt_6 : decode cX12_signAt 6 = .ok (.iaload, 1) := by decide +kernel
theorem dX12_signAt_7 : decode cX12_signAt 7 = .ok (.if_icmp .ge 15, 3) := by decide +kernel
theorem dX12_signAt_10 : decode cX12_signAt 10 = .ok (.aload_n 0, 1) := by decide +kernel
theorem dX12_signAt_11 : decode cX12_signAt 11 = .ok (.getfield 7, 3) := by decide +kernel
theorem dX12_signAt_14 : decode cX12_signAt 14 = .ok (.bipush 29, 2) := by decide +kernel
theorem dX12_signAt_16 : decode cX12_signAt 16 = .ok (.iload_n 1, 1) := by decide +kernel
theorem dX12_signAt_17 : decode cX12_signAt 17 = .ok (.iadd, 1) := by decide +kernel
theorem dX12_signAt_18 : decode cX12_signAt 18 = .ok (.iaload, 1) := by decide +kernel
theorem dX12_signAt_19 : decode cX12_signAt 19 = .ok (.goto 16, 3) := by decide +kernel
theorem dX12_signAt_22 : decode cX12_signAt 22 = .ok (.aload_n 0, 1) := by decide +kernel
theorem dX12_signAt_23 : decode cX12_signAt 23 = .ok (.getfield 35, 3) := by decide +kernel
theorem dX12_signAt_26 : decode cX12_signAt 26 = .ok (.iload_n 1, 1) := by decide +kernel
theorem dX12_signAt_27 : decode cX12_signAt 27 = .ok (.aload_n 0, 1) := by decide +kernel
theorem dX12_signAt_28 : decode cX12_signAt 28 = .ok (.getfield 7, 3) := by decide +kernel
theorem dX12_signAt_31 : decode cX12_signAt 31 = .ok (.iconst 3, 1) := by decide +kernel
theorem dX12_signAt_32 : decode cX12_signAt 32 = .ok (.iaload, 1) := by decide +kernel
theorem dX12_signAt_33 : decode cX12_signAt 33 = .ok (.isub, 1) := by decide +kernel
theorem dX12_signAt_34 : decode cX12_signAt 34 = .ok (.iaload, 1) := by decide +kernel
theorem dX12_signAt_35 : decode cX12_signAt 35 = .ok (.ireturn, 1) := by decide +kernel
theorem dX12_broken_0 : decode cX12_broken 0 = .ok (.aload_n 0, 1) := by decide +kernel
theorem dX12_broken_1 : decode cX12_broken 1 = .ok (.getfield 7, 3) := by decide +kernel
theorem dX12_broken_4 : decode cX12_broken 4 = .ok (.bipush 89, 2) := by decide +kernel
theorem dX12_broken_6 : decode cX12_broken 6 = .ok (.iload_n 1, 1) := by decide +kernel
theorem dX12_broken_7 : decode cX12_broken 7 = .ok (.iadd, 1) := by decide +kernel
theorem dX12_broken_8 : decode cX12_broken 8 = .ok (.iaload, 1) := by decide +kernel
theorem dX12_broken_9 : decode cX12_broken 9 = .ok (.ifCond .ne 5, 3) := by decide +kernel
theorem dX12_broken_12 : decode cX12_broken 12 = .ok (.iconst (-1), 1) := by decide +kernel
theorem dX12_broken_13 : decode cX12_broken 13 = .ok (.ireturn, 1) := by decide +kernel
theorem dX12_broken_14 : decode cX12_broken 14 = .ok (.lconst 0, 1) := by decide +kernel
theorem dX12_broken_15 : decode cX12_broken 15 = .ok (.lstore_n 3, 1) := by decide +kernel
theorem dX12_broken_16 : decode cX12_broken 16 = .ok (.iconst 0, 1) := by decide +kernel
theorem dX12_broken_17 : decode cX12_broken 17 = .ok (.istore 5, 2) := by decide +kernel
theorem dX12_broken_19 : decode cX12_broken 19 = .ok (.iload 5, 2) := by decide +kernel
theorem dX12_broken_21 : decode cX12_broken 21 = .ok (.iload_n 2, 1) := by decide +kernel
theorem dX12_broken_22 : decode cX12_broken 22 = .ok (.if_icmp .gt 16, 3) := by decide +kernel
theorem dX12_broken_25 : decode cX12_broken 25 = .ok (.lload_n 3, 1) := by decide +kernel
theorem dX12_broken_26 : decode cX12_broken 26 = .ok (.lconst 1, 1) := by decide +kernel
theorem dX12_broken_27 : decode cX12_broken 27 = .ok (.iload 5, 2) := by decide +kernel
