theorem dX12_scans_264 : decode cX12_scans 264 = .ok (.getfield 185, 3) := by decide +kernel
theorem dX12_scans_267 : decode cX12_scans 267 = .ok (.isub, 1) := by decide +kernel
theorem dX12_scans_268 : decode cX12_scans 268 = .ok (.iconst 2, 1) := by decide +kernel
theorem dX12_scans_269 : decode cX12_scans 269 = .ok (.if_icmp .le 7, 3) := by decide +kernel
theorem dX12_scans_272 : decode cX12_scans 272 = .ok (.iconst 1, 1) := by decide +kernel
theorem dX12_scans_273 : decode cX12_scans 273 = .ok (.goto 4, 3) := by decide +kernel
theorem dX12_scans_276 : decode cX12_scans 276 = .ok (.iconst 2, 1) := by decide +kernel
theorem dX12_scans_277 : decode cX12_scans 277 = .ok (.putfield 188, 3) := by decide +kernel
theorem dX12_scans_280 : decode cX12_scans 280 = .ok (.return_, 1) := by decide +kernel
theorem dX12_scans_281 : decode cX12_scans 281 = .ok (.aload_n 0, 1) := by decide +kernel
theorem dX12_scans_282 : decode cX12_scans 282 = .ok (.aload_n 0, 1) := by decide +kernel
theorem dX12_scans_283 : decode cX12_scans 283 = .ok (.bipush 59, 2) := by decide +kernel
theorem dX12_scans_285 : decode cX12_scans 285 = .ok (.bipush 59, 2) := by decide +kernel
theorem dX12_scans_287 : decode cX12_scans 287 = .ok (.invokevirtual 181, 3) := by decide +kernel
theorem dX12_scans_290 : decode cX12_scans 290 = .ok (.ifCond .eq 7, 3) := by decide +kernel
theorem dX12_scans_293 : decode cX12_scans 293 = .ok (.iconst 3, 1) := by decide +kernel
theorem dX12_scans_294 : decode cX12_scans 294 = .ok (.goto 4, 3) := by decide +kernel
theorem dX12_scans_297 : decode cX12_scans 297 = .ok (.iconst 1, 1) := by decide +kernel
theorem dX12_scans_298 : decode cX12_scans 298 = .ok (.putfield 188, 3) := by decide +kernel
theorem dX12_scans_301 : decode cX12_scans 301 = .ok (.aload_n 0, 1) := by decide +kernel
theorem dX12_scans_302 : decode cX12_scans 302 = .ok (.dup, 1) := by decide +kernel
theorem dX12_scans_303 : decode cX12_scans 303 = .ok (.getfield 178, 3) := by decide +kernel
theorem dX12_scans_306 : decode cX12_scans 306 = .ok (.iconst 1, 1) := by decide +kernel
theorem dX12_scans_307 : decode cX12_scans 307 = .ok (.iadd, 1) := by decide +kernel
theorem dX12_scans_308 : decode cX12_scans 308 = .ok (.putfield 178, 3) := by decide +kernel
theorem dX12_scans_311 : decode cX12_scans 311 = .ok (.return_, 1) := by decide +kernel
theorem dX12_verbOf_0 : decode cX12_verbOf 0 = .ok (.lload_n 0, 1) := by decide +kernel
theorem dX12_verbOf_1 : decode cX12_verbOf 1 = .ok (.ldc2_w 210, 3) := by decide +kernel
theorem dX12_verbOf_4 : decode cX12_verbOf 4 = .ok (.lcmp, 1) := by decide +kernel
theorem dX12_verbOf_5 : decode cX12_verbOf 5 = .ok (.ifCond .ne 7, 3) := by decide +kernel
theorem dX12_verbOf_8 : decode cX12_verbOf 8 = .ok (.iconst 0, 1) := by decide +kernel
theorem dX12_verbOf_9 : decode cX12_verbOf 9 = .ok (.goto 28, 3) := by decide +kernel
theorem dX12_verbOf_12 : decode cX12_verbOf 12 = .ok (.lload_n 0, 1) := by decide +kernel
theorem dX12_verbOf_13 : decode cX12_verbOf 13 = .ok (.ldc2_w 212, 3) := by decide +kernel
theorem dX12_verbOf_16 : decode cX12_verbOf 16 = .ok (.lcmp, 1) := by decide +kernel
theorem dX12_verbOf_17 : decode cX12_verbOf 17 = .ok (.ifCond .ne 7, 3) := by decide +kernel
theorem dX12_verbOf_20 : decode cX12_verbOf 20 = .ok (.iconst 1, 1) := by decide +kernel
theorem dX12_verbOf_21 : decode cX12_verbOf 21 = .ok (.goto 16, 3) := by decide +kernel
theorem dX12_verbOf_24 : decode cX12_verbOf 24 = .ok (.lload_n 0, 1) := by decide +kernel
theorem dX12_verbOf_25 : decode cX12_verbOf 25 = .ok (.ldc2_w 214, 3) := by decide +kernel
theorem dX12_verbOf_28 : decode cX12_verbOf 28 = .ok (.lcmp, 1) := by decide +kernel
theorem dX12_verbOf_29 : decode cX12_verbOf 29 = .ok (.ifCond .ne 7, 3) := by decide +kernel
theorem dX12_verbOf_32 : decode cX12_verbOf 32 = .ok (.iconst 2, 1) := by decide +kernel
theorem dX12_verbOf_33 : decode cX12_verbOf 33 = .ok (.goto 4, 3) := by decide +kernel
theorem dX12_verbOf_36 : decode cX12_verbOf 36 = .ok (.iconst (-1), 1) := by decide +kernel
theorem dX12_verbOf_37 : decode cX12_verbOf 37 = .ok (.istore_n 2, 1) := by decide +kernel
theorem dX12_verbOf_38 : decode cX12_verbOf 38 = .ok (.lload_n 0, 1) := by decide +kernel
theorem dX12_verbOf_39 : decode cX12_verbOf 39 = .ok (.ldc2_w 216, 3) := by decide +kernel
theorem dX12_verbOf_42 : decode cX12_verbOf 42 = .ok (.lcmp, 1) := by decide +kernel
theorem dX12_verbOf_43 : decode cX12_verbOf 43 = .ok (.ifCond .ne 7, 3) := by decide +kernel
theorem dX12_verbOf_46 : decode cX12_verbOf 46 = .ok (.iconst 3, 1) := by decide +kernel
theorem dX12_verbOf_47 : decode cX12_verbOf 47 = .ok (.goto 28, 3) := by decide +kernel
theorem dX12_verbOf_50 : decode cX12_verbOf 50 = .ok (.lload_n 0, 1) := by decide +kernel
theorem dX12_verbOf_51 : decode cX12_verbOf 51 = .ok (.ldc2_w 218, 3) := by decide +kernel
theorem dX12_verbOf_54 : decode cX12_verbOf 54 = .ok (.lcmp, 1) := by decide +kernel
theorem dX12_verbOf_55 : decode cX12_verbOf 55 = .ok (.ifCond .ne 7, 3) := by decide +kernel
theorem dX12_verbOf_58 : decode cX12_verbOf 58 = .ok (.iconst 4, 1) := by decide +kernel
theorem dX12_verbOf_59 : decode cX12_verbOf 59 = .ok (.goto 16, 3) := by decide +kernel
theorem dX12_verbOf_62 : decode cX12_verbOf 62 = .ok (.lload_n 0, 1) := by decide +kernel
theorem dX12_verbOf_63 : decode cX12_verbOf 63 = .ok (.ldc2_w 220, 3) := by decide +kernel
theorem dX12_verbOf_66 : decode cX12_verbOf 66 = .ok (.lcmp, 1) := by decide +kernel
theorem dX12_verbOf_67 : decode cX12_verbOf 67 = .ok (.ifCond .ne 7, 3) := by decide +kernel
theorem dX12_verbOf_70 : decode cX12_verbOf 70 = .ok (.iconst 5, 1) := by decide +kernel
theorem dX12_verbOf_71 : decode cX12_verbOf 71 = .ok (.goto 4, 3) := by decide +kernel
theorem dX12_verbOf_74 : decode cX12_verbOf 74 = .ok (.iconst (-1), 1) := by decide +kernel
theorem dX12_verbOf_75 : decode cX12_verbOf 75 = .ok (.istore_n 3, 1) := by decide +kernel
theorem dX12_verbOf_76 : decode cX12_verbOf 76 = .ok (.iload_n 2, 1) := by decide +kernel
theorem dX12_verbOf_77 : decode cX12_verbOf 77 = .ok (.iconst (-1), 1) := by decide +kernel
theorem dX12_verbOf_78 : decode cX12_verbOf 78 = .ok (.if_icmp .eq 7, 3) := by decide +kernel
theorem dX12_verbOf_81 : decode cX12_verbOf 81 = .ok (.iload_n 2, 1) := by decide +kernel
theorem dX12_verbOf_82 : decode cX12_verbOf 82 = .ok (.goto 4, 3) := by decide +kernel
theorem dX12_verbOf_85 : decode cX12_verbOf 85 = .ok (.iload_n 3, 1) := by decide +kernel
theorem dX12_verbOf_86 : decode cX12_verbOf 86 = .ok (.ireturn, 1) := by decide +kernel
theorem dX12_takesWord_0 : decode cX12_takesWord 0 = .ok (.aload_n 0, 1) := by decide +kernel
theorem dX12_takesWord_1 : decode cX12_takesWord 1 = .ok (.getfield 188, 3) := by decide +kernel
theorem dX12_takesWord_4 : decode cX12_takesWord 4 = .ok (.iconst 4, 1) := by decide +kernel
theorem dX12_takesWord_5 : decode cX12_takesWord 5 = .ok (.if_icmp .ne 50, 3) := by decide +kernel
theorem dX12_takesWord_8 : decode cX12_takesWord 8 = .ok (.iload_n 1, 1) := by decide +kernel
theorem dX12_takesWord_9 : decode cX12_takesWord 9 = .ok (.iconst 4, 1) := by decide +kernel
theorem dX12_takesWord_10 : decode cX12_takesWord 10 = .ok (.if_icmp .ne 20, 3) := by decide +kernel
theorem dX12_takesWord_13 : decode cX12_takesWord 13 = .ok (.aload_n 0, 1) := by decide +kernel
theorem dX12_takesWord_14 : decode cX12_takesWord 14 = .ok (.getfield 178, 3) := by decide +kernel
theorem dX12_takesWord_17 : decode cX12_takesWord 17 = .ok (.aload_n 0, 1) := by decide +kernel
theorem dX12_takesWord_18 : decode cX12_takesWord 18 = .ok (.getfield 185, 3) := by decide +kernel
theorem dX12_takesWord_21 : decode cX12_takesWord 21 = .ok (.isub, 1) := by decide +kernel
theorem dX12_takesWord_22 : decode cX12_takesWord 22 = .ok (.bipush 8, 2) := by decide +kernel
theorem dX12_takesWord_24 : decode cX12_takesWord 24 = .ok (.if_icmp .gt 31, 3) := by decide +kernel
theorem dX12_takesWord_27 : decode cX12_takesWord 27 = .ok (.goto 24, 3) := by decide +kernel
theorem dX12_takesWord_30 : decode cX12_takesWord 30 = .ok (.aload_n 0, 1) := by decide +kernel
theorem dX12_takesWord_31 : decode cX12_takesWord 31 = .ok (.getfield 198, 3) := by decide +kernel
theorem dX12_takesWord_34 : decode cX12_takesWord 34 = .ok (.ifCond .eq 21, 3) := by decide +kernel
theorem dX12_takesWord_37 : decode cX12_takesWord 37 = .ok (.aload_n 0, 1) := by decide +kernel
theorem dX12_takesWord_38 : decode cX12_takesWord 38 = .ok (.getfield 178, 3) := by decide +kernel
theorem dX12_takesWord_41 : decode cX12_takesWord 41 = .ok (.aload_n 0, 1) := by decide +kernel
theorem dX12_takesWord_42 : decode cX12_takesWord 42 = .ok (.getfield 185, 3) := by decide +kernel
theorem dX12_takesWord_45 : decode cX12_takesWord 45 = .ok (.isub, 1) := by decide +kernel
theorem dX12_takesWord_46 : decode cX12_takesWord 46 = .ok (.bipush 60, 2) := by decide +kernel
theorem dX12_takesWord_48 : decode cX12_takesWord 48 = .ok (.if_icmp .gt 7, 3) := by decide +kernel
theorem dX12_takesWord_51 : decode cX12_takesWord 51 = .ok (.iconst 1, 1) := by decide +kernel
theorem dX12_takesWord_52 : decode cX12_takesWord 52 = .ok (.goto 4, 3) := by decide +kernel
theorem dX12_takesWord_55 : decode cX12_takesWord 55 = .ok (.iconst 0, 1) := by decide +kernel
theorem dX12_takesWord_56 : decode cX12_takesWord 56 = .ok (.istore_n 2, 1) := by decide +kernel
theorem dX12_takesWord_57 : decode cX12_takesWord 57 = .ok (.iload_n 2, 1) := by decide +kernel
theorem dX12_takesWord_58 : decode cX12_takesWord 58 = .ok (.ifCond .eq 46, 3) := by decide +kernel
theorem dX12_takesWord_61 : decode cX12_takesWord 61 = .ok (.aload_n 0, 1) := by decide +kernel
theorem dX12_takesWord_62 : decode cX12_takesWord 62 = .ok (.getfield 44, 3) := by decide +kernel
theorem dX12_takesWord_65 : decode cX12_takesWord 65 = .ok (.iconst 5, 1) := by decide +kernel
theorem dX12_takesWord_66 : decode cX12_takesWord 66 = .ok (.aload_n 0, 1) := by decide +kernel
theorem dX12_takesWord_67 : decode cX12_takesWord 67 = .ok (.getfield 222, 3) := by decide +kernel
theorem dX12_takesWord_70 : decode cX12_takesWord 70 = .ok (.imul, 1) := by decide +kernel
theorem dX12_takesWord_71 : decode cX12_takesWord 71 = .ok (.iconst 3, 1) := by decide +kernel
theorem dX12_takesWord_72 : decode cX12_takesWord 72 = .ok (.iadd, 1) := by decide +kernel
theorem dX12_takesWord_73 : decode cX12_takesWord 73 = .ok (.aload_n 0, 1) := by decide +kernel
theorem dX12_takesWord_74 : decode cX12_takesWord 74 = .ok (.getfield 185, 3) := by decide +kernel
theorem dX12_takesWord_77 : decode cX12_takesWord 77 = .ok (.iastore, 1) := by decide +kernel
theorem dX12_takesWord_78 : decode cX12_takesWord 78 = .ok (.aload_n 0, 1) := by decide +kernel
theorem dX12_takesWord_79 : decode cX12_takesWord 79 = .ok (.getfield 44, 3) := by decide +kernel
theorem dX12_takesWord_82 : decode cX12_takesWord 82 = .ok (.iconst 5, 1) := by decide +kernel
theorem dX12_takesWord_83 : decode cX12_takesWord 83 = .ok (.aload_n 0, 1) := by decide +kernel
theorem dX12_takesWord_84 : decode cX12_takesWord 84 = .ok (.getfield 222, 3) := by decide +kernel
theorem dX12_takesWord_87 : decode cX12_takesWord 87 = .ok (.imul, 1) := by decide +kernel
theorem dX12_takesWord_88 : decode cX12_takesWord 88 = .ok (.iconst 4, 1) := by decide +kernel
theorem dX12_takesWord_89 : decode cX12_takesWord 89 = .ok (.iadd, 1) := by decide +kernel
theorem dX12_takesWord_90 : decode cX12_takesWord 90 = .ok (.aload_n 0, 1) := by decide +kernel
theorem dX12_takesWord_91 : decode cX12_takesWord 91 = .ok (.getfield 178, 3) := by decide +kernel
theorem dX12_takesWord_94 : decode cX12_takesWord 94 = .ok (.aload_n 0, 1) := by decide +kernel
theorem dX12_takesWord_95 : decode cX12_takesWord 95 = .ok (.getfield 185, 3) := by decide +kernel
theorem dX12_takesWord_98 : decode cX12_takesWord 98 = .ok (.isub, 1) := by decide +kernel
theorem dX12_takesWord_99 : decode cX12_takesWord 99 = .ok (.iastore, 1) := by decide +kernel
theorem dX12_takesWord_100 : decode cX12_takesWord 100 = .ok (.aload_n 0, 1) := by decide +kernel
theorem dX12_takesWord_101 : decode cX12_takesWord 101 = .ok (.invokevirtual 225, 3) := by decide +kernel
theorem dX12_takesWord_104 : decode cX12_takesWord 104 = .ok (.iload_n 2, 1) := by decide +kernel
theorem dX12_takesWord_105 : decode cX12_takesWord 105 = .ok (.ireturn, 1) := by decide +kernel
theorem dX12_reads_0 : decode cX12_reads 0 = .ok (.aload_n 0, 1) := by decide +kernel
theorem dX12_reads_1 : decode cX12_reads 1 = .ok (.iconst 0, 1) := by decide +kernel
theorem dX12_reads_2 : decode cX12_reads 2 = .ok (.putfield 178, 3) := by decide +kernel
theorem dX12_reads_5 : decode cX12_reads 5 = .ok (.aload_n 0, 1) := by decide +kernel
theorem dX12_reads_6 : decode cX12_reads 6 = .ok (.iconst 0, 1) := by decide +kernel
theorem dX12_reads_7 : decode cX12_reads 7 = .ok (.putfield 222, 3) := by decide +kernel
theorem dX12_reads_10 : decode cX12_reads 10 = .ok (.aload_n 0, 1) := by decide +kernel
theorem dX12_reads_11 : decode cX12_reads 11 = .ok (.invokevirtual 225, 3) := by decide +kernel
theorem dX12_reads_14 : decode cX12_reads 14 = .ok (.aload_n 0, 1) := by decide +kernel
theorem dX12_reads_15 : decode cX12_reads 15 = .ok (.getfield 188, 3) := by decide +kernel
theorem dX12_reads_18 : decode cX12_reads 18 = .ok (.ifCond .eq 158, 3) := by decide +kernel
theorem dX12_reads_21 : decode cX12_reads 21 = .ok (.aload_n 0, 1) := by decide +kernel
theorem dX12_reads_22 : decode cX12_reads 22 = .ok (.getfield 188, 3) := by decide +kernel
theorem dX12_reads_25 : decode cX12_reads 25 = .ok (.iconst 4, 1) := by decide +kernel
theorem dX12_reads_26 : decode cX12_reads 26 = .ok (.if_icmp .ne 20, 3) := by decide +kernel
theorem dX12_reads_29 : decode cX12_reads 29 = .ok (.aload_n 0, 1) := by decide +kernel
theorem dX12_reads_30 : decode cX12_reads 30 = .ok (.getfield 198, 3) := by decide +kernel
theorem dX12_reads_33 : decode cX12_reads 33 = .ok (.ifCond .eq 13, 3) := by decide +kernel
theorem dX12_reads_36 : decode cX12_reads 36 = .ok (.aload_n 0, 1) := by decide +kernel
theorem dX12_reads_37 : decode cX12_reads 37 = .ok (.getfield 195, 3) := by decide +kernel
theorem dX12_reads_40 : decode cX12_reads 40 = .ok (.invokestatic 228, 3) := by decide +kernel
theorem dX12_reads_43 : decode cX12_reads 43 = .ok (.goto 4, 3) := by decide +kernel
theorem dX12_reads_46 : decode cX12_reads 46 = .ok (.iconst (-1), 1) := by decide +kernel
theorem dX12_reads_47 : decode cX12_reads 47 = .ok (.istore_n 1, 1) := by decide +kernel
theorem dX12_reads_48 : decode cX12_reads 48 = .ok (.iload_n 1, 1) := by decide +kernel
theorem dX12_reads_49 : decode cX12_reads 49 = .ok (.iconst (-1), 1) := by decide +kernel
theorem dX12_reads_50 : decode cX12_reads 50 = .ok (.if_icmp .ne 5, 3) := by decide +kernel
theorem dX12_reads_53 : decode cX12_reads 53 = .ok (.iconst 0, 1) := by decide +kernel
theorem dX12_reads_54 : decode cX12_reads 54 = .ok (.ireturn, 1) := by decide +kernel
theorem dX12_reads_55 : decode cX12_reads 55 = .ok (.aload_n 0, 1) := by decide +kernel
theorem dX12_reads_56 : decode cX12_reads 56 = .ok (.getfield 44, 3) := by decide +kernel
theorem dX12_reads_59 : decode cX12_reads 59 = .ok (.iconst 5, 1) := by decide +kernel
theorem dX12_reads_60 : decode cX12_reads 60 = .ok (.aload_n 0, 1) := by decide +kernel
theorem dX12_reads_61 : decode cX12_reads 61 = .ok (.getfield 222, 3) := by decide +kernel
theorem dX12_reads_64 : decode cX12_reads 64 = .ok (.imul, 1) := by decide +kernel
theorem dX12_reads_65 : decode cX12_reads 65 = .ok (.iload_n 1, 1) := by decide +kernel
theorem dX12_reads_66 : decode cX12_reads 66 = .ok (.iastore, 1) := by decide +kernel
theorem dX12_reads_67 : decode cX12_reads 67 = .ok (.aload_n 0, 1) := by decide +kernel
theorem dX12_reads_68 : decode cX12_reads 68 = .ok (.invokevirtual 225, 3) := by decide +kernel
theorem dX12_reads_71 : decode cX12_reads 71 = .ok (.iload_n 1, 1) := by decide +kernel
theorem dX12_reads_72 : decode cX12_reads 72 = .ok (.ifCond .ne 7, 3) := by decide +kernel
theorem dX12_reads_75 : decode cX12_reads 75 = .ok (.iconst 2, 1) := by decide +kernel
theorem dX12_reads_76 : decode cX12_reads 76 = .ok (.goto 13, 3) := by decide +kernel
theorem dX12_reads_79 : decode cX12_reads 79 = .ok (.iload_n 1, 1) := by decide +kernel
theorem dX12_reads_80 : decode cX12_reads 80 = .ok (.iconst 5, 1) := by decide +kernel
theorem dX12_reads_81 : decode cX12_reads 81 = .ok (.if_icmp .ne 7, 3) := by decide +kernel
theorem dX12_reads_84 : decode cX12_reads 84 = .ok (.iconst 0, 1) := by decide +kernel
theorem dX12_reads_85 : decode cX12_reads 85 = .ok (.goto 4, 3) := by decide +kernel
theorem dX12_reads_88 : decode cX12_reads 88 = .ok (.iconst 1, 1) := by decide +kernel
theorem dX12_reads_89 : decode cX12_reads 89 = .ok (.istore_n 2, 1) := by decide +kernel
theorem dX12_reads_90 : decode cX12_reads 90 = .ok (.iconst 0, 1) := by decide +kernel
theorem dX12_reads_91 : decode cX12_reads 91 = .ok (.istore_n 3, 1) := by decide +kernel
theorem dX12_reads_92 : decode cX12_reads 92 = .ok (.iload_n 3, 1) := by decide +kernel
theorem dX12_reads_93 : decode cX12_reads 93 = .ok (.iload_n 2, 1) := by decide +kernel
theorem dX12_reads_94 : decode cX12_reads 94 = .ok (.if_icmp .ge 42, 3) := by decide +kernel
theorem dX12_reads_97 : decode cX12_reads 97 = .ok (.aload_n 0, 1) := by decide +kernel
theorem dX12_reads_98 : decode cX12_reads 98 = .ok (.getfield 188, 3) := by decide +kernel
theorem dX12_reads_101 : decode cX12_reads 101 = .ok (.iconst 2, 1) := by decide +kernel
theorem dX12_reads_102 : decode cX12_reads 102 = .ok (.if_icmp .eq 5, 3) := by decide +kernel
theorem dX12_reads_105 : decode cX12_reads 105 = .ok (.iconst 0, 1) := by decide +kernel
theorem dX12_reads_106 : decode cX12_reads 106 = .ok (.ireturn, 1) := by decide +kernel
theorem dX12_reads_107 : decode cX12_reads 107 = .ok (.aload_n 0, 1) := by decide +kernel
theorem dX12_reads_108 : decode cX12_reads 108 = .ok (.getfield 44, 3) := by decide +kernel
theorem dX12_reads_111 : decode cX12_reads 111 = .ok (.iconst 5, 1) := by decide +kernel
theorem dX12_reads_112 : decode cX12_reads 112 = .ok (.aload_n 0, 1) := by decide +kernel
theorem dX12_reads_113 : decode cX12_reads 113 = .ok (.getfield 222, 3) := by decide +kernel
theorem dX12_reads_116 : decode cX12_reads 116 = .ok (.imul, 1) := by decide +kernel
theorem dX12_reads_117 : decode cX12_reads 117 = .ok (.iconst 1, 1) := by decide +kernel
theorem dX12_reads_118 : decode cX12_reads 118 = .ok (.iadd, 1) := by decide +kernel
theorem dX12_reads_119 : decode cX12_reads 119 = .ok (.iload_n 3, 1) := by decide +kernel
theorem dX12_reads_120 : decode cX12_reads 120 = .ok (.iadd, 1) := by decide +kernel
theorem dX12_reads_121 : decode cX12_reads 121 = .ok (.aload_n 0, 1) := by decide +kernel
theorem dX12_reads_122 : decode cX12_reads 122 = .ok (.getfield 207, 3) := by decide +kernel
theorem dX12_reads_125 : decode cX12_reads 125 = .ok (.iastore, 1) := by decide +kernel
theorem dX12_reads_126 : decode cX12_reads 126 = .ok (.aload_n 0, 1) := by decide +kernel
theorem dX12_reads_127 : decode cX12_reads 127 = .ok (.invokevirtual 225, 3) := by decide +kernel
theorem dX12_reads_130 : decode cX12_reads 130 = .ok (.iinc 3 1, 3) := by decide +kernel
theorem dX12_reads_133 : decode cX12_reads 133 = .ok (.goto (-41), 3) := by decide +kernel
theorem dX12_reads_136 : decode cX12_reads 136 = .ok (.iload_n 1, 1) := by decide +kernel
theorem dX12_reads_137 : decode cX12_reads 137 = .ok (.iconst 3, 1) := by decide +kernel
theorem dX12_reads_138 : decode cX12_reads 138 = .ok (.if_icmp .le 11, 3) := by decide +kernel
theorem dX12_reads_141 : decode cX12_reads 141 = .ok (.aload_n 0, 1) := by decide +kernel
theorem dX12_reads_142 : decode cX12_reads 142 = .ok (.iload_n 1, 1) := by decide +kernel
theorem dX12_reads_143 : decode cX12_reads 143 = .ok (.invokevirtual 232, 3) := by decide +kernel
theorem dX12_reads_146 : decode cX12_reads 146 = .ok (.ifCond .eq 11, 3) := by decide +kernel
theorem dX12_reads_149 : decode cX12_reads 149 = .ok (.aload_n 0, 1) := by decide +kernel
theorem dX12_reads_150 : decode cX12_reads 150 = .ok (.getfield 188, 3) := by decide +kernel
theorem dX12_reads_153 : decode cX12_reads 153 = .ok (.iconst 3, 1) := by decide +kernel
theorem dX12_reads_154 : decode cX12_reads 154 = .ok (.if_icmp .eq 5, 3) := by decide +kernel
theorem dX12_reads_157 : decode cX12_reads 157 = .ok (.iconst 0, 1) := by decide +kernel
theorem dX12_reads_158 : decode cX12_reads 158 = .ok (.ireturn, 1) := by decide +kernel
theorem dX12_reads_159 : decode cX12_reads 159 = .ok (.aload_n 0, 1) := by decide +kernel
theorem dX12_reads_160 : decode cX12_reads 160 = .ok (.dup, 1) := by decide +kernel
theorem dX12_reads_161 : decode cX12_reads 161 = .ok (.getfield 222, 3) := by decide +kernel
theorem dX12_reads_164 : decode cX12_reads 164 = .ok (.iconst 1, 1) := by decide +kernel
theorem dX12_reads_165 : decode cX12_reads 165 = .ok (.iadd, 1) := by decide +kernel
theorem dX12_reads_166 : decode cX12_reads 166 = .ok (.putfield 222, 3) := by decide +kernel
theorem dX12_reads_169 : decode cX12_reads 169 = .ok (.aload_n 0, 1) := by decide +kernel
theorem dX12_reads_170 : decode cX12_reads 170 = .ok (.invokevirtual 225, 3) := by decide +kernel
theorem dX12_reads_173 : decode cX12_reads 173 = .ok (.goto (-159), 3) := by decide +kernel
theorem dX12_reads_176 : decode cX12_reads 176 = .ok (.iconst 1, 1) := by decide +kernel
theorem dX12_reads_177 : decode cX12_reads 177 = .ok (.ireturn, 1) := by decide +kernel
theorem dX12_tellsItem_0 : decode cX12_tellsItem 0 = .ok (.aload_n 0, 1) := by decide +kernel
theorem dX12_tellsItem_1 : decode cX12_tellsItem 1 = .ok (.getfield 44, 3) := by decide +kernel
theorem dX12_tellsItem_4 : decode cX12_tellsItem 4 = .ok (.iconst 5, 1) := by decide +kernel
theorem dX12_tellsItem_5 : decode cX12_tellsItem 5 = .ok (.iload_n 1, 1) := by decide +kernel
theorem dX12_tellsItem_6 : decode cX12_tellsItem 6 = .ok (.imul, 1) := by decide +kernel
theorem dX12_tellsItem_7 : decode cX12_tellsItem 7 = .ok (.iconst 1, 1) := by decide +kernel
theorem dX12_tellsItem_8 : decode cX12_tellsItem 8 = .ok (.iadd, 1) := by decide +kernel
theorem dX12_tellsItem_9 : decode cX12_tellsItem 9 = .ok (.iaload, 1) := by decide +kernel
theorem dX12_tellsItem_10 : decode cX12_tellsItem 10 = .ok (.istore_n 2, 1) := by decide +kernel
theorem dX12_tellsItem_11 : decode cX12_tellsItem 11 = .ok (.aload_n 0, 1) := by decide +kernel
theorem dX12_tellsItem_12 : decode cX12_tellsItem 12 = .ok (.getfield 44, 3) := by decide +kernel
theorem dX12_tellsItem_15 : decode cX12_tellsItem 15 = .ok (.iconst 5, 1) := by decide +kernel
theorem dX12_tellsItem_16 : decode cX12_tellsItem 16 = .ok (.iload_n 1, 1) := by decide +kernel
theorem dX12_tellsItem_17 : decode cX12_tellsItem 17 = .ok (.imul, 1) := by decide +kernel
theorem dX12_tellsItem_18 : decode cX12_tellsItem 18 = .ok (.iaload, 1) := by decide +kernel
theorem dX12_tellsItem_19 : decode cX12_tellsItem 19 = .ok (.istore_n 3, 1) := by decide +kernel
theorem dX12_tellsItem_20 : decode cX12_tellsItem 20 = .ok (.aload_n 0, 1) := by decide +kernel
theorem dX12_tellsItem_21 : decode cX12_tellsItem 21 = .ok (.getfield 44, 3) := by decide +kernel
theorem dX12_tellsItem_24 : decode cX12_tellsItem 24 = .ok (.iconst 5, 1) := by decide +kernel
theorem dX12_tellsItem_25 : decode cX12_tellsItem 25 = .ok (.iload_n 1, 1) := by decide +kernel
theorem dX12_tellsItem_26 : decode cX12_tellsItem 26 = .ok (.imul, 1) := by decide +kernel
theorem dX12_tellsItem_27 : decode cX12_tellsItem 27 = .ok (.iconst 3, 1) := by decide +kernel
theorem dX12_tellsItem_28 : decode cX12_tellsItem 28 = .ok (.iadd, 1) := by decide +kernel
theorem dX12_tellsItem_29 : decode cX12_tellsItem 29 = .ok (.iaload, 1) := by decide +kernel
theorem dX12_tellsItem_30 : decode cX12_tellsItem 30 = .ok (.istore 4, 2) := by decide +kernel
theorem dX12_tellsItem_32 : decode cX12_tellsItem 32 = .ok (.aload_n 0, 1) := by decide +kernel
theorem dX12_tellsItem_33 : decode cX12_tellsItem 33 = .ok (.getfield 44, 3) := by decide +kernel
theorem dX12_tellsItem_36 : decode cX12_tellsItem 36 = .ok (.iconst 5, 1) := by decide +kernel
theorem dX12_tellsItem_37 : decode cX12_tellsItem 37 = .ok (.iload_n 1, 1) := by decide +kernel
theorem dX12_tellsItem_38 : decode cX12_tellsItem 38 = .ok (.imul, 1) := by decide +kernel
theorem dX12_tellsItem_39 : decode cX12_tellsItem 39 = .ok (.iconst 4, 1) := by decide +kernel
theorem dX12_tellsItem_40 : decode cX12_tellsItem 40 = .ok (.iadd, 1) := by decide +kernel
theorem dX12_tellsItem_41 : decode cX12_tellsItem 41 = .ok (.iaload, 1) := by decide +kernel
theorem dX12_tellsItem_42 : decode cX12_tellsItem 42 = .ok (.istore 5, 2) := by decide +kernel
theorem dX12_tellsItem_44 : decode cX12_tellsItem 44 = .ok (.iload_n 3, 1) := by decide +kernel
theorem dX12_tellsItem_45 : decode cX12_tellsItem 45 = .ok (.iconst 3, 1) := by decide +kernel
theorem dX12_tellsItem_46 : decode cX12_tellsItem 46 = .ok (.if_icmp .le 164, 3) := by decide +kernel
theorem dX12_tellsItem_49 : decode cX12_tellsItem 49 = .ok (.iload_n 3, 1) := by decide +kernel
theorem dX12_tellsItem_50 : decode cX12_tellsItem 50 = .ok (.iconst 4, 1) := by decide +kernel
theorem dX12_tellsItem_51 : decode cX12_tellsItem 51 = .ok (.if_icmp .ne 40, 3) := by decide +kernel
theorem dX12_tellsItem_54 : decode cX12_tellsItem 54 = .ok (.iload_n 2, 1) := by decide +kernel
theorem dX12_tellsItem_55 : decode cX12_tellsItem 55 = .ok (.i2l, 1) := by decide +kernel
theorem dX12_tellsItem_56 : decode cX12_tellsItem 56 = .ok (.lconst 0, 1) := by decide +kernel
theorem dX12_tellsItem_57 : decode cX12_tellsItem 57 = .ok (.ldc2_w 108, 3) := by decide +kernel
theorem dX12_tellsItem_60 : decode cX12_tellsItem 60 = .ok (.invokestatic 59, 3) := by decide +kernel
theorem dX12_tellsItem_63 : decode cX12_tellsItem 63 = .ok (.ifCond .eq 24, 3) := by decide +kernel
theorem dX12_tellsItem_66 : decode cX12_tellsItem 66 = .ok (.aload_n 0, 1) := by decide +kernel
theorem dX12_tellsItem_67 : decode cX12_tellsItem 67 = .ok (.getfield 7, 3) := by decide +kernel
theorem dX12_tellsItem_70 : decode cX12_tellsItem 70 = .ok (.bipush 89, 2) := by decide +kernel
theorem dX12_tellsItem_72 : decode cX12_tellsItem 72 = .ok (.iload_n 2, 1) := by decide +kernel
theorem dX12_tellsItem_73 : decode cX12_tellsItem 73 = .ok (.iadd, 1) := by decide +kernel
theorem dX12_tellsItem_74 : decode cX12_tellsItem 74 = .ok (.iaload, 1) := by decide +kernel
theorem dX12_tellsItem_75 : decode cX12_tellsItem 75 = .ok (.iload 5, 2) := by decide +kernel
theorem dX12_tellsItem_77 : decode cX12_tellsItem 77 = .ok (.iadd, 1) := by decide +kernel
theorem dX12_tellsItem_78 : decode cX12_tellsItem 78 = .ok (.bipush 8, 2) := by decide +kernel
theorem dX12_tellsItem_80 : decode cX12_tellsItem 80 = .ok (.if_icmp .gt 7, 3) := by decide +kernel
theorem dX12_tellsItem_83 : decode cX12_tellsItem 83 = .ok (.iconst 1, 1) := by decide +kernel
theorem dX12_tellsItem_84 : decode cX12_tellsItem 84 = .ok (.goto 26, 3) := by decide +kernel
theorem dX12_tellsItem_87 : decode cX12_tellsItem 87 = .ok (.iconst 0, 1) := by decide +kernel
theorem dX12_tellsItem_88 : decode cX12_tellsItem 88 = .ok (.goto 22, 3) := by decide +kernel
theorem dX12_tellsItem_91 : decode cX12_tellsItem 91 = .ok (.aload_n 0, 1) := by decide +kernel
theorem dX12_tellsItem_92 : decode cX12_tellsItem 92 = .ok (.getfield 7, 3) := by decide +kernel
theorem dX12_tellsItem_95 : decode cX12_tellsItem 95 = .ok (.iconst 3, 1) := by decide +kernel
theorem dX12_tellsItem_96 : decode cX12_tellsItem 96 = .ok (.iaload, 1) := by decide +kernel
theorem dX12_tellsItem_97 : decode cX12_tellsItem 97 = .ok (.iload 5, 2) := by decide +kernel
theorem dX12_tellsItem_99 : decode cX12_tellsItem 99 = .ok (.iadd, 1) := by decide +kernel
theorem dX12_tellsItem_100 : decode cX12_tellsItem 100 = .ok (.bipush 60, 2) := by decide +kernel
theorem dX12_tellsItem_102 : decode cX12_tellsItem 102 = .ok (.if_icmp .gt 7, 3) := by decide +kernel
theorem dX12_tellsItem_105 : decode cX12_tellsItem 105 = .ok (.iconst 1, 1) := by decide +kernel
theorem dX12_tellsItem_106 : decode cX12_tellsItem 106 = .ok (.goto 4, 3) := by decide +kernel
theorem dX12_tellsItem_109 : decode cX12_tellsItem 109 = .ok (.iconst 0, 1) := by decide +kernel
theorem dX12_tellsItem_110 : decode cX12_tellsItem 110 = .ok (.istore 6, 2) := by decide +kernel
theorem dX12_tellsItem_112 : decode cX12_tellsItem 112 = .ok (.iconst 0, 1) := by decide +kernel
theorem dX12_tellsItem_113 : decode cX12_tellsItem 113 = .ok (.istore 7, 2) := by decide +kernel
theorem dX12_tellsItem_115 : decode cX12_tellsItem 115 = .ok (.iload 7, 2) := by decide +kernel
theorem dX12_tellsItem_117 : decode cX12_tellsItem 117 = .ok (.iload 5, 2) := by decide +kernel
theorem dX12_tellsItem_119 : decode cX12_tellsItem 119 = .ok (.if_icmp .ge 88, 3) := by decide +kernel
theorem dX12_tellsItem_122 : decode cX12_tellsItem 122 = .ok (.iload 6, 2) := by decide +kernel
theorem dX12_tellsItem_124 : decode cX12_tellsItem 124 = .ok (.ifCond .eq 83, 3) := by decide +kernel
theorem dX12_tellsItem_127 : decode cX12_tellsItem 127 = .ok (.aload_n 0, 1) := by decide +kernel
theorem dX12_tellsItem_128 : decode cX12_tellsItem 128 = .ok (.getfield 41, 3) := by decide +kernel
theorem dX12_tellsItem_131 : decode cX12_tellsItem 131 = .ok (.iload 4, 2) := by decide +kernel
theorem dX12_tellsItem_133 : decode cX12_tellsItem 133 = .ok (.iload 7, 2) := by decide +kernel
theorem dX12_tellsItem_135 : decode cX12_tellsItem 135 = .ok (.iadd, 1) := by decide +kernel
theorem dX12_tellsItem_136 : decode cX12_tellsItem 136 = .ok (.iaload, 1) := by decide +kernel
theorem dX12_tellsItem_137 : decode cX12_tellsItem 137 = .ok (.istore 8, 2) := by decide +kernel
theorem dX12_tellsItem_139 : decode cX12_tellsItem 139 = .ok (.iload 8, 2) := by decide +kernel
theorem dX12_tellsItem_141 : decode cX12_tellsItem 141 = .ok (.bipush 46, 2) := by decide +kernel
theorem dX12_tellsItem_143 : decode cX12_tellsItem 143 = .ok (.if_icmp .ne 8, 3) := by decide +kernel
theorem dX12_tellsItem_146 : decode cX12_tellsItem 146 = .ok (.bipush 26, 2) := by decide +kernel
theorem dX12_tellsItem_148 : decode cX12_tellsItem 148 = .ok (.goto 20, 3) := by decide +kernel
theorem dX12_tellsItem_151 : decode cX12_tellsItem 151 = .ok (.iload 8, 2) := by decide +kernel
theorem dX12_tellsItem_153 : decode cX12_tellsItem 153 = .ok (.bipush 43, 2) := by decide +kernel
theorem dX12_tellsItem_155 : decode cX12_tellsItem 155 = .ok (.if_icmp .ne 8, 3) := by decide +kernel
theorem dX12_tellsItem_158 : decode cX12_tellsItem 158 = .ok (.bipush 27, 2) := by decide +kernel
theorem dX12_tellsItem_160 : decode cX12_tellsItem 160 = .ok (.goto 8, 3) := by decide +kernel
theorem dX12_tellsItem_163 : decode cX12_tellsItem 163 = .ok (.iload 8, 2) := by decide +kernel
theorem dX12_tellsItem_165 : decode cX12_tellsItem 165 = .ok (.bipush 97, 2) := by decide +kernel
theorem dX12_tellsItem_167 : decode cX12_tellsItem 167 = .ok (.isub, 1) := by decide +kernel
theorem dX12_tellsItem_168 : decode cX12_tellsItem 168 = .ok (.istore 9, 2) := by decide +kernel
theorem dX12_tellsItem_170 : decode cX12_tellsItem 170 = .ok (.iload_n 3, 1) := by decide +kernel
theorem dX12_tellsItem_171 : decode cX12_tellsItem 171 = .ok (.iconst 4, 1) := by decide +kernel
theorem dX12_tellsItem_172 : decode cX12_tellsItem 172 = .ok (.if_icmp .ne 13, 3) := by decide +kernel
theorem dX12_tellsItem_175 : decode cX12_tellsItem 175 = .ok (.aload_n 0, 1) := by decide +kernel
theorem dX12_tellsItem_176 : decode cX12_tellsItem 176 = .ok (.iload_n 2, 1) := by decide +kernel
theorem dX12_tellsItem_177 : decode cX12_tellsItem 177 = .ok (.iload 9, 2) := by decide +kernel
theorem dX12_tellsItem_179 : decode cX12_tellsItem 179 = .ok (.invokevirtual 235, 3) := by decide +kernel
theorem dX12_tellsItem_182 : decode cX12_tellsItem 182 = .ok (.goto 9, 3) := by decide +kernel
theorem dX12_tellsItem_185 : decode cX12_tellsItem 185 = .ok (.aload_n 0, 1) := by decide +kernel
theorem dX12_tellsItem_186 : decode cX12_tellsItem 186 = .ok (.iload 9, 2) := by decide +kernel
theorem dX12_tellsItem_188 : decode cX12_tellsItem 188 = .ok (.invokevirtual 238, 3) := by decide +kernel
theorem dX12_tellsItem_191 : decode cX12_tellsItem 191 = .ok (.ifCond .le 7, 3) := by decide +kernel
theorem dX12_tellsItem_194 : decode cX12_tellsItem 194 = .ok (.iconst 1, 1) := by decide +kernel
theorem dX12_tellsItem_195 : decode cX12_tellsItem 195 = .ok (.goto 4, 3) := by decide +kernel
theorem dX12_tellsItem_198 : decode cX12_tellsItem 198 = .ok (.iconst 0, 1) := by decide +kernel
theorem dX12_tellsItem_199 : decode cX12_tellsItem 199 = .ok (.istore 6, 2) := by decide +kernel
theorem dX12_tellsItem_201 : decode cX12_tellsItem 201 = .ok (.iinc 7 1, 3) := by decide +kernel
theorem dX12_tellsItem_204 : decode cX12_tellsItem 204 = .ok (.goto (-89), 3) := by decide +kernel
theorem dX12_tellsItem_207 : decode cX12_tellsItem 207 = .ok (.iload 6, 2) := by decide +kernel
theorem dX12_tellsItem_209 : decode cX12_tellsItem 209 = .ok (.ireturn, 1) := by decide +kernel
theorem dX12_tellsItem_210 : decode cX12_tellsItem 210 = .ok (.iload_n 3, 1) := by decide +kernel
theorem dX12_tellsItem_211 : decode cX12_tellsItem 211 = .ok (.ifCond .ne 21, 3) := by decide +kernel
theorem dX12_tellsItem_214 : decode cX12_tellsItem 214 = .ok (.aload_n 0, 1) := by decide +kernel
theorem dX12_tellsItem_215 : decode cX12_tellsItem 215 = .ok (.iload_n 2, 1) := by decide +kernel
theorem dX12_tellsItem_216 : decode cX12_tellsItem 216 = .ok (.aload_n 0, 1) := by decide +kernel
theorem dX12_tellsItem_217 : decode cX12_tellsItem 217 = .ok (.getfield 44, 3) := by decide +kernel
theorem dX12_tellsItem_220 : decode cX12_tellsItem 220 = .ok (.iconst 5, 1) := by decide +kernel
theorem dX12_tellsItem_221 : decode cX12_tellsItem 221 = .ok (.iload_n 1, 1) := by decide +kernel
theorem dX12_tellsItem_222 : decode cX12_tellsItem 222 = .ok (.imul, 1) := by decide +kernel
theorem dX12_tellsItem_223 : decode cX12_tellsItem 223 = .ok (.iconst 2, 1) := by decide +kernel
theorem dX12_tellsItem_224 : decode cX12_tellsItem 224 = .ok (.iadd, 1) := by decide +kernel
theorem dX12_tellsItem_225 : decode cX12_tellsItem 225 = .ok (.iaload, 1) := by decide +kernel
theorem dX12_tellsItem_226 : decode cX12_tellsItem 226 = .ok (.invokevirtual 241, 3) := by decide +kernel
theorem dX12_tellsItem_229 : decode cX12_tellsItem 229 = .ok (.goto 24, 3) := by decide +kernel
theorem dX12_tellsItem_232 : decode cX12_tellsItem 232 = .ok (.iload_n 3, 1) := by decide +kernel
theorem dX12_tellsItem_233 : decode cX12_tellsItem 233 = .ok (.iconst 1, 1) := by decide +kernel
theorem dX12_tellsItem_234 : decode cX12_tellsItem 234 = .ok (.if_icmp .ne 11, 3) := by decide +kernel
theorem dX12_tellsItem_237 : decode cX12_tellsItem 237 = .ok (.aload_n 0, 1) := by decide +kernel
theorem dX12_tellsItem_238 : decode cX12_tellsItem 238 = .ok (.iload_n 2, 1) := by decide +kernel
theorem dX12_tellsItem_239 : decode cX12_tellsItem 239 = .ok (.invokevirtual 244, 3) := by decide +kernel
theorem dX12_tellsItem_242 : decode cX12_tellsItem 242 = .ok (.goto 11, 3) := by decide +kernel
theorem dX12_tellsItem_245 : decode cX12_tellsItem 245 = .ok (.aload_n 0, 1) := by decide +kernel
theorem dX12_tellsItem_246 : decode cX12_tellsItem 246 = .ok (.iload_n 3, 1) := by decide +kernel
theorem dX12_tellsItem_247 : decode cX12_tellsItem 247 = .ok (.iconst 2, 1) := by decide +kernel
theorem dX12_tellsItem_248 : decode cX12_tellsItem 248 = .ok (.isub, 1) := by decide +kernel
theorem dX12_tellsItem_249 : decode cX12_tellsItem 249 = .ok (.iload_n 2, 1) := by decide +kernel
theorem dX12_tellsItem_250 : decode cX12_tellsItem 250 = .ok (.invokevirtual 247, 3) := by decide +kernel
theorem dX12_tellsItem_253 : decode cX12_tellsItem 253 = .ok (.istore 6, 2) := by decide +kernel
theorem dX12_tellsItem_255 : decode cX12_tellsItem 255 = .ok (.iload 6, 2) := by decide +kernel
theorem dX12_tellsItem_257 : decode cX12_tellsItem 257 = .ok (.ifCond .lt 7, 3) := by decide +kernel
theorem dX12_tellsItem_260 : decode cX12_tellsItem 260 = .ok (.iconst 1, 1) := by decide +kernel
theorem dX12_tellsItem_261 : decode cX12_tellsItem 261 = .ok (.goto 4, 3) := by decide +kernel
theorem dX12_tellsItem_264 : decode cX12_tellsItem 264 = .ok (.iconst 0, 1) := by decide +kernel
theorem dX12_tellsItem_265 : decode cX12_tellsItem 265 = .ok (.ireturn, 1) := by decide +kernel
theorem dX12_read_0 : decode cX12_read 0 = .ok (.aload_n 0, 1) := by decide +kernel
theorem dX12_read_1 : decode cX12_read 1 = .ok (.invokevirtual 250, 3) := by decide +kernel
theorem dX12_read_4 : decode cX12_read 4 = .ok (.ifCond .ne 11, 3) := by decide +kernel
theorem dX12_read_7 : decode cX12_read 7 = .ok (.bipush (-10), 2) := by decide +kernel
theorem dX12_read_9 : decode cX12_read 9 = .ok (.aload_n 0, 1) := by decide +kernel
theorem dX12_read_10 : decode cX12_read 10 = .ok (.getfield 185, 3) := by decide +kernel
theorem dX12_read_13 : decode cX12_read 13 = .ok (.isub, 1) := by decide +kernel
theorem dX12_read_14 : decode cX12_read 14 = .ok (.ireturn, 1) := by decide +kernel
theorem dX12_read_15 : decode cX12_read 15 = .ok (.iconst 0, 1) := by decide +kernel
theorem dX12_read_16 : decode cX12_read 16 = .ok (.istore_n 1, 1) := by decide +kernel
theorem dX12_read_17 : decode cX12_read 17 = .ok (.iload_n 1, 1) := by decide +kernel
theorem dX12_read_18 : decode cX12_read 18 = .ok (.sipush 253, 3) := by decide +kernel
theorem dX12_read_21 : decode cX12_read 21 = .ok (.if_icmp .ge 28, 3) := by decide +kernel
theorem dX12_read_24 : decode cX12_read 24 = .ok (.aload_n 0, 1) := by decide +kernel
theorem dX12_read_25 : decode cX12_read 25 = .ok (.getfield 20, 3) := by decide +kernel
theorem dX12_read_28 : decode cX12_read 28 = .ok (.iload_n 1, 1) := by decide +kernel
theorem dX12_read_29 : decode cX12_read 29 = .ok (.aload_n 0, 1) := by decide +kernel
theorem dX12_read_30 : decode cX12_read 30 = .ok (.getfield 7, 3) := by decide +kernel
theorem dX12_read_33 : decode cX12_read 33 = .ok (.iload_n 1, 1) := by decide +kernel
theorem dX12_read_34 : decode cX12_read 34 = .ok (.iaload, 1) := by decide +kernel
theorem dX12_read_35 : decode cX12_read 35 = .ok (.iastore, 1) := by decide +kernel
theorem dX12_read_36 : decode cX12_read 36 = .ok (.aload_n 0, 1) := by decide +kernel
theorem dX12_read_37 : decode cX12_read 37 = .ok (.getfield 7, 3) := by decide +kernel
theorem dX12_read_40 : decode cX12_read 40 = .ok (.iload_n 1, 1) := by decide +kernel
theorem dX12_read_41 : decode cX12_read 41 = .ok (.iconst 0, 1) := by decide +kernel
theorem dX12_read_42 : decode cX12_read 42 = .ok (.iastore, 1) := by decide +kernel
theorem dX12_read_43 : decode cX12_read 43 = .ok (.iinc 1 1, 3) := by decide +kernel
theorem dX12_read_46 : decode cX12_read 46 = .ok (.goto (-29), 3) := by decide +kernel
theorem dX12_read_49 : decode cX12_read 49 = .ok (.aload_n 0, 1) := by decide +kernel
theorem dX12_read_50 : decode cX12_read 50 = .ok (.iconst 1, 1) := by decide +kernel
theorem dX12_read_51 : decode cX12_read 51 = .ok (.putfield 51, 3) := by decide +kernel
theorem dX12_read_54 : decode cX12_read 54 = .ok (.iconst 0, 1) := by decide +kernel
theorem dX12_read_55 : decode cX12_read 55 = .ok (.istore_n 1, 1) := by decide +kernel
theorem dX12_read_56 : decode cX12_read 56 = .ok (.iload_n 1, 1) := by decide +kernel
theorem dX12_read_57 : decode cX12_read 57 = .ok (.aload_n 0, 1) := by decide +kernel
theorem dX12_read_58 : decode cX12_read 58 = .ok (.getfield 222, 3) := by decide +kernel
theorem dX12_read_61 : decode cX12_read 61 = .ok (.if_icmp .ge 17, 3) := by decide +kernel
theorem dX12_read_64 : decode cX12_read 64 = .ok (.aload_n 0, 1) := by decide +kernel
theorem dX12_read_65 : decode cX12_read 65 = .ok (.iload_n 1, 1) := by decide +kernel
theorem dX12_read_66 : decode cX12_read 66 = .ok (.invokevirtual 253, 3) := by decide +kernel
theorem dX12_read_69 : decode cX12_read 69 = .ok (.ifCond .eq 9, 3) := by decide +kernel
theorem dX12_read_72 : decode cX12_read 72 = .ok (.iinc 1 1, 3) := by decide +kernel
theorem dX12_read_75 : decode cX12_read 75 = .ok (.goto (-19), 3) := by decide +kernel
theorem dX12_read_78 : decode cX12_read 78 = .ok (.aload_n 0, 1) := by decide +kernel
theorem dX12_read_79 : decode cX12_read 79 = .ok (.iconst 0, 1) := by decide +kernel
theorem dX12_read_80 : decode cX12_read 80 = .ok (.putfield 51, 3) := by decide +kernel
theorem dX12_read_83 : decode cX12_read 83 = .ok (.iload_n 1, 1) := by decide +kernel
theorem dX12_read_84 : decode cX12_read 84 = .ok (.aload_n 0, 1) := by decide +kernel
theorem dX12_read_85 : decode cX12_read 85 = .ok (.getfield 222, 3) := by decide +kernel
theorem dX12_read_88 : decode cX12_read 88 = .ok (.if_icmp .ne 8, 3) := by decide +kernel
theorem dX12_read_91 : decode cX12_read 91 = .ok (.aload_n 0, 1) := by decide +kernel
theorem dX12_read_92 : decode cX12_read 92 = .ok (.getfield 222, 3) := by decide +kernel
theorem dX12_read_95 : decode cX12_read 95 = .ok (.ireturn, 1) := by decide +kernel
theorem dX12_read_96 : decode cX12_read 96 = .ok (.iconst 0, 1) := by decide +kernel
theorem dX12_read_97 : decode cX12_read 97 = .ok (.istore_n 2, 1) := by decide +kernel
theorem dX12_read_98 : decode cX12_read 98 = .ok (.iload_n 2, 1) := by decide +kernel
theorem dX12_read_99 : decode cX12_read 99 = .ok (.sipush 253, 3) := by decide +kernel
theorem dX12_read_102 : decode cX12_read 102 = .ok (.if_icmp .ge 21, 3) := by decide +kernel
theorem dX12_read_105 : decode cX12_read 105 = .ok (.aload_n 0, 1) := by decide +kernel
theorem dX12_read_106 : decode cX12_read 106 = .ok (.getfield 7, 3) := by decide +kernel
theorem dX12_read_109 : decode cX12_read 109 = .ok (.iload_n 2, 1) := by decide +kernel
theorem dX12_read_110 : decode cX12_read 110 = .ok (.aload_n 0, 1) := by decide +kernel
theorem dX12_read_111 : decode cX12_read 111 = .ok (.getfield 20, 3) := by decide +kernel
theorem dX12_read_114 : decode cX12_read 114 = .ok (.iload_n 2, 1) := by decide +kernel
theorem dX12_read_115 : decode cX12_read 115 = .ok (.iaload, 1) := by decide +kernel
theorem dX12_read_116 : decode cX12_read 116 = .ok (.iastore, 1) := by decide +kernel
theorem dX12_read_117 : decode cX12_read 117 = .ok (.iinc 2 1, 3) := by decide +kernel
theorem dX12_read_120 : decode cX12_read 120 = .ok (.goto (-22), 3) := by decide +kernel
theorem dX12_read_123 : decode cX12_read 123 = .ok (.sipush (-1000), 3) := by decide +kernel
theorem dX12_read_126 : decode cX12_read 126 = .ok (.iload_n 1, 1) := by decide +kernel
theorem dX12_read_127 : decode cX12_read 127 = .ok (.isub, 1) := by decide +kernel
theorem dX12_read_128 : decode cX12_read 128 = .ok (.ireturn, 1) := by decide +kernel
theorem dX12_part_0 : decode cX12_part 0 = .ok (.iload_n 1, 1) := by decide +kernel
theorem dX12_part_1 : decode cX12_part 1 = .ok (.ifCond .ne 10, 3) := by decide +kernel
theorem dX12_part_4 : decode cX12_part 4 = .ok (.aload_n 0, 1) := by decide +kernel
theorem dX12_part_5 : decode cX12_part 5 = .ok (.getfield 137, 3) := by decide +kernel
theorem dX12_part_8 : decode cX12_part 8 = .ok (.goto 20, 3) := by decide +kernel
theorem dX12_part_11 : decode cX12_part 11 = .ok (.iload_n 1, 1) := by decide +kernel
theorem dX12_part_12 : decode cX12_part 12 = .ok (.iconst 1, 1) := by decide +kernel
theorem dX12_part_13 : decode cX12_part 13 = .ok (.if_icmp .ne 10, 3) := by decide +kernel
theorem dX12_part_16 : decode cX12_part 16 = .ok (.aload_n 0, 1) := by decide +kernel
theorem dX12_part_17 : decode cX12_part 17 = .ok (.getfield 47, 3) := by decide +kernel
theorem dX12_part_20 : decode cX12_part 20 = .ok (.goto 8, 3) := by decide +kernel
theorem dX12_part_23 : decode cX12_part 23 = .ok (.aload_n 0, 1) := by decide +kernel
theorem dX12_part_24 : decode cX12_part 24 = .ok (.invokevirtual 74, 3) := by decide +kernel
theorem dX12_part_27 : decode cX12_part 27 = .ok (.i2l, 1) := by decide +kernel
theorem dX12_part_28 : decode cX12_part 28 = .ok (.lreturn, 1) := by decide +kernel
theorem dX12_image_0 : decode cX12_image 0 = .ok (.iload_n 1, 1) := by decide +kernel
theorem dX12_image_1 : decode cX12_image 1 = .ok (.i2l, 1) := by decide +kernel
theorem dX12_image_2 : decode cX12_image 2 = .ok (.lconst 0, 1) := by decide +kernel
theorem dX12_image_3 : decode cX12_image 3 = .ok (.lconst 1, 1) := by decide +kernel
theorem dX12_image_4 : decode cX12_image 4 = .ok (.invokestatic 59, 3) := by decide +kernel
theorem dX12_image_7 : decode cX12_image 7 = .ok (.ifCond .ne 8, 3) := by decide +kernel
theorem dX12_image_10 : decode cX12_image 10 = .ok (.aload_n 0, 1) := by decide +kernel
theorem dX12_image_11 : decode cX12_image 11 = .ok (.invokevirtual 74, 3) := by decide +kernel
theorem dX12_image_14 : decode cX12_image 14 = .ok (.ireturn, 1) := by decide +kernel
theorem dX12_image_15 : decode cX12_image 15 = .ok (.iconst 0, 1) := by decide +kernel
theorem dX12_image_16 : decode cX12_image 16 = .ok (.istore_n 2, 1) := by decide +kernel
theorem dX12_image_17 : decode cX12_image 17 = .ok (.iload_n 2, 1) := by decide +kernel
theorem dX12_image_18 : decode cX12_image 18 = .ok (.sipush 253, 3) := by decide +kernel
theorem dX12_image_21 : decode cX12_image 21 = .ok (.if_icmp .ge 27, 3) := by decide +kernel
theorem dX12_image_24 : decode cX12_image 24 = .ok (.aload_n 0, 1) := by decide +kernel
theorem dX12_image_25 : decode cX12_image 25 = .ok (.getfield 13, 3) := by decide +kernel
theorem dX12_image_28 : decode cX12_image 28 = .ok (.sipush 253, 3) := by decide +kernel
theorem dX12_image_31 : decode cX12_image 31 = .ok (.iload_n 1, 1) := by decide +kernel
theorem dX12_image_32 : decode cX12_image 32 = .ok (.imul, 1) := by decide +kernel
theorem dX12_image_33 : decode cX12_image 33 = .ok (.iload_n 2, 1) := by decide +kernel
theorem dX12_image_34 : decode cX12_image 34 = .ok (.iadd, 1) := by decide +kernel
theorem dX12_image_35 : decode cX12_image 35 = .ok (.aload_n 0, 1) := by decide +kernel
theorem dX12_image_36 : decode cX12_image 36 = .ok (.getfield 7, 3) := by decide +kernel
theorem dX12_image_39 : decode cX12_image 39 = .ok (.iload_n 2, 1) := by decide +kernel
theorem dX12_image_40 : decode cX12_image 40 = .ok (.iaload, 1) := by decide +kernel
theorem dX12_image_41 : decode cX12_image 41 = .ok (.iastore, 1) := by decide +kernel
theorem dX12_image_42 : decode cX12_image 42 = .ok (.iinc 2 1, 3) := by decide +kernel
theorem dX12_image_45 : decode cX12_image 45 = .ok (.goto (-28), 3) := by decide +kernel
theorem dX12_image_48 : decode cX12_image 48 = .ok (.aload_n 0, 1) := by decide +kernel
theorem dX12_image_49 : decode cX12_image 49 = .ok (.getfield 16, 3) := by decide +kernel
theorem dX12_image_52 : decode cX12_image 52 = .ok (.iload_n 1, 1) := by decide +kernel
theorem dX12_image_53 : decode cX12_image 53 = .ok (.iconst 1, 1) := by decide +kernel
theorem dX12_image_54 : decode cX12_image 54 = .ok (.bastore, 1) := by decide +kernel
theorem dX12_image_55 : decode cX12_image 55 = .ok (.iconst 1, 1) := by decide +kernel
theorem dX12_image_56 : decode cX12_image 56 = .ok (.ireturn, 1) := by decide +kernel
theorem dX12_from_0 : decode cX12_from 0 = .ok (.iload_n 1, 1) := by decide +kernel
theorem dX12_from_1 : decode cX12_from 1 = .ok (.i2l, 1) := by decide +kernel
theorem dX12_from_2 : decode cX12_from 2 = .ok (.lconst 0, 1) := by decide +kernel
theorem dX12_from_3 : decode cX12_from 3 = .ok (.lconst 1, 1) := by decide +kernel
theorem dX12_from_4 : decode cX12_from 4 = .ok (.invokestatic 59, 3) := by decide +kernel
theorem dX12_from_7 : decode cX12_from 7 = .ok (.ifCond .ne 8, 3) := by decide +kernel
theorem dX12_from_10 : decode cX12_from 10 = .ok (.aload_n 0, 1) := by decide +kernel
theorem dX12_from_11 : decode cX12_from 11 = .ok (.invokevirtual 74, 3) := by decide +kernel
theorem dX12_from_14 : decode cX12_from 14 = .ok (.ireturn, 1) := by decide +kernel
theorem dX12_from_15 : decode cX12_from 15 = .ok (.aload_n 0, 1) := by decide +kernel
theorem dX12_from_16 : decode cX12_from 16 = .ok (.getfield 16, 3) := by decide +kernel
theorem dX12_from_19 : decode cX12_from 19 = .ok (.iload_n 1, 1) := by decide +kernel
theorem dX12_from_20 : decode cX12_from 20 = .ok (.baload, 1) := by decide +kernel
theorem dX12_from_21 : decode cX12_from 21 = .ok (.ifCond .ne 8, 3) := by decide +kernel
theorem dX12_from_24 : decode cX12_from 24 = .ok (.aload_n 0, 1) := by decide +kernel
theorem dX12_from_25 : decode cX12_from 25 = .ok (.invokevirtual 105, 3) := by decide +kernel
theorem dX12_from_28 : decode cX12_from 28 = .ok (.ireturn, 1) := by decide +kernel
theorem dX12_from_29 : decode cX12_from 29 = .ok (.iconst 0, 1) := by decide +kernel
theorem dX12_from_30 : decode cX12_from 30 = .ok (.istore_n 2, 1) := by decide +kernel
theorem dX12_from_31 : decode cX12_from 31 = .ok (.iload_n 2, 1) := by decide +kernel
theorem dX12_from_32 : decode cX12_from 32 = .ok (.sipush 253, 3) := by decide +kernel
theorem dX12_from_35 : decode cX12_from 35 = .ok (.if_icmp .ge 27, 3) := by decide +kernel
theorem dX12_from_38 : decode cX12_from 38 = .ok (.aload_n 0, 1) := by decide +kernel
theorem dX12_from_39 : decode cX12_from 39 = .ok (.getfield 7, 3) := by decide +kernel
theorem dX12_from_42 : decode cX12_from 42 = .ok (.iload_n 2, 1) := by decide +kernel
theorem dX12_from_43 : decode cX12_from 43 = .ok (.aload_n 0, 1) := by decide +kernel
theorem dX12_from_44 : decode cX12_from 44 = .ok (.getfield 13, 3) := by decide +kernel
theorem dX12_from_47 : decode cX12_from 47 = .ok (.sipush 253, 3) := by decide +kernel
theorem dX12_from_50 : decode cX12_from 50 = .ok (.iload_n 1, 1) := by decide +kernel
theorem dX12_from_51 : decode cX12_from 51 = .ok (.imul, 1) := by decide +kernel
theorem dX12_from_52 : decode cX12_from 52 = .ok (.iload_n 2, 1) := by decide +kernel
theorem dX12_from_53 : decode cX12_from 53 = .ok (.iadd, 1) := by decide +kernel
theorem dX12_from_54 : decode cX12_from 54 = .ok (.iaload, 1) := by decide +kernel
theorem dX12_from_55 : decode cX12_from 55 = .ok (.iastore, 1) := by decide +kernel
theorem dX12_from_56 : decode cX12_from 56 = .ok (.iinc 2 1, 3) := by decide +kernel
theorem dX12_from_59 : decode cX12_from 59 = .ok (.goto (-28), 3) := by decide +kernel
theorem dX12_from_62 : decode cX12_from 62 = .ok (.iconst 1, 1) := by decide +kernel
theorem dX12_from_63 : decode cX12_from 63 = .ok (.ireturn, 1) := by decide +kernel
theorem dX12_status_0 : decode cX12_status 0 = .ok (.iload_n 1, 1) := by decide +kernel
theorem dX12_status_1 : decode cX12_status 1 = .ok (.i2l, 1) := by decide +kernel
theorem dX12_status_2 : decode cX12_status 2 = .ok (.lconst 0, 1) := by decide +kernel
theorem dX12_status_3 : decode cX12_status 3 = .ok (.ldc2_w 256, 3) := by decide +kernel
theorem dX12_status_6 : decode cX12_status 6 = .ok (.invokestatic 59, 3) := by decide +kernel
theorem dX12_status_9 : decode cX12_status 9 = .ok (.ifCond .eq 12, 3) := by decide +kernel
theorem dX12_status_12 : decode cX12_status 12 = .ok (.aload_n 0, 1) := by decide +kernel
theorem dX12_status_13 : decode cX12_status 13 = .ok (.getfield 23, 3) := by decide +kernel
theorem dX12_status_16 : decode cX12_status 16 = .ok (.iload_n 1, 1) := by decide +kernel
theorem dX12_status_17 : decode cX12_status 17 = .ok (.iaload, 1) := by decide +kernel
theorem dX12_status_18 : decode cX12_status 18 = .ok (.goto 9, 3) := by decide +kernel
theorem dX12_status_21 : decode cX12_status 21 = .ok (.aload_n 0, 1) := by decide +kernel
theorem dX12_status_22 : decode cX12_status 22 = .ok (.iconst 0, 1) := by decide +kernel
theorem dX12_status_23 : decode cX12_status 23 = .ok (.iconst (-1), 1) := by decide +kernel
theorem dX12_status_24 : decode cX12_status 24 = .ok (.invokevirtual 55, 3) := by decide +kernel
theorem dX12_status_27 : decode cX12_status 27 = .ok (.ireturn, 1) := by decide +kernel
theorem dX12_countOf_0 : decode cX12_countOf 0 = .ok (.iload_n 1, 1) := by decide +kernel
theorem dX12_countOf_1 : decode cX12_countOf 1 = .ok (.iconst 4, 1) := by decide +kernel
theorem dX12_countOf_2 : decode cX12_countOf 2 = .ok (.if_icmp .ne 12, 3) := by decide +kernel
theorem dX12_countOf_5 : decode cX12_countOf 5 = .ok (.aload_n 0, 1) := by decide +kernel
theorem dX12_countOf_6 : decode cX12_countOf 6 = .ok (.getfield 7, 3) := by decide +kernel
theorem dX12_countOf_9 : decode cX12_countOf 9 = .ok (.iconst 3, 1) := by decide +kernel
theorem dX12_countOf_10 : decode cX12_countOf 10 = .ok (.iaload, 1) := by decide +kernel
theorem dX12_countOf_11 : decode cX12_countOf 11 = .ok (.goto 36, 3) := by decide +kernel
theorem dX12_countOf_14 : decode cX12_countOf 14 = .ok (.iload_n 1, 1) := by decide +kernel
theorem dX12_countOf_15 : decode cX12_countOf 15 = .ok (.iconst 5, 1) := by decide +kernel
theorem dX12_countOf_16 : decode cX12_countOf 16 = .ok (.if_icmp .ne 12, 3) := by decide +kernel
theorem dX12_countOf_19 : decode cX12_countOf 19 = .ok (.aload_n 0, 1) := by decide +kernel
theorem dX12_countOf_20 : decode cX12_countOf 20 = .ok (.getfield 7, 3) := by decide +kernel
theorem dX12_countOf_23 : decode cX12_countOf 23 = .ok (.iconst 4, 1) := by decide +kernel
theorem dX12_countOf_24 : decode cX12_countOf 24 = .ok (.iaload, 1) := by decide +kernel
theorem dX12_countOf_25 : decode cX12_countOf 25 = .ok (.goto 22, 3) := by decide +kernel
theorem dX12_countOf_28 : decode cX12_countOf 28 = .ok (.iload_n 1, 1) := by decide +kernel
theorem dX12_countOf_29 : decode cX12_countOf 29 = .ok (.bipush 6, 2) := by decide +kernel
theorem dX12_countOf_31 : decode cX12_countOf 31 = .ok (.if_icmp .ne 12, 3) := by decide +kernel
theorem dX12_countOf_34 : decode cX12_countOf 34 = .ok (.aload_n 0, 1) := by decide +kernel
theorem dX12_countOf_35 : decode cX12_countOf 35 = .ok (.getfield 7, 3) := by decide +kernel
theorem dX12_countOf_38 : decode cX12_countOf 38 = .ok (.iconst 5, 1) := by decide +kernel
theorem dX12_countOf_39 : decode cX12_countOf 39 = .ok (.iaload, 1) := by decide +kernel
theorem dX12_countOf_40 : decode cX12_countOf 40 = .ok (.goto 7, 3) := by decide +kernel
theorem dX12_countOf_43 : decode cX12_countOf 43 = .ok (.aload_n 0, 1) := by decide +kernel
theorem dX12_countOf_44 : decode cX12_countOf 44 = .ok (.getfield 172, 3) := by decide +kernel
theorem dX12_countOf_47 : decode cX12_countOf 47 = .ok (.istore_n 2, 1) := by decide +kernel
theorem dX12_countOf_48 : decode cX12_countOf 48 = .ok (.iload_n 1, 1) := by decide +kernel
theorem dX12_countOf_49 : decode cX12_countOf 49 = .ok (.iconst 2, 1) := by decide +kernel
theorem dX12_countOf_50 : decode cX12_countOf 50 = .ok (.if_icmp .ge 12, 3) := by decide +kernel
theorem dX12_countOf_53 : decode cX12_countOf 53 = .ok (.aload_n 0, 1) := by decide +kernel
theorem dX12_countOf_54 : decode cX12_countOf 54 = .ok (.getfield 7, 3) := by decide +kernel
theorem dX12_countOf_57 : decode cX12_countOf 57 = .ok (.iload_n 1, 1) := by decide +kernel
theorem dX12_countOf_58 : decode cX12_countOf 58 = .ok (.iaload, 1) := by decide +kernel
theorem dX12_countOf_59 : decode cX12_countOf 59 = .ok (.goto 33, 3) := by decide +kernel
theorem dX12_countOf_62 : decode cX12_countOf 62 = .ok (.iload_n 1, 1) := by decide +kernel
theorem dX12_countOf_63 : decode cX12_countOf 63 = .ok (.iconst 2, 1) := by decide +kernel
theorem dX12_countOf_64 : decode cX12_countOf 64 = .ok (.if_icmp .ne 13, 3) := by decide +kernel
theorem dX12_countOf_67 : decode cX12_countOf 67 = .ok (.aload_n 0, 1) := by decide +kernel
theorem dX12_countOf_68 : decode cX12_countOf 68 = .ok (.getfield 7, 3) := by decide +kernel
theorem dX12_countOf_71 : decode cX12_countOf 71 = .ok (.bipush 6, 2) := by decide +kernel
theorem dX12_countOf_73 : decode cX12_countOf 73 = .ok (.iaload, 1) := by decide +kernel
theorem dX12_countOf_74 : decode cX12_countOf 74 = .ok (.goto 18, 3) := by decide +kernel
theorem dX12_countOf_77 : decode cX12_countOf 77 = .ok (.iload_n 1, 1) := by decide +kernel
theorem dX12_countOf_78 : decode cX12_countOf 78 = .ok (.iconst 3, 1) := by decide +kernel
theorem dX12_countOf_79 : decode cX12_countOf 79 = .ok (.if_icmp .ne 12, 3) := by decide +kernel
theorem dX12_countOf_82 : decode cX12_countOf 82 = .ok (.aload_n 0, 1) := by decide +kernel
theorem dX12_countOf_83 : decode cX12_countOf 83 = .ok (.getfield 7, 3) := by decide +kernel
theorem dX12_countOf_86 : decode cX12_countOf 86 = .ok (.iconst 2, 1) := by decide +kernel
theorem dX12_countOf_87 : decode cX12_countOf 87 = .ok (.iaload, 1) := by decide +kernel
theorem dX12_countOf_88 : decode cX12_countOf 88 = .ok (.goto 4, 3) := by decide +kernel
theorem dX12_countOf_91 : decode cX12_countOf 91 = .ok (.iload_n 2, 1) := by decide +kernel
theorem dX12_countOf_92 : decode cX12_countOf 92 = .ok (.ireturn, 1) := by decide +kernel
theorem dX12_count_0 : decode cX12_count 0 = .ok (.iload_n 1, 1) := by decide +kernel
theorem dX12_count_1 : decode cX12_count 1 = .ok (.i2l, 1) := by decide +kernel
theorem dX12_count_2 : decode cX12_count 2 = .ok (.lconst 0, 1) := by decide +kernel
theorem dX12_count_3 : decode cX12_count 3 = .ok (.ldc2_w 258, 3) := by decide +kernel
theorem dX12_count_6 : decode cX12_count 6 = .ok (.invokestatic 59, 3) := by decide +kernel
theorem dX12_count_9 : decode cX12_count 9 = .ok (.ifCond .eq 11, 3) := by decide +kernel
theorem dX12_count_12 : decode cX12_count 12 = .ok (.aload_n 0, 1) := by decide +kernel
theorem dX12_count_13 : decode cX12_count 13 = .ok (.iload_n 1, 1) := by decide +kernel
theorem dX12_count_14 : decode cX12_count 14 = .ok (.invokevirtual 260, 3) := by decide +kernel
theorem dX12_count_17 : decode cX12_count 17 = .ok (.goto 7, 3) := by decide +kernel
theorem dX12_count_20 : decode cX12_count 20 = .ok (.aload_n 0, 1) := by decide +kernel
theorem dX12_count_21 : decode cX12_count 21 = .ok (.invokevirtual 74, 3) := by decide +kernel
theorem dX12_count_24 : decode cX12_count 24 = .ok (.ireturn, 1) := by decide +kernel
theorem dX12_mixed_0 : decode cX12_mixed 0 = .ok (.lload_n 1, 1) := by decide +kernel
theorem dX12_mixed_1 : decode cX12_mixed 1 = .ok (.lstore 5, 2) := by decide +kernel
theorem dX12_mixed_3 : decode cX12_mixed 3 = .ok (.iconst 0, 1) := by decide +kernel
theorem dX12_mixed_4 : decode cX12_mixed 4 = .ok (.istore 7, 2) := by decide +kernel
theorem dX12_mixed_6 : decode cX12_mixed 6 = .ok (.iload 7, 2) := by decide +kernel
theorem dX12_mixed_8 : decode cX12_mixed 8 = .ok (.iload 4, 2) := by decide +kernel
theorem dX12_mixed_10 : decode cX12_mixed 10 = .ok (.if_icmp .ge 28, 3) := by decide +kernel
theorem dX12_mixed_13 : decode cX12_mixed 13 = .ok (.ldc2_w 263, 3) := by decide +kernel
theorem dX12_mixed_16 : decode cX12_mixed 16 = .ok (.lload 5, 2) := by decide +kernel
theorem dX12_mixed_18 : decode cX12_mixed 18 = .ok (.lmul, 1) := by decide +kernel
theorem dX12_mixed_19 : decode cX12_mixed 19 = .ok (.aload_n 0, 1) := by decide +kernel
theorem dX12_mixed_20 : decode cX12_mixed 20 = .ok (.getfield 7, 3) := by decide +kernel
theorem dX12_mixed_23 : decode cX12_mixed 23 = .ok (.iload_n 3, 1) := by decide +kernel
theorem dX12_mixed_24 : decode cX12_mixed 24 = .ok (.iload 7, 2) := by decide +kernel
theorem dX12_mixed_26 : decode cX12_mixed 26 = .ok (.iadd, 1) := by decide +kernel
theorem dX12_mixed_27 : decode cX12_mixed 27 = .ok (.iaload, 1) := by decide +kernel
theorem dX12_mixed_28 : decode cX12_mixed 28 = .ok (.i2l, 1) := by decide +kernel
theorem dX12_mixed_29 : decode cX12_mixed 29 = .ok (.ladd, 1) := by decide +kernel
theorem dX12_mixed_30 : decode cX12_mixed 30 = .ok (.lstore 5, 2) := by decide +kernel
theorem dX12_mixed_32 : decode cX12_mixed 32 = .ok (.iinc 7 1, 3) := by decide +kernel
theorem dX12_mixed_35 : decode cX12_mixed 35 = .ok (.goto (-29), 3) := by decide +kernel
theorem dX12_mixed_38 : decode cX12_mixed 38 = .ok (.lload 5, 2) := by decide +kernel
theorem dX12_mixed_40 : decode cX12_mixed 40 = .ok (.lreturn, 1) := by decide +kernel
theorem dX12_digest_0 : decode cX12_digest 0 = .ok (.ldc2_w 265, 3) := by decide +kernel
theorem dX12_digest_3 : decode cX12_digest 3 = .ok (.lstore_n 1, 1) := by decide +kernel
theorem dX12_digest_4 : decode cX12_digest 4 = .ok (.iconst 0, 1) := by decide +kernel
theorem dX12_digest_5 : decode cX12_digest 5 = .ok (.istore_n 3, 1) := by decide +kernel
theorem dX12_digest_6 : decode cX12_digest 6 = .ok (.iload_n 3, 1) := by decide +kernel
theorem dX12_digest_7 : decode cX12_digest 7 = .ok (.bipush 8, 2) := by decide +kernel
theorem dX12_digest_9 : decode cX12_digest 9 = .ok (.if_icmp .ge 22, 3) := by decide +kernel
theorem dX12_digest_12 : decode cX12_digest 12 = .ok (.ldc2_w 263, 3) := by decide +kernel
theorem dX12_digest_15 : decode cX12_digest 15 = .ok (.lload_n 1, 1) := by decide +kernel
theorem dX12_digest_16 : decode cX12_digest 16 = .ok (.lmul, 1) := by decide +kernel
theorem dX12_digest_17 : decode cX12_digest 17 = .ok (.aload_n 0, 1) := by decide +kernel
theorem dX12_digest_18 : decode cX12_digest 18 = .ok (.iload_n 3, 1) := by decide +kernel
theorem dX12_digest_19 : decode cX12_digest 19 = .ok (.invokevirtual 260, 3) := by decide +kernel
theorem dX12_digest_22 : decode cX12_digest 22 = .ok (.i2l, 1) := by decide +kernel
theorem dX12_digest_23 : decode cX12_digest 23 = .ok (.ladd, 1) := by decide +kernel
theorem dX12_digest_24 : decode cX12_digest 24 = .ok (.lstore_n 1, 1) := by decide +kernel
theorem dX12_digest_25 : decode cX12_digest 25 = .ok (.iinc 3 1, 3) := by decide +kernel
theorem dX12_digest_28 : decode cX12_digest 28 = .ok (.goto (-22), 3) := by decide +kernel
theorem dX12_digest_31 : decode cX12_digest 31 = .ok (.aload_n 0, 1) := by decide +kernel
theorem dX12_digest_32 : decode cX12_digest 32 = .ok (.lload_n 1, 1) := by decide +kernel
theorem dX12_digest_33 : decode cX12_digest 33 = .ok (.bipush 7, 2) := by decide +kernel
theorem dX12_digest_35 : decode cX12_digest 35 = .ok (.iconst 2, 1) := by decide +kernel
theorem dX12_digest_36 : decode cX12_digest 36 = .ok (.invokevirtual 267, 3) := by decide +kernel
theorem dX12_digest_39 : decode cX12_digest 39 = .ok (.lstore_n 1, 1) := by decide +kernel
theorem dX12_digest_40 : decode cX12_digest 40 = .ok (.iconst 0, 1) := by decide +kernel
theorem dX12_digest_41 : decode cX12_digest 41 = .ok (.istore_n 3, 1) := by decide +kernel
theorem dX12_digest_42 : decode cX12_digest 42 = .ok (.iload_n 3, 1) := by decide +kernel
theorem dX12_digest_43 : decode cX12_digest 43 = .ok (.aload_n 0, 1) := by decide +kernel
theorem dX12_digest_44 : decode cX12_digest 44 = .ok (.getfield 7, 3) := by decide +kernel
theorem dX12_digest_47 : decode cX12_digest 47 = .ok (.iconst 0, 1) := by decide +kernel
theorem dX12_digest_48 : decode cX12_digest 48 = .ok (.iaload, 1) := by decide +kernel
theorem dX12_digest_49 : decode cX12_digest 49 = .ok (.if_icmp .ge 58, 3) := by decide +kernel
theorem dX12_digest_52 : decode cX12_digest 52 = .ok (.ldc2_w 263, 3) := by decide +kernel
theorem dX12_digest_55 : decode cX12_digest 55 = .ok (.ldc2_w 263, 3) := by decide +kernel
theorem dX12_digest_58 : decode cX12_digest 58 = .ok (.lload_n 1, 1) := by decide +kernel
theorem dX12_digest_59 : decode cX12_digest 59 = .ok (.lmul, 1) := by decide +kernel
theorem dX12_digest_60 : decode cX12_digest 60 = .ok (.aload_n 0, 1) := by decide +kernel
theorem dX12_digest_61 : decode cX12_digest 61 = .ok (.getfield 7, 3) := by decide +kernel
theorem dX12_digest_64 : decode cX12_digest 64 = .ok (.bipush 16, 2) := by decide +kernel
theorem dX12_digest_66 : decode cX12_digest 66 = .ok (.iconst 3, 1) := by decide +kernel
theorem dX12_digest_67 : decode cX12_digest 67 = .ok (.iload_n 3, 1) := by decide +kernel
theorem dX12_digest_68 : decode cX12_digest 68 = .ok (.imul, 1) := by decide +kernel
theorem dX12_digest_69 : decode cX12_digest 69 = .ok (.iadd, 1) := by decide +kernel
theorem dX12_digest_70 : decode cX12_digest 70 = .ok (.iaload, 1) := by decide +kernel
theorem dX12_digest_71 : decode cX12_digest 71 = .ok (.i2l, 1) := by decide +kernel
theorem dX12_digest_72 : decode cX12_digest 72 = .ok (.ladd, 1) := by decide +kernel
theorem dX12_digest_73 : decode cX12_digest 73 = .ok (.lmul, 1) := by decide +kernel
theorem dX12_digest_74 : decode cX12_digest 74 = .ok (.aload_n 0, 1) := by decide +kernel
theorem dX12_digest_75 : decode cX12_digest 75 = .ok (.getfield 7, 3) := by decide +kernel
theorem dX12_digest_78 : decode cX12_digest 78 = .ok (.bipush 9, 2) := by decide +kernel
theorem dX12_digest_80 : decode cX12_digest 80 = .ok (.iload_n 3, 1) := by decide +kernel
theorem dX12_digest_81 : decode cX12_digest 81 = .ok (.iadd, 1) := by decide +kernel
theorem dX12_digest_82 : decode cX12_digest 82 = .ok (.iaload, 1) := by decide +kernel
theorem dX12_digest_83 : decode cX12_digest 83 = .ok (.i2l, 1) := by decide +kernel
theorem dX12_digest_84 : decode cX12_digest 84 = .ok (.ladd, 1) := by decide +kernel
theorem dX12_digest_85 : decode cX12_digest 85 = .ok (.lstore_n 1, 1) := by decide +kernel
theorem dX12_digest_86 : decode cX12_digest 86 = .ok (.aload_n 0, 1) := by decide +kernel
theorem dX12_digest_87 : decode cX12_digest 87 = .ok (.lload_n 1, 1) := by decide +kernel
theorem dX12_digest_88 : decode cX12_digest 88 = .ok (.bipush 16, 2) := by decide +kernel
theorem dX12_digest_90 : decode cX12_digest 90 = .ok (.iconst 3, 1) := by decide +kernel
theorem dX12_digest_91 : decode cX12_digest 91 = .ok (.iload_n 3, 1) := by decide +kernel
theorem dX12_digest_92 : decode cX12_digest 92 = .ok (.imul, 1) := by decide +kernel
theorem dX12_digest_93 : decode cX12_digest 93 = .ok (.iadd, 1) := by decide +kernel
theorem dX12_digest_94 : decode cX12_digest 94 = .ok (.iconst 1, 1) := by decide +kernel
theorem dX12_digest_95 : decode cX12_digest 95 = .ok (.iadd, 1) := by decide +kernel
theorem dX12_digest_96 : decode cX12_digest 96 = .ok (.iconst 2, 1) := by decide +kernel
theorem dX12_digest_97 : decode cX12_digest 97 = .ok (.invokevirtual 267, 3) := by decide +kernel
theorem dX12_digest_100 : decode cX12_digest 100 = .ok (.lstore_n 1, 1) := by decide +kernel
theorem dX12_digest_101 : decode cX12_digest 101 = .ok (.iinc 3 1, 3) := by decide +kernel
theorem dX12_digest_104 : decode cX12_digest 104 = .ok (.goto (-62), 3) := by decide +kernel
theorem dX12_digest_107 : decode cX12_digest 107 = .ok (.iconst 0, 1) := by decide +kernel
theorem dX12_digest_108 : decode cX12_digest 108 = .ok (.istore_n 3, 1) := by decide +kernel
theorem dX12_digest_109 : decode cX12_digest 109 = .ok (.iload_n 3, 1) := by decide +kernel
theorem dX12_digest_110 : decode cX12_digest 110 = .ok (.aload_n 0, 1) := by decide +kernel
theorem dX12_digest_111 : decode cX12_digest 111 = .ok (.getfield 7, 3) := by decide +kernel
theorem dX12_digest_114 : decode cX12_digest 114 = .ok (.iconst 1, 1) := by decide +kernel
theorem dX12_digest_115 : decode cX12_digest 115 = .ok (.iaload, 1) := by decide +kernel
theorem dX12_digest_116 : decode cX12_digest 116 = .ok (.if_icmp .ge 41, 3) := by decide +kernel
theorem dX12_digest_119 : decode cX12_digest 119 = .ok (.ldc2_w 263, 3) := by decide +kernel
theorem dX12_digest_122 : decode cX12_digest 122 = .ok (.ldc2_w 263, 3) := by decide +kernel
theorem dX12_digest_125 : decode cX12_digest 125 = .ok (.lload_n 1, 1) := by decide +kernel
theorem dX12_digest_126 : decode cX12_digest 126 = .ok (.lmul, 1) := by decide +kernel
theorem dX12_digest_127 : decode cX12_digest 127 = .ok (.aload_n 0, 1) := by decide +kernel
theorem dX12_digest_128 : decode cX12_digest 128 = .ok (.getfield 7, 3) := by decide +kernel
theorem dX12_digest_131 : decode cX12_digest 131 = .ok (.bipush 25, 2) := by decide +kernel
theorem dX12_digest_133 : decode cX12_digest 133 = .ok (.iload_n 3, 1) := by decide +kernel
theorem dX12_digest_134 : decode cX12_digest 134 = .ok (.iadd, 1) := by decide +kernel
theorem dX12_digest_135 : decode cX12_digest 135 = .ok (.iaload, 1) := by decide +kernel
theorem dX12_digest_136 : decode cX12_digest 136 = .ok (.i2l, 1) := by decide +kernel
theorem dX12_digest_137 : decode cX12_digest 137 = .ok (.ladd, 1) := by decide +kernel
theorem dX12_digest_138 : decode cX12_digest 138 = .ok (.lmul, 1) := by decide +kernel
theorem dX12_digest_139 : decode cX12_digest 139 = .ok (.aload_n 0, 1) := by decide +kernel
theorem dX12_digest_140 : decode cX12_digest 140 = .ok (.getfield 7, 3) := by decide +kernel
theorem dX12_digest_143 : decode cX12_digest 143 = .ok (.bipush 12, 2) := by decide +kernel
theorem dX12_digest_145 : decode cX12_digest 145 = .ok (.iload_n 3, 1) := by decide +kernel
theorem dX12_digest_146 : decode cX12_digest 146 = .ok (.iadd, 1) := by decide +kernel
theorem dX12_digest_147 : decode cX12_digest 147 = .ok (.iaload, 1) := by decide +kernel
theorem dX12_digest_148 : decode cX12_digest 148 = .ok (.i2l, 1) := by decide +kernel
theorem dX12_digest_149 : decode cX12_digest 149 = .ok (.ladd, 1) := by decide +kernel
theorem dX12_digest_150 : decode cX12_digest 150 = .ok (.lstore_n 1, 1) := by decide +kernel
theorem dX12_digest_151 : decode cX12_digest 151 = .ok (.iinc 3 1, 3) := by decide +kernel
theorem dX12_digest_154 : decode cX12_digest 154 = .ok (.goto (-45), 3) := by decide +kernel
theorem dX12_digest_157 : decode cX12_digest 157 = .ok (.aload_n 0, 1) := by decide +kernel
theorem dX12_digest_158 : decode cX12_digest 158 = .ok (.lload_n 1, 1) := by decide +kernel
theorem dX12_digest_159 : decode cX12_digest 159 = .ok (.bipush 29, 2) := by decide +kernel
theorem dX12_digest_161 : decode cX12_digest 161 = .ok (.aload_n 0, 1) := by decide +kernel
theorem dX12_digest_162 : decode cX12_digest 162 = .ok (.getfield 7, 3) := by decide +kernel
theorem dX12_digest_165 : decode cX12_digest 165 = .ok (.iconst 3, 1) := by decide +kernel
theorem dX12_digest_166 : decode cX12_digest 166 = .ok (.iaload, 1) := by decide +kernel
theorem dX12_digest_167 : decode cX12_digest 167 = .ok (.invokevirtual 267, 3) := by decide +kernel
theorem dX12_digest_170 : decode cX12_digest 170 = .ok (.lstore_n 1, 1) := by decide +kernel
theorem dX12_digest_171 : decode cX12_digest 171 = .ok (.iconst 0, 1) := by decide +kernel
theorem dX12_digest_172 : decode cX12_digest 172 = .ok (.istore_n 3, 1) := by decide +kernel
theorem dX12_digest_173 : decode cX12_digest 173 = .ok (.iload_n 3, 1) := by decide +kernel
theorem dX12_digest_174 : decode cX12_digest 174 = .ok (.iconst 4, 1) := by decide +kernel
theorem dX12_digest_175 : decode cX12_digest 175 = .ok (.if_icmp .ge 46, 3) := by decide +kernel
theorem dX12_digest_178 : decode cX12_digest 178 = .ok (.aload_n 0, 1) := by decide +kernel
theorem dX12_digest_179 : decode cX12_digest 179 = .ok (.ldc2_w 263, 3) := by decide +kernel
theorem dX12_digest_182 : decode cX12_digest 182 = .ok (.lload_n 1, 1) := by decide +kernel
theorem dX12_digest_183 : decode cX12_digest 183 = .ok (.lmul, 1) := by decide +kernel
theorem dX12_digest_184 : decode cX12_digest 184 = .ok (.aload_n 0, 1) := by decide +kernel
theorem dX12_digest_185 : decode cX12_digest 185 = .ok (.getfield 7, 3) := by decide +kernel
theorem dX12_digest_188 : decode cX12_digest 188 = .ok (.bipush 89, 2) := by decide +kernel
theorem dX12_digest_190 : decode cX12_digest 190 = .ok (.iload_n 3, 1) := by decide +kernel
theorem dX12_digest_191 : decode cX12_digest 191 = .ok (.iadd, 1) := by decide +kernel
theorem dX12_digest_192 : decode cX12_digest 192 = .ok (.iaload, 1) := by decide +kernel
theorem dX12_digest_193 : decode cX12_digest 193 = .ok (.i2l, 1) := by decide +kernel
theorem dX12_digest_194 : decode cX12_digest 194 = .ok (.ladd, 1) := by decide +kernel
theorem dX12_digest_195 : decode cX12_digest 195 = .ok (.bipush 93, 2) := by decide +kernel
theorem dX12_digest_197 : decode cX12_digest 197 = .ok (.bipush 8, 2) := by decide +kernel
theorem dX12_digest_199 : decode cX12_digest 199 = .ok (.iload_n 3, 1) := by decide +kernel
theorem dX12_digest_200 : decode cX12_digest 200 = .ok (.imul, 1) := by decide +kernel
theorem dX12_digest_201 : decode cX12_digest 201 = .ok (.iadd, 1) := by decide +kernel
theorem dX12_digest_202 : decode cX12_digest 202 = .ok (.aload_n 0, 1) := by decide +kernel
theorem dX12_digest_203 : decode cX12_digest 203 = .ok (.getfield 7, 3) := by decide +kernel
theorem dX12_digest_206 : decode cX12_digest 206 = .ok (.bipush 89, 2) := by decide +kernel
theorem dX12_digest_208 : decode cX12_digest 208 = .ok (.iload_n 3, 1) := by decide +kernel
theorem dX12_digest_209 : decode cX12_digest 209 = .ok (.iadd, 1) := by decide +kernel
theorem dX12_digest_210 : decode cX12_digest 210 = .ok (.iaload, 1) := by decide +kernel
theorem dX12_digest_211 : decode cX12_digest 211 = .ok (.invokevirtual 267, 3) := by decide +kernel
theorem dX12_digest_214 : decode cX12_digest 214 = .ok (.lstore_n 1, 1) := by decide +kernel
theorem dX12_digest_215 : decode cX12_digest 215 = .ok (.iinc 3 1, 3) := by decide +kernel
theorem dX12_digest_218 : decode cX12_digest 218 = .ok (.goto (-45), 3) := by decide +kernel
theorem dX12_digest_221 : decode cX12_digest 221 = .ok (.aload_n 0, 1) := by decide +kernel
theorem dX12_digest_222 : decode cX12_digest 222 = .ok (.lload_n 1, 1) := by decide +kernel
theorem dX12_digest_223 : decode cX12_digest 223 = .ok (.bipush 125, 2) := by decide +kernel
theorem dX12_digest_225 : decode cX12_digest 225 = .ok (.aload_n 0, 1) := by decide +kernel
theorem dX12_digest_226 : decode cX12_digest 226 = .ok (.getfield 7, 3) := by decide +kernel
theorem dX12_digest_229 : decode cX12_digest 229 = .ok (.iconst 4, 1) := by decide +kernel
theorem dX12_digest_230 : decode cX12_digest 230 = .ok (.iaload, 1) := by decide +kernel
theorem dX12_digest_231 : decode cX12_digest 231 = .ok (.invokevirtual 267, 3) := by decide +kernel
theorem dX12_digest_234 : decode cX12_digest 234 = .ok (.lstore_n 1, 1) := by decide +kernel
theorem dX12_digest_235 : decode cX12_digest 235 = .ok (.aload_n 0, 1) := by decide +kernel
theorem dX12_digest_236 : decode cX12_digest 236 = .ok (.lload_n 1, 1) := by decide +kernel
theorem dX12_digest_237 : decode cX12_digest 237 = .ok (.sipush 129, 3) := by decide +kernel
theorem dX12_digest_240 : decode cX12_digest 240 = .ok (.aload_n 0, 1) := by decide +kernel
theorem dX12_digest_241 : decode cX12_digest 241 = .ok (.getfield 7, 3) := by decide +kernel
theorem dX12_digest_244 : decode cX12_digest 244 = .ok (.iconst 5, 1) := by decide +kernel
theorem dX12_digest_245 : decode cX12_digest 245 = .ok (.iaload, 1) := by decide +kernel
theorem dX12_digest_246 : decode cX12_digest 246 = .ok (.invokevirtual 267, 3) := by decide +kernel
theorem dX12_digest_249 : decode cX12_digest 249 = .ok (.lstore_n 1, 1) := by decide +kernel
theorem dX12_digest_250 : decode cX12_digest 250 = .ok (.ldc2_w 263, 3) := by decide +kernel
theorem dX12_digest_253 : decode cX12_digest 253 = .ok (.ldc2_w 263, 3) := by decide +kernel
theorem dX12_digest_256 : decode cX12_digest 256 = .ok (.lload_n 1, 1) := by decide +kernel
theorem dX12_digest_257 : decode cX12_digest 257 = .ok (.lmul, 1) := by decide +kernel
theorem dX12_digest_258 : decode cX12_digest 258 = .ok (.aload_n 0, 1) := by decide +kernel
theorem dX12_digest_259 : decode cX12_digest 259 = .ok (.getfield 137, 3) := by decide +kernel
theorem dX12_digest_262 : decode cX12_digest 262 = .ok (.ladd, 1) := by decide +kernel
theorem dX12_digest_263 : decode cX12_digest 263 = .ok (.lmul, 1) := by decide +kernel
theorem dX12_digest_264 : decode cX12_digest 264 = .ok (.aload_n 0, 1) := by decide +kernel
theorem dX12_digest_265 : decode cX12_digest 265 = .ok (.getfield 47, 3) := by decide +kernel
theorem dX12_digest_268 : decode cX12_digest 268 = .ok (.ladd, 1) := by decide +kernel
theorem dX12_digest_269 : decode cX12_digest 269 = .ok (.lreturn, 1) := by decide +kernel
