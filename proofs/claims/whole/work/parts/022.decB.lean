theorem dX2_init_0 : decode cX2_init 0 = .ok (.aload_n 0, 1) := by decide +kernel
theorem dX2_init_1 : decode cX2_init 1 = .ok (.invokespecial 3, 3) := by decide +kernel
theorem dX2_init_4 : decode cX2_init 4 = .ok (.aload_n 0, 1) := by decide +kernel
theorem dX2_init_5 : decode cX2_init 5 = .ok (.bipush 6, 2) := by decide +kernel
theorem dX2_init_7 : decode cX2_init 7 = .ok (.anewarray 9, 3) := by decide +kernel
theorem dX2_init_10 : decode cX2_init 10 = .ok (.dup, 1) := by decide +kernel
theorem dX2_init_11 : decode cX2_init 11 = .ok (.iconst 0, 1) := by decide +kernel
theorem dX2_init_12 : decode cX2_init 12 = .ok (.new 9, 3) := by decide +kernel
theorem dX2_init_15 : decode cX2_init 15 = .ok (.dup, 1) := by decide +kernel
theorem dX2_init_16 : decode cX2_init 16 = .ok (.invokespecial 11, 3) := by decide +kernel
theorem dX2_init_19 : decode cX2_init 19 = .ok (.aastore, 1) := by decide +kernel
theorem dX2_init_20 : decode cX2_init 20 = .ok (.dup, 1) := by decide +kernel
theorem dX2_init_21 : decode cX2_init 21 = .ok (.iconst 1, 1) := by decide +kernel
theorem dX2_init_22 : decode cX2_init 22 = .ok (.new 12, 3) := by decide +kernel
theorem dX2_init_25 : decode cX2_init 25 = .ok (.dup, 1) := by decide +kernel
theorem dX2_init_26 : decode cX2_init 26 = .ok (.invokespecial 14, 3) := by decide +kernel
theorem dX2_init_29 : decode cX2_init 29 = .ok (.aastore, 1) := by decide +kernel
theorem dX2_init_30 : decode cX2_init 30 = .ok (.dup, 1) := by decide +kernel
theorem dX2_init_31 : decode cX2_init 31 = .ok (.iconst 2, 1) := by decide +kernel
theorem dX2_init_32 : decode cX2_init 32 = .ok (.new 15, 3) := by decide +kernel
theorem dX2_init_35 : decode cX2_init 35 = .ok (.dup, 1) := by decide +kernel
theorem dX2_init_36 : decode cX2_init 36 = .ok (.invokespecial 17, 3) := by decide +kernel
theorem dX2_init_39 : decode cX2_init 39 = .ok (.aastore, 1) := by decide +kernel
theorem dX2_init_40 : decode cX2_init 40 = .ok (.dup, 1) := by decide +kernel
theorem dX2_init_41 : decode cX2_init 41 = .ok (.iconst 3, 1) := by decide +kernel
theorem dX2_init_42 : decode cX2_init 42 = .ok (.new 18, 3) := by decide +kernel
theorem dX2_init_45 : decode cX2_init 45 = .ok (.dup, 1) := by decide +kernel
theorem dX2_init_46 : decode cX2_init 46 = .ok (.invokespecial 20, 3) := by decide +kernel
theorem dX2_init_49 : decode cX2_init 49 = .ok (.aastore, 1) := by decide +kernel
theorem dX2_init_50 : decode cX2_init 50 = .ok (.dup, 1) := by decide +kernel
theorem dX2_init_51 : decode cX2_init 51 = .ok (.iconst 4, 1) := by decide +kernel
theorem dX2_init_52 : decode cX2_init 52 = .ok (.new 21, 3) := by decide +kernel
theorem dX2_init_55 : decode cX2_init 55 = .ok (.dup, 1) := by decide +kernel
theorem dX2_init_56 : decode cX2_init 56 = .ok (.invokespecial 23, 3) := by decide +kernel
theorem dX2_init_59 : decode cX2_init 59 = .ok (.aastore, 1) := by decide +kernel
theorem dX2_init_60 : decode cX2_init 60 = .ok (.dup, 1) := by decide +kernel
theorem dX2_init_61 : decode cX2_init 61 = .ok (.iconst 5, 1) := by decide +kernel
theorem dX2_init_62 : decode cX2_init 62 = .ok (.new 24, 3) := by decide +kernel
theorem dX2_init_65 : decode cX2_init 65 = .ok (.dup, 1) := by decide +kernel
theorem dX2_init_66 : decode cX2_init 66 = .ok (.invokespecial 26, 3) := by decide +kernel
theorem dX2_init_69 : decode cX2_init 69 = .ok (.aastore, 1) := by decide +kernel
theorem dX2_init_70 : decode cX2_init 70 = .ok (.putfield 27, 3) := by decide +kernel
theorem dX2_init_73 : decode cX2_init 73 = .ok (.aload_n 0, 1) := by decide +kernel
theorem dX2_init_74 : decode cX2_init 74 = .ok (.iconst 3, 1) := by decide +kernel
theorem dX2_init_75 : decode cX2_init 75 = .ok (.newarray .int, 2) := by decide +kernel
theorem dX2_init_77 : decode cX2_init 77 = .ok (.putfield 33, 3) := by decide +kernel
theorem dX2_init_80 : decode cX2_init 80 = .ok (.aload_n 0, 1) := by decide +kernel
theorem dX2_init_81 : decode cX2_init 81 = .ok (.iconst 3, 1) := by decide +kernel
theorem dX2_init_82 : decode cX2_init 82 = .ok (.newarray .int, 2) := by decide +kernel
theorem dX2_init_84 : decode cX2_init 84 = .ok (.putfield 37, 3) := by decide +kernel
theorem dX2_init_87 : decode cX2_init 87 = .ok (.aload_n 0, 1) := by decide +kernel
theorem dX2_init_88 : decode cX2_init 88 = .ok (.bipush 7, 2) := by decide +kernel
theorem dX2_init_90 : decode cX2_init 90 = .ok (.newarray .int, 2) := by decide +kernel
theorem dX2_init_92 : decode cX2_init 92 = .ok (.putfield 40, 3) := by decide +kernel
theorem dX2_init_95 : decode cX2_init 95 = .ok (.aload_n 0, 1) := by decide +kernel
theorem dX2_init_96 : decode cX2_init 96 = .ok (.iconst 0, 1) := by decide +kernel
theorem dX2_init_97 : decode cX2_init 97 = .ok (.putfield 43, 3) := by decide +kernel
theorem dX2_init_100 : decode cX2_init 100 = .ok (.aload_n 0, 1) := by decide +kernel
theorem dX2_init_101 : decode cX2_init 101 = .ok (.iconst 0, 1) := by decide +kernel
theorem dX2_init_102 : decode cX2_init 102 = .ok (.putfield 47, 3) := by decide +kernel
theorem dX2_init_105 : decode cX2_init 105 = .ok (.aload_n 0, 1) := by decide +kernel
theorem dX2_init_106 : decode cX2_init 106 = .ok (.bipush 10, 2) := by decide +kernel
theorem dX2_init_108 : decode cX2_init 108 = .ok (.newarray .int, 2) := by decide +kernel
theorem dX2_init_110 : decode cX2_init 110 = .ok (.putfield 50, 3) := by decide +kernel
theorem dX2_init_113 : decode cX2_init 113 = .ok (.aload_n 0, 1) := by decide +kernel
theorem dX2_init_114 : decode cX2_init 114 = .ok (.bipush 120, 2) := by decide +kernel
theorem dX2_init_116 : decode cX2_init 116 = .ok (.newarray .int, 2) := by decide +kernel
theorem dX2_init_118 : decode cX2_init 118 = .ok (.putfield 53, 3) := by decide +kernel
theorem dX2_init_121 : decode cX2_init 121 = .ok (.aload_n 0, 1) := by decide +kernel
theorem dX2_init_122 : decode cX2_init 122 = .ok (.iconst 0, 1) := by decide +kernel
theorem dX2_init_123 : decode cX2_init 123 = .ok (.putfield 56, 3) := by decide +kernel
theorem dX2_init_126 : decode cX2_init 126 = .ok (.aload_n 0, 1) := by decide +kernel
theorem dX2_init_127 : decode cX2_init 127 = .ok (.new 59, 3) := by decide +kernel
theorem dX2_init_130 : decode cX2_init 130 = .ok (.dup, 1) := by decide +kernel
theorem dX2_init_131 : decode cX2_init 131 = .ok (.invokespecial 61, 3) := by decide +kernel
theorem dX2_init_134 : decode cX2_init 134 = .ok (.putfield 62, 3) := by decide +kernel
theorem dX2_init_137 : decode cX2_init 137 = .ok (.aload_n 0, 1) := by decide +kernel
theorem dX2_init_138 : decode cX2_init 138 = .ok (.new 66, 3) := by decide +kernel
theorem dX2_init_141 : decode cX2_init 141 = .ok (.dup, 1) := by decide +kernel
theorem dX2_init_142 : decode cX2_init 142 = .ok (.invokespecial 68, 3) := by decide +kernel
theorem dX2_init_145 : decode cX2_init 145 = .ok (.putfield 69, 3) := by decide +kernel
theorem dX2_init_148 : decode cX2_init 148 = .ok (.return_, 1) := by decide +kernel
theorem dX2_empty_0 : decode cX2_empty 0 = .ok (.aload_n 0, 1) := by decide +kernel
theorem dX2_empty_1 : decode cX2_empty 1 = .ok (.getfield 50, 3) := by decide +kernel
theorem dX2_empty_4 : decode cX2_empty 4 = .ok (.iconst 0, 1) := by decide +kernel
theorem dX2_empty_5 : decode cX2_empty 5 = .ok (.invokestatic 73, 3) := by decide +kernel
theorem dX2_empty_8 : decode cX2_empty 8 = .ok (.aload_n 0, 1) := by decide +kernel
theorem dX2_empty_9 : decode cX2_empty 9 = .ok (.iconst 0, 1) := by decide +kernel
theorem dX2_empty_10 : decode cX2_empty 10 = .ok (.putfield 43, 3) := by decide +kernel
theorem dX2_empty_13 : decode cX2_empty 13 = .ok (.aload_n 0, 1) := by decide +kernel
theorem dX2_empty_14 : decode cX2_empty 14 = .ok (.iconst 0, 1) := by decide +kernel
theorem dX2_empty_15 : decode cX2_empty 15 = .ok (.putfield 47, 3) := by decide +kernel
theorem dX2_empty_18 : decode cX2_empty 18 = .ok (.aload_n 0, 1) := by decide +kernel
theorem dX2_empty_19 : decode cX2_empty 19 = .ok (.iconst 0, 1) := by decide +kernel
theorem dX2_empty_20 : decode cX2_empty 20 = .ok (.putfield 56, 3) := by decide +kernel
theorem dX2_empty_23 : decode cX2_empty 23 = .ok (.aload_n 0, 1) := by decide +kernel
theorem dX2_empty_24 : decode cX2_empty 24 = .ok (.getfield 62, 3) := by decide +kernel
theorem dX2_empty_27 : decode cX2_empty 27 = .ok (.invokevirtual 79, 3) := by decide +kernel
theorem dX2_empty_30 : decode cX2_empty 30 = .ok (.aload_n 0, 1) := by decide +kernel
theorem dX2_empty_31 : decode cX2_empty 31 = .ok (.getfield 69, 3) := by decide +kernel
theorem dX2_empty_34 : decode cX2_empty 34 = .ok (.invokevirtual 82, 3) := by decide +kernel
theorem dX2_empty_37 : decode cX2_empty 37 = .ok (.pop, 1) := by decide +kernel
theorem dX2_empty_38 : decode cX2_empty 38 = .ok (.return_, 1) := by decide +kernel
theorem dX2_become_0 : decode cX2_become 0 = .ok (.aload_n 1, 1) := by decide +kernel
theorem dX2_become_1 : decode cX2_become 1 = .ok (.getfield 33, 3) := by decide +kernel
theorem dX2_become_4 : decode cX2_become 4 = .ok (.iconst 0, 1) := by decide +kernel
theorem dX2_become_5 : decode cX2_become 5 = .ok (.aload_n 0, 1) := by decide +kernel
theorem dX2_become_6 : decode cX2_become 6 = .ok (.getfield 33, 3) := by decide +kernel
theorem dX2_become_9 : decode cX2_become 9 = .ok (.iconst 0, 1) := by decide +kernel
theorem dX2_become_10 : decode cX2_become 10 = .ok (.iconst 3, 1) := by decide +kernel
theorem dX2_become_11 : decode cX2_become 11 = .ok (.invokestatic 86, 3) := by decide +kernel
theorem dX2_become_14 : decode cX2_become 14 = .ok (.aload_n 1, 1) := by decide +kernel
theorem dX2_become_15 : decode cX2_become 15 = .ok (.getfield 37, 3) := by decide +kernel
theorem dX2_become_18 : decode cX2_become 18 = .ok (.iconst 0, 1) := by decide +kernel
theorem dX2_become_19 : decode cX2_become 19 = .ok (.aload_n 0, 1) := by decide +kernel
theorem dX2_become_20 : decode cX2_become 20 = .ok (.getfield 37, 3) := by decide +kernel
theorem dX2_become_23 : decode cX2_become 23 = .ok (.iconst 0, 1) := by decide +kernel
theorem dX2_become_24 : decode cX2_become 24 = .ok (.iconst 3, 1) := by decide +kernel
theorem dX2_become_25 : decode cX2_become 25 = .ok (.invokestatic 86, 3) := by decide +kernel
theorem dX2_become_28 : decode cX2_become 28 = .ok (.aload_n 1, 1) := by decide +kernel
theorem dX2_become_29 : decode cX2_become 29 = .ok (.getfield 40, 3) := by decide +kernel
theorem dX2_become_32 : decode cX2_become 32 = .ok (.iconst 0, 1) := by decide +kernel
theorem dX2_become_33 : decode cX2_become 33 = .ok (.aload_n 0, 1) := by decide +kernel
theorem dX2_become_34 : decode cX2_become 34 = .ok (.getfield 40, 3) := by decide +kernel
theorem dX2_become_37 : decode cX2_become 37 = .ok (.iconst 0, 1) := by decide +kernel
theorem dX2_become_38 : decode cX2_become 38 = .ok (.bipush 7, 2) := by decide +kernel
theorem dX2_become_40 : decode cX2_become 40 = .ok (.invokestatic 86, 3) := by decide +kernel
theorem dX2_become_43 : decode cX2_become 43 = .ok (.aload_n 0, 1) := by decide +kernel
theorem dX2_become_44 : decode cX2_become 44 = .ok (.aload_n 1, 1) := by decide +kernel
theorem dX2_become_45 : decode cX2_become 45 = .ok (.getfield 43, 3) := by decide +kernel
theorem dX2_become_48 : decode cX2_become 48 = .ok (.putfield 43, 3) := by decide +kernel
theorem dX2_become_51 : decode cX2_become 51 = .ok (.aload_n 0, 1) := by decide +kernel
theorem dX2_become_52 : decode cX2_become 52 = .ok (.aload_n 1, 1) := by decide +kernel
theorem dX2_become_53 : decode cX2_become 53 = .ok (.getfield 47, 3) := by decide +kernel
theorem dX2_become_56 : decode cX2_become 56 = .ok (.putfield 47, 3) := by decide +kernel
theorem dX2_become_59 : decode cX2_become 59 = .ok (.aload_n 1, 1) := by decide +kernel
theorem dX2_become_60 : decode cX2_become 60 = .ok (.getfield 50, 3) := by decide +kernel
theorem dX2_become_63 : decode cX2_become 63 = .ok (.iconst 0, 1) := by decide +kernel
theorem dX2_become_64 : decode cX2_become 64 = .ok (.aload_n 0, 1) := by decide +kernel
theorem dX2_become_65 : decode cX2_become 65 = .ok (.getfield 50, 3) := by decide +kernel
theorem dX2_become_68 : decode cX2_become 68 = .ok (.iconst 0, 1) := by decide +kernel
theorem dX2_become_69 : decode cX2_become 69 = .ok (.bipush 10, 2) := by decide +kernel
theorem dX2_become_71 : decode cX2_become 71 = .ok (.invokestatic 86, 3) := by decide +kernel
theorem dX2_become_74 : decode cX2_become 74 = .ok (.aload_n 1, 1) := by decide +kernel
theorem dX2_become_75 : decode cX2_become 75 = .ok (.getfield 53, 3) := by decide +kernel
theorem dX2_become_78 : decode cX2_become 78 = .ok (.iconst 0, 1) := by decide +kernel
theorem dX2_become_79 : decode cX2_become 79 = .ok (.aload_n 0, 1) := by decide +kernel
theorem dX2_become_80 : decode cX2_become 80 = .ok (.getfield 53, 3) := by decide +kernel
theorem dX2_become_83 : decode cX2_become 83 = .ok (.iconst 0, 1) := by decide +kernel
theorem dX2_become_84 : decode cX2_become 84 = .ok (.bipush 120, 2) := by decide +kernel
theorem dX2_become_86 : decode cX2_become 86 = .ok (.invokestatic 86, 3) := by decide +kernel
theorem dX2_become_89 : decode cX2_become 89 = .ok (.aload_n 0, 1) := by decide +kernel
theorem dX2_become_90 : decode cX2_become 90 = .ok (.aload_n 1, 1) := by decide +kernel
theorem dX2_become_91 : decode cX2_become 91 = .ok (.getfield 56, 3) := by decide +kernel
theorem dX2_become_94 : decode cX2_become 94 = .ok (.putfield 56, 3) := by decide +kernel
theorem dX2_become_97 : decode cX2_become 97 = .ok (.aload_n 0, 1) := by decide +kernel
theorem dX2_become_98 : decode cX2_become 98 = .ok (.getfield 62, 3) := by decide +kernel
theorem dX2_become_101 : decode cX2_become 101 = .ok (.aload_n 1, 1) := by decide +kernel
theorem dX2_become_102 : decode cX2_become 102 = .ok (.getfield 62, 3) := by decide +kernel
theorem dX2_become_105 : decode cX2_become 105 = .ok (.invokevirtual 92, 3) := by decide +kernel
theorem dX2_become_108 : decode cX2_become 108 = .ok (.aload_n 0, 1) := by decide +kernel
theorem dX2_become_109 : decode cX2_become 109 = .ok (.getfield 69, 3) := by decide +kernel
theorem dX2_become_112 : decode cX2_become 112 = .ok (.aload_n 1, 1) := by decide +kernel
theorem dX2_become_113 : decode cX2_become 113 = .ok (.getfield 69, 3) := by decide +kernel
theorem dX2_become_116 : decode cX2_become 116 = .ok (.invokevirtual 96, 3) := by decide +kernel
theorem dX2_become_119 : decode cX2_become 119 = .ok (.return_, 1) := by decide +kernel
theorem dX2_hasPlot_0 : decode cX2_hasPlot 0 = .ok (.iload_n 1, 1) := by decide +kernel
theorem dX2_hasPlot_1 : decode cX2_hasPlot 1 = .ok (.ifCond .lt 15, 3) := by decide +kernel
theorem dX2_hasPlot_4 : decode cX2_hasPlot 4 = .ok (.iload_n 1, 1) := by decide +kernel
theorem dX2_hasPlot_5 : decode cX2_hasPlot 5 = .ok (.aload_n 0, 1) := by decide +kernel
theorem dX2_hasPlot_6 : decode cX2_hasPlot 6 = .ok (.getfield 43, 3) := by decide +kernel
theorem dX2_hasPlot_9 : decode cX2_hasPlot 9 = .ok (.if_icmp .ge 7, 3) := by decide +kernel
theorem dX2_hasPlot_12 : decode cX2_hasPlot 12 = .ok (.iconst 1, 1) := by decide +kernel
theorem dX2_hasPlot_13 : decode cX2_hasPlot 13 = .ok (.goto 4, 3) := by decide +kernel
theorem dX2_hasPlot_16 : decode cX2_hasPlot 16 = .ok (.iconst 0, 1) := by decide +kernel
theorem dX2_hasPlot_17 : decode cX2_hasPlot 17 = .ok (.ireturn, 1) := by decide +kernel
theorem dX2_hasShirt_0 : decode cX2_hasShirt 0 = .ok (.iload_n 1, 1) := by decide +kernel
theorem dX2_hasShirt_1 : decode cX2_hasShirt 1 = .ok (.ifCond .lt 15, 3) := by decide +kernel
theorem dX2_hasShirt_4 : decode cX2_hasShirt 4 = .ok (.iload_n 1, 1) := by decide +kernel
theorem dX2_hasShirt_5 : decode cX2_hasShirt 5 = .ok (.aload_n 0, 1) := by decide +kernel
theorem dX2_hasShirt_6 : decode cX2_hasShirt 6 = .ok (.getfield 47, 3) := by decide +kernel
theorem dX2_hasShirt_9 : decode cX2_hasShirt 9 = .ok (.if_icmp .ge 7, 3) := by decide +kernel
theorem dX2_hasShirt_12 : decode cX2_hasShirt 12 = .ok (.iconst 1, 1) := by decide +kernel
theorem dX2_hasShirt_13 : decode cX2_hasShirt 13 = .ok (.goto 4, 3) := by decide +kernel
theorem dX2_hasShirt_16 : decode cX2_hasShirt 16 = .ok (.iconst 0, 1) := by decide +kernel
theorem dX2_hasShirt_17 : decode cX2_hasShirt 17 = .ok (.ireturn, 1) := by decide +kernel
theorem dX2_areShirts_0 : decode cX2_areShirts 0 = .ok (.iload_n 1, 1) := by decide +kernel
theorem dX2_areShirts_1 : decode cX2_areShirts 1 = .ok (.ifCond .lt 17, 3) := by decide +kernel
theorem dX2_areShirts_4 : decode cX2_areShirts 4 = .ok (.iload_n 1, 1) := by decide +kernel
theorem dX2_areShirts_5 : decode cX2_areShirts 5 = .ok (.iconst 1, 1) := by decide +kernel
theorem dX2_areShirts_6 : decode cX2_areShirts 6 = .ok (.aload_n 0, 1) := by decide +kernel
theorem dX2_areShirts_7 : decode cX2_areShirts 7 = .ok (.getfield 47, 3) := by decide +kernel
theorem dX2_areShirts_10 : decode cX2_areShirts 10 = .ok (.ishl, 1) := by decide +kernel
theorem dX2_areShirts_11 : decode cX2_areShirts 11 = .ok (.if_icmp .ge 7, 3) := by decide +kernel
theorem dX2_areShirts_14 : decode cX2_areShirts 14 = .ok (.iconst 1, 1) := by decide +kernel
theorem dX2_areShirts_15 : decode cX2_areShirts 15 = .ok (.goto 4, 3) := by decide +kernel
theorem dX2_areShirts_18 : decode cX2_areShirts 18 = .ok (.iconst 0, 1) := by decide +kernel
theorem dX2_areShirts_19 : decode cX2_areShirts 19 = .ok (.ireturn, 1) := by decide +kernel
theorem dX2_hasNight_0 : decode cX2_hasNight 0 = .ok (.iload_n 1, 1) := by decide +kernel
theorem dX2_hasNight_1 : decode cX2_hasNight 1 = .ok (.bipush 7, 2) := by decide +kernel
theorem dX2_hasNight_3 : decode cX2_hasNight 3 = .ok (.if_icmp .eq 19, 3) := by decide +kernel
theorem dX2_hasNight_6 : decode cX2_hasNight 6 = .ok (.aload_n 0, 1) := by decide +kernel
theorem dX2_hasNight_7 : decode cX2_hasNight 7 = .ok (.iload_n 1, 1) := by decide +kernel
theorem dX2_hasNight_8 : decode cX2_hasNight 8 = .ok (.invokevirtual 99, 3) := by decide +kernel
theorem dX2_hasNight_11 : decode cX2_hasNight 11 = .ok (.ifCond .ne 11, 3) := by decide +kernel
theorem dX2_hasNight_14 : decode cX2_hasNight 14 = .ok (.aload_n 0, 1) := by decide +kernel
theorem dX2_hasNight_15 : decode cX2_hasNight 15 = .ok (.iload_n 1, 1) := by decide +kernel
theorem dX2_hasNight_16 : decode cX2_hasNight 16 = .ok (.invokevirtual 103, 3) := by decide +kernel
theorem dX2_hasNight_19 : decode cX2_hasNight 19 = .ok (.ifCond .eq 7, 3) := by decide +kernel
theorem dX2_hasNight_22 : decode cX2_hasNight 22 = .ok (.iconst 1, 1) := by decide +kernel
theorem dX2_hasNight_23 : decode cX2_hasNight 23 = .ok (.goto 4, 3) := by decide +kernel
theorem dX2_hasNight_26 : decode cX2_hasNight 26 = .ok (.iconst 0, 1) := by decide +kernel
theorem dX2_hasNight_27 : decode cX2_hasNight 27 = .ok (.ireturn, 1) := by decide +kernel
theorem dX2_isSewing_0 : decode cX2_isSewing 0 = .ok (.iload_n 1, 1) := by decide +kernel
theorem dX2_isSewing_1 : decode cX2_isSewing 1 = .ok (.iconst 3, 1) := by decide +kernel
theorem dX2_isSewing_2 : decode cX2_isSewing 2 = .ok (.if_icmp .lt 17, 3) := by decide +kernel
theorem dX2_isSewing_5 : decode cX2_isSewing 5 = .ok (.iload_n 1, 1) := by decide +kernel
theorem dX2_isSewing_6 : decode cX2_isSewing 6 = .ok (.iconst 3, 1) := by decide +kernel
theorem dX2_isSewing_7 : decode cX2_isSewing 7 = .ok (.aload_n 0, 1) := by decide +kernel
theorem dX2_isSewing_8 : decode cX2_isSewing 8 = .ok (.getfield 47, 3) := by decide +kernel
theorem dX2_isSewing_11 : decode cX2_isSewing 11 = .ok (.iadd, 1) := by decide +kernel
theorem dX2_isSewing_12 : decode cX2_isSewing 12 = .ok (.if_icmp .ge 7, 3) := by decide +kernel
theorem dX2_isSewing_15 : decode cX2_isSewing 15 = .ok (.iconst 1, 1) := by decide +kernel
theorem dX2_isSewing_16 : decode cX2_isSewing 16 = .ok (.goto 4, 3) := by decide +kernel
theorem dX2_isSewing_19 : decode cX2_isSewing 19 = .ok (.iconst 0, 1) := by decide +kernel
theorem dX2_isSewing_20 : decode cX2_isSewing 20 = .ok (.ireturn, 1) := by decide +kernel
theorem dX2_addPlot_0 : decode cX2_addPlot 0 = .ok (.iload_n 1, 1) := by decide +kernel
theorem dX2_addPlot_1 : decode cX2_addPlot 1 = .ok (.ifCond .lt 22, 3) := by decide +kernel
theorem dX2_addPlot_4 : decode cX2_addPlot 4 = .ok (.iload_n 1, 1) := by decide +kernel
theorem dX2_addPlot_5 : decode cX2_addPlot 5 = .ok (.aload_n 0, 1) := by decide +kernel
theorem dX2_addPlot_6 : decode cX2_addPlot 6 = .ok (.getfield 27, 3) := by decide +kernel
theorem dX2_addPlot_9 : decode cX2_addPlot 9 = .ok (.arraylength, 1) := by decide +kernel
theorem dX2_addPlot_10 : decode cX2_addPlot 10 = .ok (.if_icmp .ge 13, 3) := by decide +kernel
theorem dX2_addPlot_13 : decode cX2_addPlot 13 = .ok (.iload_n 2, 1) := by decide +kernel
theorem dX2_addPlot_14 : decode cX2_addPlot 14 = .ok (.ifCond .lt 9, 3) := by decide +kernel
theorem dX2_addPlot_17 : decode cX2_addPlot 17 = .ok (.iload_n 2, 1) := by decide +kernel
theorem dX2_addPlot_18 : decode cX2_addPlot 18 = .ok (.bipush 20, 2) := by decide +kernel
theorem dX2_addPlot_20 : decode cX2_addPlot 20 = .ok (.if_icmp .le 6, 3) := by decide +kernel
theorem dX2_addPlot_23 : decode cX2_addPlot 23 = .ok (.bipush (-2), 2) := by decide +kernel
theorem dX2_addPlot_25 : decode cX2_addPlot 25 = .ok (.ireturn, 1) := by decide +kernel
theorem dX2_addPlot_26 : decode cX2_addPlot 26 = .ok (.aload_n 0, 1) := by decide +kernel
theorem dX2_addPlot_27 : decode cX2_addPlot 27 = .ok (.getfield 43, 3) := by decide +kernel
theorem dX2_addPlot_30 : decode cX2_addPlot 30 = .ok (.iconst 3, 1) := by decide +kernel
theorem dX2_addPlot_31 : decode cX2_addPlot 31 = .ok (.if_icmp .lt 6, 3) := by decide +kernel
theorem dX2_addPlot_34 : decode cX2_addPlot 34 = .ok (.bipush (-4), 2) := by decide +kernel
theorem dX2_addPlot_36 : decode cX2_addPlot 36 = .ok (.ireturn, 1) := by decide +kernel
theorem dX2_addPlot_37 : decode cX2_addPlot 37 = .ok (.aload_n 0, 1) := by decide +kernel
theorem dX2_addPlot_38 : decode cX2_addPlot 38 = .ok (.getfield 33, 3) := by decide +kernel
theorem dX2_addPlot_41 : decode cX2_addPlot 41 = .ok (.aload_n 0, 1) := by decide +kernel
theorem dX2_addPlot_42 : decode cX2_addPlot 42 = .ok (.getfield 43, 3) := by decide +kernel
theorem dX2_addPlot_45 : decode cX2_addPlot 45 = .ok (.iload_n 1, 1) := by decide +kernel
theorem dX2_addPlot_46 : decode cX2_addPlot 46 = .ok (.iastore, 1) := by decide +kernel
theorem dX2_addPlot_47 : decode cX2_addPlot 47 = .ok (.aload_n 0, 1) := by decide +kernel
theorem dX2_addPlot_48 : decode cX2_addPlot 48 = .ok (.getfield 37, 3) := by decide +kernel
theorem dX2_addPlot_51 : decode cX2_addPlot 51 = .ok (.aload_n 0, 1) := by decide +kernel
theorem dX2_addPlot_52 : decode cX2_addPlot 52 = .ok (.getfield 43, 3) := by decide +kernel
theorem dX2_addPlot_55 : decode cX2_addPlot 55 = .ok (.iconst 0, 1) := by decide +kernel
theorem dX2_addPlot_56 : decode cX2_addPlot 56 = .ok (.iastore, 1) := by decide +kernel
theorem dX2_addPlot_57 : decode cX2_addPlot 57 = .ok (.aload_n 0, 1) := by decide +kernel
theorem dX2_addPlot_58 : decode cX2_addPlot 58 = .ok (.getfield 40, 3) := by decide +kernel
theorem dX2_addPlot_61 : decode cX2_addPlot 61 = .ok (.aload_n 0, 1) := by decide +kernel
theorem dX2_addPlot_62 : decode cX2_addPlot 62 = .ok (.getfield 43, 3) := by decide +kernel
theorem dX2_addPlot_65 : decode cX2_addPlot 65 = .ok (.iload_n 2, 1) := by decide +kernel
theorem dX2_addPlot_66 : decode cX2_addPlot 66 = .ok (.iastore, 1) := by decide +kernel
theorem dX2_addPlot_67 : decode cX2_addPlot 67 = .ok (.aload_n 0, 1) := by decide +kernel
theorem dX2_addPlot_68 : decode cX2_addPlot 68 = .ok (.getfield 50, 3) := by decide +kernel
theorem dX2_addPlot_71 : decode cX2_addPlot 71 = .ok (.aload_n 0, 1) := by decide +kernel
theorem dX2_addPlot_72 : decode cX2_addPlot 72 = .ok (.getfield 43, 3) := by decide +kernel
theorem dX2_addPlot_75 : decode cX2_addPlot 75 = .ok (.iload_n 2, 1) := by decide +kernel
theorem dX2_addPlot_76 : decode cX2_addPlot 76 = .ok (.iastore, 1) := by decide +kernel
theorem dX2_addPlot_77 : decode cX2_addPlot 77 = .ok (.aload_n 0, 1) := by decide +kernel
theorem dX2_addPlot_78 : decode cX2_addPlot 78 = .ok (.iconst 0, 1) := by decide +kernel
theorem dX2_addPlot_79 : decode cX2_addPlot 79 = .ok (.putfield 56, 3) := by decide +kernel
theorem dX2_addPlot_82 : decode cX2_addPlot 82 = .ok (.aload_n 0, 1) := by decide +kernel
theorem dX2_addPlot_83 : decode cX2_addPlot 83 = .ok (.dup, 1) := by decide +kernel
theorem dX2_addPlot_84 : decode cX2_addPlot 84 = .ok (.getfield 43, 3) := by decide +kernel
theorem dX2_addPlot_87 : decode cX2_addPlot 87 = .ok (.dup_x1, 1) := by decide +kernel
theorem dX2_addPlot_88 : decode cX2_addPlot 88 = .ok (.iconst 1, 1) := by decide +kernel
theorem dX2_addPlot_89 : decode cX2_addPlot 89 = .ok (.iadd, 1) := by decide +kernel
theorem dX2_addPlot_90 : decode cX2_addPlot 90 = .ok (.putfield 43, 3) := by decide +kernel
theorem dX2_addPlot_93 : decode cX2_addPlot 93 = .ok (.ireturn, 1) := by decide +kernel
theorem dX2_addShirt_0 : decode cX2_addShirt 0 = .ok (.iload_n 1, 1) := by decide +kernel
theorem dX2_addShirt_1 : decode cX2_addShirt 1 = .ok (.iconst 1, 1) := by decide +kernel
theorem dX2_addShirt_2 : decode cX2_addShirt 2 = .ok (.if_icmp .lt 9, 3) := by decide +kernel
theorem dX2_addShirt_5 : decode cX2_addShirt 5 = .ok (.iload_n 1, 1) := by decide +kernel
theorem dX2_addShirt_6 : decode cX2_addShirt 6 = .ok (.bipush 12, 2) := by decide +kernel
theorem dX2_addShirt_8 : decode cX2_addShirt 8 = .ok (.if_icmp .le 6, 3) := by decide +kernel
theorem dX2_addShirt_11 : decode cX2_addShirt 11 = .ok (.bipush (-2), 2) := by decide +kernel
theorem dX2_addShirt_13 : decode cX2_addShirt 13 = .ok (.ireturn, 1) := by decide +kernel
theorem dX2_addShirt_14 : decode cX2_addShirt 14 = .ok (.aload_n 0, 1) := by decide +kernel
theorem dX2_addShirt_15 : decode cX2_addShirt 15 = .ok (.getfield 47, 3) := by decide +kernel
theorem dX2_addShirt_18 : decode cX2_addShirt 18 = .ok (.iconst 4, 1) := by decide +kernel
theorem dX2_addShirt_19 : decode cX2_addShirt 19 = .ok (.if_icmp .lt 6, 3) := by decide +kernel
theorem dX2_addShirt_22 : decode cX2_addShirt 22 = .ok (.bipush (-4), 2) := by decide +kernel
theorem dX2_addShirt_24 : decode cX2_addShirt 24 = .ok (.ireturn, 1) := by decide +kernel
theorem dX2_addShirt_25 : decode cX2_addShirt 25 = .ok (.aload_n 0, 1) := by decide +kernel
theorem dX2_addShirt_26 : decode cX2_addShirt 26 = .ok (.getfield 40, 3) := by decide +kernel
theorem dX2_addShirt_29 : decode cX2_addShirt 29 = .ok (.iconst 3, 1) := by decide +kernel
theorem dX2_addShirt_30 : decode cX2_addShirt 30 = .ok (.aload_n 0, 1) := by decide +kernel
theorem dX2_addShirt_31 : decode cX2_addShirt 31 = .ok (.getfield 47, 3) := by decide +kernel
theorem dX2_addShirt_34 : decode cX2_addShirt 34 = .ok (.iadd, 1) := by decide +kernel
theorem dX2_addShirt_35 : decode cX2_addShirt 35 = .ok (.iload_n 1, 1) := by decide +kernel
theorem dX2_addShirt_36 : decode cX2_addShirt 36 = .ok (.iastore, 1) := by decide +kernel
theorem dX2_addShirt_37 : decode cX2_addShirt 37 = .ok (.aload_n 0, 1) := by decide +kernel
theorem dX2_addShirt_38 : decode cX2_addShirt 38 = .ok (.getfield 50, 3) := by decide +kernel
theorem dX2_addShirt_41 : decode cX2_addShirt 41 = .ok (.iconst 3, 1) := by decide +kernel
theorem dX2_addShirt_42 : decode cX2_addShirt 42 = .ok (.aload_n 0, 1) := by decide +kernel
theorem dX2_addShirt_43 : decode cX2_addShirt 43 = .ok (.getfield 47, 3) := by decide +kernel
theorem dX2_addShirt_46 : decode cX2_addShirt 46 = .ok (.iadd, 1) := by decide +kernel
theorem dX2_addShirt_47 : decode cX2_addShirt 47 = .ok (.iconst 0, 1) := by decide +kernel
theorem dX2_addShirt_48 : decode cX2_addShirt 48 = .ok (.iastore, 1) := by decide +kernel
theorem dX2_addShirt_49 : decode cX2_addShirt 49 = .ok (.aload_n 0, 1) := by decide +kernel
theorem dX2_addShirt_50 : decode cX2_addShirt 50 = .ok (.iconst 0, 1) := by decide +kernel
theorem dX2_addShirt_51 : decode cX2_addShirt 51 = .ok (.putfield 56, 3) := by decide +kernel
theorem dX2_addShirt_54 : decode cX2_addShirt 54 = .ok (.aload_n 0, 1) := by decide +kernel
theorem dX2_addShirt_55 : decode cX2_addShirt 55 = .ok (.dup, 1) := by decide +kernel
theorem dX2_addShirt_56 : decode cX2_addShirt 56 = .ok (.getfield 47, 3) := by decide +kernel
theorem dX2_addShirt_59 : decode cX2_addShirt 59 = .ok (.dup_x1, 1) := by decide +kernel
theorem dX2_addShirt_60 : decode cX2_addShirt 60 = .ok (.iconst 1, 1) := by decide +kernel
theorem dX2_addShirt_61 : decode cX2_addShirt 61 = .ok (.iadd, 1) := by decide +kernel
theorem dX2_addShirt_62 : decode cX2_addShirt 62 = .ok (.putfield 47, 3) := by decide +kernel
theorem dX2_addShirt_65 : decode cX2_addShirt 65 = .ok (.ireturn, 1) := by decide +kernel
theorem dX2_tellBare_0 : decode cX2_tellBare 0 = .ok (.aload_n 0, 1) := by decide +kernel
theorem dX2_tellBare_1 : decode cX2_tellBare 1 = .ok (.iload_n 1, 1) := by decide +kernel
theorem dX2_tellBare_2 : decode cX2_tellBare 2 = .ok (.invokevirtual 99, 3) := by decide +kernel
theorem dX2_tellBare_5 : decode cX2_tellBare 5 = .ok (.ifCond .eq 13, 3) := by decide +kernel
theorem dX2_tellBare_8 : decode cX2_tellBare 8 = .ok (.iload_n 2, 1) := by decide +kernel
theorem dX2_tellBare_9 : decode cX2_tellBare 9 = .ok (.ifCond .lt 9, 3) := by decide +kernel
theorem dX2_tellBare_12 : decode cX2_tellBare 12 = .ok (.iload_n 2, 1) := by decide +kernel
theorem dX2_tellBare_13 : decode cX2_tellBare 13 = .ok (.bipush 20, 2) := by decide +kernel
theorem dX2_tellBare_15 : decode cX2_tellBare 15 = .ok (.if_icmp .le 6, 3) := by decide +kernel
theorem dX2_tellBare_18 : decode cX2_tellBare 18 = .ok (.bipush (-2), 2) := by decide +kernel
theorem dX2_tellBare_20 : decode cX2_tellBare 20 = .ok (.ireturn, 1) := by decide +kernel
theorem dX2_tellBare_21 : decode cX2_tellBare 21 = .ok (.aload_n 0, 1) := by decide +kernel
theorem dX2_tellBare_22 : decode cX2_tellBare 22 = .ok (.getfield 37, 3) := by decide +kernel
theorem dX2_tellBare_25 : decode cX2_tellBare 25 = .ok (.iload_n 1, 1) := by decide +kernel
theorem dX2_tellBare_26 : decode cX2_tellBare 26 = .ok (.iaload, 1) := by decide +kernel
theorem dX2_tellBare_27 : decode cX2_tellBare 27 = .ok (.istore_n 3, 1) := by decide +kernel
theorem dX2_tellBare_28 : decode cX2_tellBare 28 = .ok (.aload_n 0, 1) := by decide +kernel
theorem dX2_tellBare_29 : decode cX2_tellBare 29 = .ok (.getfield 37, 3) := by decide +kernel
theorem dX2_tellBare_32 : decode cX2_tellBare 32 = .ok (.iload_n 1, 1) := by decide +kernel
theorem dX2_tellBare_33 : decode cX2_tellBare 33 = .ok (.iload_n 2, 1) := by decide +kernel
theorem dX2_tellBare_34 : decode cX2_tellBare 34 = .ok (.iastore, 1) := by decide +kernel
theorem dX2_tellBare_35 : decode cX2_tellBare 35 = .ok (.iload_n 3, 1) := by decide +kernel
theorem dX2_tellBare_36 : decode cX2_tellBare 36 = .ok (.ireturn, 1) := by decide +kernel
theorem dX2_passNight_0 : decode cX2_passNight 0 = .ok (.aload_n 0, 1) := by decide +kernel
theorem dX2_passNight_1 : decode cX2_passNight 1 = .ok (.iload_n 1, 1) := by decide +kernel
theorem dX2_passNight_2 : decode cX2_passNight 2 = .ok (.invokevirtual 106, 3) := by decide +kernel
theorem dX2_passNight_5 : decode cX2_passNight 5 = .ok (.ifCond .ne 6, 3) := by decide +kernel
theorem dX2_passNight_8 : decode cX2_passNight 8 = .ok (.bipush (-2), 2) := by decide +kernel
theorem dX2_passNight_10 : decode cX2_passNight 10 = .ok (.ireturn, 1) := by decide +kernel
theorem dX2_passNight_11 : decode cX2_passNight 11 = .ok (.aload_n 0, 1) := by decide +kernel
theorem dX2_passNight_12 : decode cX2_passNight 12 = .ok (.getfield 56, 3) := by decide +kernel
theorem dX2_passNight_15 : decode cX2_passNight 15 = .ok (.bipush 12, 2) := by decide +kernel
theorem dX2_passNight_17 : decode cX2_passNight 17 = .ok (.if_icmp .lt 25, 3) := by decide +kernel
theorem dX2_passNight_20 : decode cX2_passNight 20 = .ok (.aload_n 0, 1) := by decide +kernel
theorem dX2_passNight_21 : decode cX2_passNight 21 = .ok (.getfield 53, 3) := by decide +kernel
theorem dX2_passNight_24 : decode cX2_passNight 24 = .ok (.bipush 10, 2) := by decide +kernel
theorem dX2_passNight_26 : decode cX2_passNight 26 = .ok (.aload_n 0, 1) := by decide +kernel
theorem dX2_passNight_27 : decode cX2_passNight 27 = .ok (.getfield 53, 3) := by decide +kernel
theorem dX2_passNight_30 : decode cX2_passNight 30 = .ok (.iconst 0, 1) := by decide +kernel
theorem dX2_passNight_31 : decode cX2_passNight 31 = .ok (.bipush 110, 2) := by decide +kernel
theorem dX2_passNight_33 : decode cX2_passNight 33 = .ok (.invokestatic 86, 3) := by decide +kernel
theorem dX2_passNight_36 : decode cX2_passNight 36 = .ok (.aload_n 0, 1) := by decide +kernel
theorem dX2_passNight_37 : decode cX2_passNight 37 = .ok (.bipush 11, 2) := by decide +kernel
theorem dX2_passNight_39 : decode cX2_passNight 39 = .ok (.putfield 56, 3) := by decide +kernel
theorem dX2_passNight_42 : decode cX2_passNight 42 = .ok (.aload_n 0, 1) := by decide +kernel
theorem dX2_passNight_43 : decode cX2_passNight 43 = .ok (.getfield 50, 3) := by decide +kernel
theorem dX2_passNight_46 : decode cX2_passNight 46 = .ok (.iconst 0, 1) := by decide +kernel
theorem dX2_passNight_47 : decode cX2_passNight 47 = .ok (.aload_n 0, 1) := by decide +kernel
theorem dX2_passNight_48 : decode cX2_passNight 48 = .ok (.getfield 53, 3) := by decide +kernel
theorem dX2_passNight_51 : decode cX2_passNight 51 = .ok (.aload_n 0, 1) := by decide +kernel
theorem dX2_passNight_52 : decode cX2_passNight 52 = .ok (.getfield 56, 3) := by decide +kernel
theorem dX2_passNight_55 : decode cX2_passNight 55 = .ok (.bipush 10, 2) := by decide +kernel
theorem dX2_passNight_57 : decode cX2_passNight 57 = .ok (.imul, 1) := by decide +kernel
theorem dX2_passNight_58 : decode cX2_passNight 58 = .ok (.bipush 10, 2) := by decide +kernel
theorem dX2_passNight_60 : decode cX2_passNight 60 = .ok (.invokestatic 86, 3) := by decide +kernel
theorem dX2_passNight_63 : decode cX2_passNight 63 = .ok (.aload_n 0, 1) := by decide +kernel
theorem dX2_passNight_64 : decode cX2_passNight 64 = .ok (.dup, 1) := by decide +kernel
theorem dX2_passNight_65 : decode cX2_passNight 65 = .ok (.getfield 56, 3) := by decide +kernel
theorem dX2_passNight_68 : decode cX2_passNight 68 = .ok (.iconst 1, 1) := by decide +kernel
theorem dX2_passNight_69 : decode cX2_passNight 69 = .ok (.iadd, 1) := by decide +kernel
theorem dX2_passNight_70 : decode cX2_passNight 70 = .ok (.putfield 56, 3) := by decide +kernel
theorem dX2_passNight_73 : decode cX2_passNight 73 = .ok (.aload_n 0, 1) := by decide +kernel
theorem dX2_passNight_74 : decode cX2_passNight 74 = .ok (.aload_n 0, 1) := by decide +kernel
theorem dX2_passNight_75 : decode cX2_passNight 75 = .ok (.getfield 50, 3) := by decide +kernel
theorem dX2_passNight_78 : decode cX2_passNight 78 = .ok (.iload_n 1, 1) := by decide +kernel
theorem dX2_passNight_79 : decode cX2_passNight 79 = .ok (.invokevirtual 109, 3) := by decide +kernel
theorem dX2_passNight_82 : decode cX2_passNight 82 = .ok (.ireturn, 1) := by decide +kernel
theorem dX2_takeBack_0 : decode cX2_takeBack 0 = .ok (.aload_n 0, 1) := by decide +kernel
theorem dX2_takeBack_1 : decode cX2_takeBack 1 = .ok (.getfield 56, 3) := by decide +kernel
theorem dX2_takeBack_4 : decode cX2_takeBack 4 = .ok (.ifCond .gt 6, 3) := by decide +kernel
theorem dX2_takeBack_7 : decode cX2_takeBack 7 = .ok (.bipush (-3), 2) := by decide +kernel
theorem dX2_takeBack_9 : decode cX2_takeBack 9 = .ok (.ireturn, 1) := by decide +kernel
theorem dX2_takeBack_10 : decode cX2_takeBack 10 = .ok (.aload_n 0, 1) := by decide +kernel
theorem dX2_takeBack_11 : decode cX2_takeBack 11 = .ok (.dup, 1) := by decide +kernel
theorem dX2_takeBack_12 : decode cX2_takeBack 12 = .ok (.getfield 56, 3) := by decide +kernel
theorem dX2_takeBack_15 : decode cX2_takeBack 15 = .ok (.iconst 1, 1) := by decide +kernel
theorem dX2_takeBack_16 : decode cX2_takeBack 16 = .ok (.isub, 1) := by decide +kernel
theorem dX2_takeBack_17 : decode cX2_takeBack 17 = .ok (.putfield 56, 3) := by decide +kernel
theorem dX2_takeBack_20 : decode cX2_takeBack 20 = .ok (.aload_n 0, 1) := by decide +kernel
theorem dX2_takeBack_21 : decode cX2_takeBack 21 = .ok (.getfield 53, 3) := by decide +kernel
theorem dX2_takeBack_24 : decode cX2_takeBack 24 = .ok (.aload_n 0, 1) := by decide +kernel
theorem dX2_takeBack_25 : decode cX2_takeBack 25 = .ok (.getfield 56, 3) := by decide +kernel
theorem dX2_takeBack_28 : decode cX2_takeBack 28 = .ok (.bipush 10, 2) := by decide +kernel
theorem dX2_takeBack_30 : decode cX2_takeBack 30 = .ok (.imul, 1) := by decide +kernel
theorem dX2_takeBack_31 : decode cX2_takeBack 31 = .ok (.aload_n 0, 1) := by decide +kernel
theorem dX2_takeBack_32 : decode cX2_takeBack 32 = .ok (.getfield 50, 3) := by decide +kernel
theorem dX2_takeBack_35 : decode cX2_takeBack 35 = .ok (.iconst 0, 1) := by decide +kernel
theorem dX2_takeBack_36 : decode cX2_takeBack 36 = .ok (.bipush 10, 2) := by decide +kernel
theorem dX2_takeBack_38 : decode cX2_takeBack 38 = .ok (.invokestatic 86, 3) := by decide +kernel
theorem dX2_takeBack_41 : decode cX2_takeBack 41 = .ok (.iconst 1, 1) := by decide +kernel
theorem dX2_takeBack_42 : decode cX2_takeBack 42 = .ok (.ireturn, 1) := by decide +kernel
theorem dX2_pass_0 : decode cX2_pass 0 = .ok (.iload_n 2, 1) := by decide +kernel
theorem dX2_pass_1 : decode cX2_pass 1 = .ok (.iconst 3, 1) := by decide +kernel
theorem dX2_pass_2 : decode cX2_pass 2 = .ok (.if_icmp .ge 12, 3) := by decide +kernel
theorem dX2_pass_5 : decode cX2_pass 5 = .ok (.aload_n 0, 1) := by decide +kernel
theorem dX2_pass_6 : decode cX2_pass 6 = .ok (.aload_n 1, 1) := by decide +kernel
theorem dX2_pass_7 : decode cX2_pass 7 = .ok (.iload_n 2, 1) := by decide +kernel
theorem dX2_pass_8 : decode cX2_pass 8 = .ok (.invokevirtual 113, 3) := by decide +kernel
theorem dX2_pass_11 : decode cX2_pass 11 = .ok (.goto 23, 3) := by decide +kernel
theorem dX2_pass_14 : decode cX2_pass 14 = .ok (.iload_n 2, 1) := by decide +kernel
theorem dX2_pass_15 : decode cX2_pass 15 = .ok (.bipush 7, 2) := by decide +kernel
theorem dX2_pass_17 : decode cX2_pass 17 = .ok (.if_icmp .ge 12, 3) := by decide +kernel
theorem dX2_pass_20 : decode cX2_pass 20 = .ok (.aload_n 0, 1) := by decide +kernel
theorem dX2_pass_21 : decode cX2_pass 21 = .ok (.aload_n 1, 1) := by decide +kernel
theorem dX2_pass_22 : decode cX2_pass 22 = .ok (.iload_n 2, 1) := by decide +kernel
theorem dX2_pass_23 : decode cX2_pass 23 = .ok (.invokevirtual 116, 3) := by decide +kernel
theorem dX2_pass_26 : decode cX2_pass 26 = .ok (.goto 8, 3) := by decide +kernel
theorem dX2_pass_29 : decode cX2_pass 29 = .ok (.aload_n 0, 1) := by decide +kernel
theorem dX2_pass_30 : decode cX2_pass 30 = .ok (.aload_n 1, 1) := by decide +kernel
theorem dX2_pass_31 : decode cX2_pass 31 = .ok (.invokevirtual 119, 3) := by decide +kernel
theorem dX2_pass_34 : decode cX2_pass 34 = .ok (.istore_n 3, 1) := by decide +kernel
theorem dX2_pass_35 : decode cX2_pass 35 = .ok (.iconst 0, 1) := by decide +kernel
theorem dX2_pass_36 : decode cX2_pass 36 = .ok (.istore 4, 2) := by decide +kernel
theorem dX2_pass_38 : decode cX2_pass 38 = .ok (.iload 4, 2) := by decide +kernel
theorem dX2_pass_40 : decode cX2_pass 40 = .ok (.aload_n 0, 1) := by decide +kernel
theorem dX2_pass_41 : decode cX2_pass 41 = .ok (.getfield 43, 3) := by decide +kernel
theorem dX2_pass_44 : decode cX2_pass 44 = .ok (.if_icmp .ge 51, 3) := by decide +kernel
theorem dX2_pass_47 : decode cX2_pass 47 = .ok (.aload_n 1, 1) := by decide +kernel
theorem dX2_pass_48 : decode cX2_pass 48 = .ok (.iload 4, 2) := by decide +kernel
theorem dX2_pass_50 : decode cX2_pass 50 = .ok (.iaload, 1) := by decide +kernel
theorem dX2_pass_51 : decode cX2_pass 51 = .ok (.aload_n 0, 1) := by decide +kernel
theorem dX2_pass_52 : decode cX2_pass 52 = .ok (.getfield 27, 3) := by decide +kernel
theorem dX2_pass_55 : decode cX2_pass 55 = .ok (.aload_n 0, 1) := by decide +kernel
theorem dX2_pass_56 : decode cX2_pass 56 = .ok (.getfield 33, 3) := by decide +kernel
theorem dX2_pass_59 : decode cX2_pass 59 = .ok (.iload 4, 2) := by decide +kernel
theorem dX2_pass_61 : decode cX2_pass 61 = .ok (.iaload, 1) := by decide +kernel
theorem dX2_pass_62 : decode cX2_pass 62 = .ok (.aaload, 1) := by decide +kernel
theorem dX2_pass_63 : decode cX2_pass 63 = .ok (.aload_n 1, 1) := by decide +kernel
theorem dX2_pass_64 : decode cX2_pass 64 = .ok (.bipush 9, 2) := by decide +kernel
theorem dX2_pass_66 : decode cX2_pass 66 = .ok (.iaload, 1) := by decide +kernel
theorem dX2_pass_67 : decode cX2_pass 67 = .ok (.invokevirtual 123, 3) := by decide +kernel
theorem dX2_pass_70 : decode cX2_pass 70 = .ok (.iadd, 1) := by decide +kernel
theorem dX2_pass_71 : decode cX2_pass 71 = .ok (.istore 5, 2) := by decide +kernel
theorem dX2_pass_73 : decode cX2_pass 73 = .ok (.aload_n 1, 1) := by decide +kernel
theorem dX2_pass_74 : decode cX2_pass 74 = .ok (.iload 4, 2) := by decide +kernel
theorem dX2_pass_76 : decode cX2_pass 76 = .ok (.iload 5, 2) := by decide +kernel
theorem dX2_pass_78 : decode cX2_pass 78 = .ok (.aload_n 0, 1) := by decide +kernel
theorem dX2_pass_79 : decode cX2_pass 79 = .ok (.getfield 40, 3) := by decide +kernel
theorem dX2_pass_82 : decode cX2_pass 82 = .ok (.iload 4, 2) := by decide +kernel
theorem dX2_pass_84 : decode cX2_pass 84 = .ok (.iaload, 1) := by decide +kernel
theorem dX2_pass_85 : decode cX2_pass 85 = .ok (.invokestatic 127, 3) := by decide +kernel
theorem dX2_pass_88 : decode cX2_pass 88 = .ok (.iastore, 1) := by decide +kernel
theorem dX2_pass_89 : decode cX2_pass 89 = .ok (.iinc 4 1, 3) := by decide +kernel
theorem dX2_pass_92 : decode cX2_pass 92 = .ok (.goto (-54), 3) := by decide +kernel
theorem dX2_pass_95 : decode cX2_pass 95 = .ok (.aload_n 1, 1) := by decide +kernel
theorem dX2_pass_96 : decode cX2_pass 96 = .ok (.bipush 9, 2) := by decide +kernel
theorem dX2_pass_98 : decode cX2_pass 98 = .ok (.dup2, 1) := by decide +kernel
theorem dX2_pass_99 : decode cX2_pass 99 = .ok (.iaload, 1) := by decide +kernel
theorem dX2_pass_100 : decode cX2_pass 100 = .ok (.iconst 1, 1) := by decide +kernel
theorem dX2_pass_101 : decode cX2_pass 101 = .ok (.iadd, 1) := by decide +kernel
theorem dX2_pass_102 : decode cX2_pass 102 = .ok (.iastore, 1) := by decide +kernel
theorem dX2_pass_103 : decode cX2_pass 103 = .ok (.iload_n 3, 1) := by decide +kernel
theorem dX2_pass_104 : decode cX2_pass 104 = .ok (.ireturn, 1) := by decide +kernel
theorem dX2_pick_0 : decode cX2_pick 0 = .ok (.aload_n 0, 1) := by decide +kernel
theorem dX2_pick_1 : decode cX2_pick 1 = .ok (.getfield 27, 3) := by decide +kernel
theorem dX2_pick_4 : decode cX2_pick 4 = .ok (.aload_n 0, 1) := by decide +kernel
theorem dX2_pick_5 : decode cX2_pick 5 = .ok (.getfield 33, 3) := by decide +kernel
theorem dX2_pick_8 : decode cX2_pick 8 = .ok (.iload_n 2, 1) := by decide +kernel
theorem dX2_pick_9 : decode cX2_pick 9 = .ok (.iaload, 1) := by decide +kernel
theorem dX2_pick_10 : decode cX2_pick 10 = .ok (.aaload, 1) := by decide +kernel
theorem dX2_pick_11 : decode cX2_pick 11 = .ok (.astore_n 3, 1) := by decide +kernel
theorem dX2_pick_12 : decode cX2_pick 12 = .ok (.aload_n 1, 1) := by decide +kernel
theorem dX2_pick_13 : decode cX2_pick 13 = .ok (.iload_n 2, 1) := by decide +kernel
theorem dX2_pick_14 : decode cX2_pick 14 = .ok (.iaload, 1) := by decide +kernel
theorem dX2_pick_15 : decode cX2_pick 15 = .ok (.bipush 30, 2) := by decide +kernel
theorem dX2_pick_17 : decode cX2_pick 17 = .ok (.aload_n 1, 1) := by decide +kernel
theorem dX2_pick_18 : decode cX2_pick 18 = .ok (.bipush 7, 2) := by decide +kernel
theorem dX2_pick_20 : decode cX2_pick 20 = .ok (.iaload, 1) := by decide +kernel
theorem dX2_pick_21 : decode cX2_pick 21 = .ok (.isub, 1) := by decide +kernel
theorem dX2_pick_22 : decode cX2_pick 22 = .ok (.invokestatic 127, 3) := by decide +kernel
theorem dX2_pick_25 : decode cX2_pick 25 = .ok (.istore 4, 2) := by decide +kernel
theorem dX2_pick_27 : decode cX2_pick 27 = .ok (.aload_n 3, 1) := by decide +kernel
theorem dX2_pick_28 : decode cX2_pick 28 = .ok (.aload_n 1, 1) := by decide +kernel
theorem dX2_pick_29 : decode cX2_pick 29 = .ok (.bipush 9, 2) := by decide +kernel
theorem dX2_pick_31 : decode cX2_pick 31 = .ok (.iaload, 1) := by decide +kernel
theorem dX2_pick_32 : decode cX2_pick 32 = .ok (.invokevirtual 133, 3) := by decide +kernel
theorem dX2_pick_35 : decode cX2_pick 35 = .ok (.iload 4, 2) := by decide +kernel
theorem dX2_pick_37 : decode cX2_pick 37 = .ok (.invokestatic 127, 3) := by decide +kernel
theorem dX2_pick_40 : decode cX2_pick 40 = .ok (.istore 5, 2) := by decide +kernel
theorem dX2_pick_42 : decode cX2_pick 42 = .ok (.aload_n 1, 1) := by decide +kernel
theorem dX2_pick_43 : decode cX2_pick 43 = .ok (.iload_n 2, 1) := by decide +kernel
theorem dX2_pick_44 : decode cX2_pick 44 = .ok (.dup2, 1) := by decide +kernel
theorem dX2_pick_45 : decode cX2_pick 45 = .ok (.iaload, 1) := by decide +kernel
theorem dX2_pick_46 : decode cX2_pick 46 = .ok (.iload 5, 2) := by decide +kernel
theorem dX2_pick_48 : decode cX2_pick 48 = .ok (.isub, 1) := by decide +kernel
theorem dX2_pick_49 : decode cX2_pick 49 = .ok (.iastore, 1) := by decide +kernel
theorem dX2_pick_50 : decode cX2_pick 50 = .ok (.aload_n 1, 1) := by decide +kernel
theorem dX2_pick_51 : decode cX2_pick 51 = .ok (.bipush 7, 2) := by decide +kernel
theorem dX2_pick_53 : decode cX2_pick 53 = .ok (.dup2, 1) := by decide +kernel
theorem dX2_pick_54 : decode cX2_pick 54 = .ok (.iaload, 1) := by decide +kernel
theorem dX2_pick_55 : decode cX2_pick 55 = .ok (.iload 5, 2) := by decide +kernel
theorem dX2_pick_57 : decode cX2_pick 57 = .ok (.iadd, 1) := by decide +kernel
theorem dX2_pick_58 : decode cX2_pick 58 = .ok (.iastore, 1) := by decide +kernel
theorem dX2_pick_59 : decode cX2_pick 59 = .ok (.aload_n 1, 1) := by decide +kernel
theorem dX2_pick_60 : decode cX2_pick 60 = .ok (.bipush 8, 2) := by decide +kernel
theorem dX2_pick_62 : decode cX2_pick 62 = .ok (.aload_n 1, 1) := by decide +kernel
theorem dX2_pick_63 : decode cX2_pick 63 = .ok (.bipush 8, 2) := by decide +kernel
theorem dX2_pick_65 : decode cX2_pick 65 = .ok (.iaload, 1) := by decide +kernel
theorem dX2_pick_66 : decode cX2_pick 66 = .ok (.aload_n 3, 1) := by decide +kernel
theorem dX2_pick_67 : decode cX2_pick 67 = .ok (.invokevirtual 136, 3) := by decide +kernel
theorem dX2_pick_70 : decode cX2_pick 70 = .ok (.iadd, 1) := by decide +kernel
theorem dX2_pick_71 : decode cX2_pick 71 = .ok (.bipush 9, 2) := by decide +kernel
theorem dX2_pick_73 : decode cX2_pick 73 = .ok (.invokestatic 127, 3) := by decide +kernel
theorem dX2_pick_76 : decode cX2_pick 76 = .ok (.iastore, 1) := by decide +kernel
theorem dX2_pick_77 : decode cX2_pick 77 = .ok (.iload 5, 2) := by decide +kernel
theorem dX2_pick_79 : decode cX2_pick 79 = .ok (.ireturn, 1) := by decide +kernel
theorem dX2_sew_0 : decode cX2_sew 0 = .ok (.aload_n 1, 1) := by decide +kernel
theorem dX2_sew_1 : decode cX2_sew 1 = .ok (.bipush 8, 2) := by decide +kernel
theorem dX2_sew_3 : decode cX2_sew 3 = .ok (.iaload, 1) := by decide +kernel
theorem dX2_sew_4 : decode cX2_sew 4 = .ok (.invokestatic 139, 3) := by decide +kernel
theorem dX2_sew_7 : decode cX2_sew 7 = .ok (.aload_n 1, 1) := by decide +kernel
theorem dX2_sew_8 : decode cX2_sew 8 = .ok (.bipush 7, 2) := by decide +kernel
theorem dX2_sew_10 : decode cX2_sew 10 = .ok (.iaload, 1) := by decide +kernel
theorem dX2_sew_11 : decode cX2_sew 11 = .ok (.invokestatic 127, 3) := by decide +kernel
theorem dX2_sew_14 : decode cX2_sew 14 = .ok (.istore_n 3, 1) := by decide +kernel
theorem dX2_sew_15 : decode cX2_sew 15 = .ok (.iload_n 3, 1) := by decide +kernel
theorem dX2_sew_16 : decode cX2_sew 16 = .ok (.aload_n 0, 1) := by decide +kernel
theorem dX2_sew_17 : decode cX2_sew 17 = .ok (.getfield 40, 3) := by decide +kernel
theorem dX2_sew_20 : decode cX2_sew 20 = .ok (.iload_n 2, 1) := by decide +kernel
theorem dX2_sew_21 : decode cX2_sew 21 = .ok (.iaload, 1) := by decide +kernel
theorem dX2_sew_22 : decode cX2_sew 22 = .ok (.aload_n 1, 1) := by decide +kernel
theorem dX2_sew_23 : decode cX2_sew 23 = .ok (.iload_n 2, 1) := by decide +kernel
theorem dX2_sew_24 : decode cX2_sew 24 = .ok (.iaload, 1) := by decide +kernel
theorem dX2_sew_25 : decode cX2_sew 25 = .ok (.isub, 1) := by decide +kernel
theorem dX2_sew_26 : decode cX2_sew 26 = .ok (.invokestatic 127, 3) := by decide +kernel
theorem dX2_sew_29 : decode cX2_sew 29 = .ok (.istore 4, 2) := by decide +kernel
theorem dX2_sew_31 : decode cX2_sew 31 = .ok (.aload_n 1, 1) := by decide +kernel
theorem dX2_sew_32 : decode cX2_sew 32 = .ok (.iload_n 2, 1) := by decide +kernel
theorem dX2_sew_33 : decode cX2_sew 33 = .ok (.dup2, 1) := by decide +kernel
theorem dX2_sew_34 : decode cX2_sew 34 = .ok (.iaload, 1) := by decide +kernel
theorem dX2_sew_35 : decode cX2_sew 35 = .ok (.iload 4, 2) := by decide +kernel
theorem dX2_sew_37 : decode cX2_sew 37 = .ok (.iadd, 1) := by decide +kernel
theorem dX2_sew_38 : decode cX2_sew 38 = .ok (.iastore, 1) := by decide +kernel
theorem dX2_sew_39 : decode cX2_sew 39 = .ok (.aload_n 1, 1) := by decide +kernel
theorem dX2_sew_40 : decode cX2_sew 40 = .ok (.bipush 7, 2) := by decide +kernel
theorem dX2_sew_42 : decode cX2_sew 42 = .ok (.dup2, 1) := by decide +kernel
theorem dX2_sew_43 : decode cX2_sew 43 = .ok (.iaload, 1) := by decide +kernel
theorem dX2_sew_44 : decode cX2_sew 44 = .ok (.iload 4, 2) := by decide +kernel
theorem dX2_sew_46 : decode cX2_sew 46 = .ok (.isub, 1) := by decide +kernel
theorem dX2_sew_47 : decode cX2_sew 47 = .ok (.iastore, 1) := by decide +kernel
theorem dX2_sew_48 : decode cX2_sew 48 = .ok (.iload 4, 2) := by decide +kernel
theorem dX2_sew_50 : decode cX2_sew 50 = .ok (.ireturn, 1) := by decide +kernel
theorem dX2_rest_0 : decode cX2_rest 0 = .ok (.aload_n 1, 1) := by decide +kernel
theorem dX2_rest_1 : decode cX2_rest 1 = .ok (.bipush 8, 2) := by decide +kernel
theorem dX2_rest_3 : decode cX2_rest 3 = .ok (.aload_n 1, 1) := by decide +kernel
theorem dX2_rest_4 : decode cX2_rest 4 = .ok (.bipush 8, 2) := by decide +kernel
theorem dX2_rest_6 : decode cX2_rest 6 = .ok (.iaload, 1) := by decide +kernel
theorem dX2_rest_7 : decode cX2_rest 7 = .ok (.iconst 2, 1) := by decide +kernel
theorem dX2_rest_8 : decode cX2_rest 8 = .ok (.isub, 1) := by decide +kernel
theorem dX2_rest_9 : decode cX2_rest 9 = .ok (.iconst 0, 1) := by decide +kernel
theorem dX2_rest_10 : decode cX2_rest 10 = .ok (.invokestatic 142, 3) := by decide +kernel
theorem dX2_rest_13 : decode cX2_rest 13 = .ok (.iastore, 1) := by decide +kernel
theorem dX2_rest_14 : decode cX2_rest 14 = .ok (.aload_n 1, 1) := by decide +kernel
theorem dX2_rest_15 : decode cX2_rest 15 = .ok (.bipush 8, 2) := by decide +kernel
theorem dX2_rest_17 : decode cX2_rest 17 = .ok (.iaload, 1) := by decide +kernel
theorem dX2_rest_18 : decode cX2_rest 18 = .ok (.ireturn, 1) := by decide +kernel
theorem dX2_partsBy_0 : decode cX2_partsBy 0 = .ok (.iconst 3, 1) := by decide +kernel
theorem dX2_partsBy_1 : decode cX2_partsBy 1 = .ok (.iload_n 0, 1) := by decide +kernel
theorem dX2_partsBy_2 : decode cX2_partsBy 2 = .ok (.iconst 3, 1) := by decide +kernel
theorem dX2_partsBy_3 : decode cX2_partsBy 3 = .ok (.idiv, 1) := by decide +kernel
theorem dX2_partsBy_4 : decode cX2_partsBy 4 = .ok (.isub, 1) := by decide +kernel
theorem dX2_partsBy_5 : decode cX2_partsBy 5 = .ok (.ireturn, 1) := by decide +kernel
theorem dX2_lacks_0 : decode cX2_lacks 0 = .ok (.aload_n 0, 1) := by decide +kernel
theorem dX2_lacks_1 : decode cX2_lacks 1 = .ok (.getfield 40, 3) := by decide +kernel
theorem dX2_lacks_4 : decode cX2_lacks 4 = .ok (.iconst 3, 1) := by decide +kernel
theorem dX2_lacks_5 : decode cX2_lacks 5 = .ok (.iload_n 2, 1) := by decide +kernel
theorem dX2_lacks_6 : decode cX2_lacks 6 = .ok (.iadd, 1) := by decide +kernel
theorem dX2_lacks_7 : decode cX2_lacks 7 = .ok (.iaload, 1) := by decide +kernel
theorem dX2_lacks_8 : decode cX2_lacks 8 = .ok (.aload_n 1, 1) := by decide +kernel
theorem dX2_lacks_9 : decode cX2_lacks 9 = .ok (.iconst 3, 1) := by decide +kernel
theorem dX2_lacks_10 : decode cX2_lacks 10 = .ok (.iload_n 2, 1) := by decide +kernel
theorem dX2_lacks_11 : decode cX2_lacks 11 = .ok (.iadd, 1) := by decide +kernel
theorem dX2_lacks_12 : decode cX2_lacks 12 = .ok (.iaload, 1) := by decide +kernel
theorem dX2_lacks_13 : decode cX2_lacks 13 = .ok (.isub, 1) := by decide +kernel
theorem dX2_lacks_14 : decode cX2_lacks 14 = .ok (.ireturn, 1) := by decide +kernel
theorem dX2_lacking_0 : decode cX2_lacking 0 = .ok (.iconst 0, 1) := by decide +kernel
theorem dX2_lacking_1 : decode cX2_lacking 1 = .ok (.istore_n 2, 1) := by decide +kernel
theorem dX2_lacking_2 : decode cX2_lacking 2 = .ok (.iconst 0, 1) := by decide +kernel
theorem dX2_lacking_3 : decode cX2_lacking 3 = .ok (.istore_n 3, 1) := by decide +kernel
theorem dX2_lacking_4 : decode cX2_lacking 4 = .ok (.iload_n 3, 1) := by decide +kernel
theorem dX2_lacking_5 : decode cX2_lacking 5 = .ok (.aload_n 0, 1) := by decide +kernel
theorem dX2_lacking_6 : decode cX2_lacking 6 = .ok (.getfield 47, 3) := by decide +kernel
theorem dX2_lacking_9 : decode cX2_lacking 9 = .ok (.if_icmp .ge 18, 3) := by decide +kernel
theorem dX2_lacking_12 : decode cX2_lacking 12 = .ok (.iload_n 2, 1) := by decide +kernel
theorem dX2_lacking_13 : decode cX2_lacking 13 = .ok (.aload_n 0, 1) := by decide +kernel
theorem dX2_lacking_14 : decode cX2_lacking 14 = .ok (.aload_n 1, 1) := by decide +kernel
theorem dX2_lacking_15 : decode cX2_lacking 15 = .ok (.iload_n 3, 1) := by decide +kernel
theorem dX2_lacking_16 : decode cX2_lacking 16 = .ok (.invokevirtual 145, 3) := by decide +kernel
theorem dX2_lacking_19 : decode cX2_lacking 19 = .ok (.iadd, 1) := by decide +kernel
theorem dX2_lacking_20 : decode cX2_lacking 20 = .ok (.istore_n 2, 1) := by decide +kernel
theorem dX2_lacking_21 : decode cX2_lacking 21 = .ok (.iinc 3 1, 3) := by decide +kernel
theorem dX2_lacking_24 : decode cX2_lacking 24 = .ok (.goto (-20), 3) := by decide +kernel
theorem dX2_lacking_27 : decode cX2_lacking 27 = .ok (.iload_n 2, 1) := by decide +kernel
theorem dX2_lacking_28 : decode cX2_lacking 28 = .ok (.ireturn, 1) := by decide +kernel
theorem dX2_mostLacking_0 : decode cX2_mostLacking 0 = .ok (.iconst (-1), 1) := by decide +kernel
theorem dX2_mostLacking_1 : decode cX2_mostLacking 1 = .ok (.istore_n 2, 1) := by decide +kernel
theorem dX2_mostLacking_2 : decode cX2_mostLacking 2 = .ok (.iconst 0, 1) := by decide +kernel
theorem dX2_mostLacking_3 : decode cX2_mostLacking 3 = .ok (.istore_n 3, 1) := by decide +kernel
theorem dX2_mostLacking_4 : decode cX2_mostLacking 4 = .ok (.iload_n 3, 1) := by decide +kernel
theorem dX2_mostLacking_5 : decode cX2_mostLacking 5 = .ok (.aload_n 0, 1) := by decide +kernel
theorem dX2_mostLacking_6 : decode cX2_mostLacking 6 = .ok (.getfield 47, 3) := by decide +kernel
theorem dX2_mostLacking_9 : decode cX2_mostLacking 9 = .ok (.if_icmp .ge 31, 3) := by decide +kernel
theorem dX2_mostLacking_12 : decode cX2_mostLacking 12 = .ok (.iload_n 2, 1) := by decide +kernel
theorem dX2_mostLacking_13 : decode cX2_mostLacking 13 = .ok (.iconst (-1), 1) := by decide +kernel
theorem dX2_mostLacking_14 : decode cX2_mostLacking 14 = .ok (.if_icmp .eq 18, 3) := by decide +kernel
theorem dX2_mostLacking_17 : decode cX2_mostLacking 17 = .ok (.aload_n 0, 1) := by decide +kernel
theorem dX2_mostLacking_18 : decode cX2_mostLacking 18 = .ok (.aload_n 1, 1) := by decide +kernel
theorem dX2_mostLacking_19 : decode cX2_mostLacking 19 = .ok (.iload_n 3, 1) := by decide +kernel
theorem dX2_mostLacking_20 : decode cX2_mostLacking 20 = .ok (.invokevirtual 145, 3) := by decide +kernel
theorem dX2_mostLacking_23 : decode cX2_mostLacking 23 = .ok (.aload_n 0, 1) := by decide +kernel
theorem dX2_mostLacking_24 : decode cX2_mostLacking 24 = .ok (.aload_n 1, 1) := by decide +kernel
theorem dX2_mostLacking_25 : decode cX2_mostLacking 25 = .ok (.iload_n 2, 1) := by decide +kernel
theorem dX2_mostLacking_26 : decode cX2_mostLacking 26 = .ok (.invokevirtual 145, 3) := by decide +kernel
theorem dX2_mostLacking_29 : decode cX2_mostLacking 29 = .ok (.if_icmp .le 5, 3) := by decide +kernel
theorem dX2_mostLacking_32 : decode cX2_mostLacking 32 = .ok (.iload_n 3, 1) := by decide +kernel
theorem dX2_mostLacking_33 : decode cX2_mostLacking 33 = .ok (.istore_n 2, 1) := by decide +kernel
theorem dX2_mostLacking_34 : decode cX2_mostLacking 34 = .ok (.iinc 3 1, 3) := by decide +kernel
theorem dX2_mostLacking_37 : decode cX2_mostLacking 37 = .ok (.goto (-33), 3) := by decide +kernel
theorem dX2_mostLacking_40 : decode cX2_mostLacking 40 = .ok (.iload_n 2, 1) := by decide +kernel
theorem dX2_mostLacking_41 : decode cX2_mostLacking 41 = .ok (.ireturn, 1) := by decide +kernel
theorem dX2_isAsToldBare_0 : decode cX2_isAsToldBare 0 = .ok (.iconst 0, 1) := by decide +kernel
theorem dX2_isAsToldBare_1 : decode cX2_isAsToldBare 1 = .ok (.istore_n 2, 1) := by decide +kernel
theorem dX2_isAsToldBare_2 : decode cX2_isAsToldBare 2 = .ok (.iload_n 2, 1) := by decide +kernel
theorem dX2_isAsToldBare_3 : decode cX2_isAsToldBare 3 = .ok (.aload_n 0, 1) := by decide +kernel
theorem dX2_isAsToldBare_4 : decode cX2_isAsToldBare 4 = .ok (.getfield 43, 3) := by decide +kernel
theorem dX2_isAsToldBare_7 : decode cX2_isAsToldBare 7 = .ok (.if_icmp .ge 23, 3) := by decide +kernel
theorem dX2_isAsToldBare_10 : decode cX2_isAsToldBare 10 = .ok (.aload_n 1, 1) := by decide +kernel
theorem dX2_isAsToldBare_11 : decode cX2_isAsToldBare 11 = .ok (.iload_n 2, 1) := by decide +kernel
theorem dX2_isAsToldBare_12 : decode cX2_isAsToldBare 12 = .ok (.iaload, 1) := by decide +kernel
theorem dX2_isAsToldBare_13 : decode cX2_isAsToldBare 13 = .ok (.aload_n 0, 1) := by decide +kernel
theorem dX2_isAsToldBare_14 : decode cX2_isAsToldBare 14 = .ok (.getfield 37, 3) := by decide +kernel
theorem dX2_isAsToldBare_17 : decode cX2_isAsToldBare 17 = .ok (.iload_n 2, 1) := by decide +kernel
theorem dX2_isAsToldBare_18 : decode cX2_isAsToldBare 18 = .ok (.iaload, 1) := by decide +kernel
theorem dX2_isAsToldBare_19 : decode cX2_isAsToldBare 19 = .ok (.if_icmp .eq 5, 3) := by decide +kernel
theorem dX2_isAsToldBare_22 : decode cX2_isAsToldBare 22 = .ok (.iconst 0, 1) := by decide +kernel
theorem dX2_isAsToldBare_23 : decode cX2_isAsToldBare 23 = .ok (.ireturn, 1) := by decide +kernel
theorem dX2_isAsToldBare_24 : decode cX2_isAsToldBare 24 = .ok (.iinc 2 1, 3) := by decide +kernel
theorem dX2_isAsToldBare_27 : decode cX2_isAsToldBare 27 = .ok (.goto (-25), 3) := by decide +kernel
theorem dX2_isAsToldBare_30 : decode cX2_isAsToldBare 30 = .ok (.iconst 1, 1) := by decide +kernel
theorem dX2_isAsToldBare_31 : decode cX2_isAsToldBare 31 = .ok (.ireturn, 1) := by decide +kernel
theorem dX2_mixed_0 : decode cX2_mixed 0 = .ok (.ldc2_w 148, 3) := by decide +kernel
theorem dX2_mixed_3 : decode cX2_mixed 3 = .ok (.lload_n 1, 1) := by decide +kernel
theorem dX2_mixed_4 : decode cX2_mixed 4 = .ok (.lmul, 1) := by decide +kernel
theorem dX2_mixed_5 : decode cX2_mixed 5 = .ok (.aload_n 0, 1) := by decide +kernel
theorem dX2_mixed_6 : decode cX2_mixed 6 = .ok (.getfield 50, 3) := by decide +kernel
theorem dX2_mixed_9 : decode cX2_mixed 9 = .ok (.bipush 7, 2) := by decide +kernel
theorem dX2_mixed_11 : decode cX2_mixed 11 = .ok (.iaload, 1) := by decide +kernel
theorem dX2_mixed_12 : decode cX2_mixed 12 = .ok (.i2l, 1) := by decide +kernel
theorem dX2_mixed_13 : decode cX2_mixed 13 = .ok (.ladd, 1) := by decide +kernel
theorem dX2_mixed_14 : decode cX2_mixed 14 = .ok (.lstore_n 3, 1) := by decide +kernel
theorem dX2_mixed_15 : decode cX2_mixed 15 = .ok (.ldc2_w 148, 3) := by decide +kernel
theorem dX2_mixed_18 : decode cX2_mixed 18 = .ok (.lload_n 3, 1) := by decide +kernel
theorem dX2_mixed_19 : decode cX2_mixed 19 = .ok (.lmul, 1) := by decide +kernel
theorem dX2_mixed_20 : decode cX2_mixed 20 = .ok (.aload_n 0, 1) := by decide +kernel
theorem dX2_mixed_21 : decode cX2_mixed 21 = .ok (.getfield 50, 3) := by decide +kernel
theorem dX2_mixed_24 : decode cX2_mixed 24 = .ok (.bipush 8, 2) := by decide +kernel
theorem dX2_mixed_26 : decode cX2_mixed 26 = .ok (.iaload, 1) := by decide +kernel
theorem dX2_mixed_27 : decode cX2_mixed 27 = .ok (.i2l, 1) := by decide +kernel
theorem dX2_mixed_28 : decode cX2_mixed 28 = .ok (.ladd, 1) := by decide +kernel
theorem dX2_mixed_29 : decode cX2_mixed 29 = .ok (.lstore_n 3, 1) := by decide +kernel
theorem dX2_mixed_30 : decode cX2_mixed 30 = .ok (.iconst 0, 1) := by decide +kernel
theorem dX2_mixed_31 : decode cX2_mixed 31 = .ok (.istore 5, 2) := by decide +kernel
theorem dX2_mixed_33 : decode cX2_mixed 33 = .ok (.iload 5, 2) := by decide +kernel
theorem dX2_mixed_35 : decode cX2_mixed 35 = .ok (.aload_n 0, 1) := by decide +kernel
theorem dX2_mixed_36 : decode cX2_mixed 36 = .ok (.getfield 43, 3) := by decide +kernel
theorem dX2_mixed_39 : decode cX2_mixed 39 = .ok (.if_icmp .ge 69, 3) := by decide +kernel
theorem dX2_mixed_42 : decode cX2_mixed 42 = .ok (.ldc2_w 148, 3) := by decide +kernel
theorem dX2_mixed_45 : decode cX2_mixed 45 = .ok (.lload_n 3, 1) := by decide +kernel
theorem dX2_mixed_46 : decode cX2_mixed 46 = .ok (.lmul, 1) := by decide +kernel
theorem dX2_mixed_47 : decode cX2_mixed 47 = .ok (.aload_n 0, 1) := by decide +kernel
theorem dX2_mixed_48 : decode cX2_mixed 48 = .ok (.getfield 33, 3) := by decide +kernel
theorem dX2_mixed_51 : decode cX2_mixed 51 = .ok (.iload 5, 2) := by decide +kernel
theorem dX2_mixed_53 : decode cX2_mixed 53 = .ok (.iaload, 1) := by decide +kernel
theorem dX2_mixed_54 : decode cX2_mixed 54 = .ok (.i2l, 1) := by decide +kernel
theorem dX2_mixed_55 : decode cX2_mixed 55 = .ok (.ladd, 1) := by decide +kernel
theorem dX2_mixed_56 : decode cX2_mixed 56 = .ok (.lstore_n 3, 1) := by decide +kernel
theorem dX2_mixed_57 : decode cX2_mixed 57 = .ok (.ldc2_w 148, 3) := by decide +kernel
theorem dX2_mixed_60 : decode cX2_mixed 60 = .ok (.lload_n 3, 1) := by decide +kernel
theorem dX2_mixed_61 : decode cX2_mixed 61 = .ok (.lmul, 1) := by decide +kernel
theorem dX2_mixed_62 : decode cX2_mixed 62 = .ok (.aload_n 0, 1) := by decide +kernel
theorem dX2_mixed_63 : decode cX2_mixed 63 = .ok (.getfield 50, 3) := by decide +kernel
theorem dX2_mixed_66 : decode cX2_mixed 66 = .ok (.iload 5, 2) := by decide +kernel
theorem dX2_mixed_68 : decode cX2_mixed 68 = .ok (.iaload, 1) := by decide +kernel
theorem dX2_mixed_69 : decode cX2_mixed 69 = .ok (.i2l, 1) := by decide +kernel
theorem dX2_mixed_70 : decode cX2_mixed 70 = .ok (.ladd, 1) := by decide +kernel
theorem dX2_mixed_71 : decode cX2_mixed 71 = .ok (.lstore_n 3, 1) := by decide +kernel
theorem dX2_mixed_72 : decode cX2_mixed 72 = .ok (.ldc2_w 148, 3) := by decide +kernel
theorem dX2_mixed_75 : decode cX2_mixed 75 = .ok (.lload_n 3, 1) := by decide +kernel
theorem dX2_mixed_76 : decode cX2_mixed 76 = .ok (.lmul, 1) := by decide +kernel
theorem dX2_mixed_77 : decode cX2_mixed 77 = .ok (.aload_n 0, 1) := by decide +kernel
theorem dX2_mixed_78 : decode cX2_mixed 78 = .ok (.getfield 40, 3) := by decide +kernel
theorem dX2_mixed_81 : decode cX2_mixed 81 = .ok (.iload 5, 2) := by decide +kernel
theorem dX2_mixed_83 : decode cX2_mixed 83 = .ok (.iaload, 1) := by decide +kernel
theorem dX2_mixed_84 : decode cX2_mixed 84 = .ok (.i2l, 1) := by decide +kernel
theorem dX2_mixed_85 : decode cX2_mixed 85 = .ok (.ladd, 1) := by decide +kernel
theorem dX2_mixed_86 : decode cX2_mixed 86 = .ok (.lstore_n 3, 1) := by decide +kernel
theorem dX2_mixed_87 : decode cX2_mixed 87 = .ok (.ldc2_w 148, 3) := by decide +kernel
theorem dX2_mixed_90 : decode cX2_mixed 90 = .ok (.lload_n 3, 1) := by decide +kernel
theorem dX2_mixed_91 : decode cX2_mixed 91 = .ok (.lmul, 1) := by decide +kernel
theorem dX2_mixed_92 : decode cX2_mixed 92 = .ok (.aload_n 0, 1) := by decide +kernel
theorem dX2_mixed_93 : decode cX2_mixed 93 = .ok (.getfield 37, 3) := by decide +kernel
theorem dX2_mixed_96 : decode cX2_mixed 96 = .ok (.iload 5, 2) := by decide +kernel
theorem dX2_mixed_98 : decode cX2_mixed 98 = .ok (.iaload, 1) := by decide +kernel
theorem dX2_mixed_99 : decode cX2_mixed 99 = .ok (.i2l, 1) := by decide +kernel
theorem dX2_mixed_100 : decode cX2_mixed 100 = .ok (.ladd, 1) := by decide +kernel
theorem dX2_mixed_101 : decode cX2_mixed 101 = .ok (.lstore_n 3, 1) := by decide +kernel
theorem dX2_mixed_102 : decode cX2_mixed 102 = .ok (.iinc 5 1, 3) := by decide +kernel
theorem dX2_mixed_105 : decode cX2_mixed 105 = .ok (.goto (-72), 3) := by decide +kernel
theorem dX2_mixed_108 : decode cX2_mixed 108 = .ok (.iconst 3, 1) := by decide +kernel
theorem dX2_mixed_109 : decode cX2_mixed 109 = .ok (.istore 5, 2) := by decide +kernel
theorem dX2_mixed_111 : decode cX2_mixed 111 = .ok (.iload 5, 2) := by decide +kernel
theorem dX2_mixed_113 : decode cX2_mixed 113 = .ok (.iconst 3, 1) := by decide +kernel
theorem dX2_mixed_114 : decode cX2_mixed 114 = .ok (.aload_n 0, 1) := by decide +kernel
theorem dX2_mixed_115 : decode cX2_mixed 115 = .ok (.getfield 47, 3) := by decide +kernel
theorem dX2_mixed_118 : decode cX2_mixed 118 = .ok (.iadd, 1) := by decide +kernel
theorem dX2_mixed_119 : decode cX2_mixed 119 = .ok (.if_icmp .ge 39, 3) := by decide +kernel
theorem dX2_mixed_122 : decode cX2_mixed 122 = .ok (.ldc2_w 148, 3) := by decide +kernel
theorem dX2_mixed_125 : decode cX2_mixed 125 = .ok (.lload_n 3, 1) := by decide +kernel
theorem dX2_mixed_126 : decode cX2_mixed 126 = .ok (.lmul, 1) := by decide +kernel
theorem dX2_mixed_127 : decode cX2_mixed 127 = .ok (.aload_n 0, 1) := by decide +kernel
theorem dX2_mixed_128 : decode cX2_mixed 128 = .ok (.getfield 40, 3) := by decide +kernel
theorem dX2_mixed_131 : decode cX2_mixed 131 = .ok (.iload 5, 2) := by decide +kernel
theorem dX2_mixed_133 : decode cX2_mixed 133 = .ok (.iaload, 1) := by decide +kernel
theorem dX2_mixed_134 : decode cX2_mixed 134 = .ok (.i2l, 1) := by decide +kernel
theorem dX2_mixed_135 : decode cX2_mixed 135 = .ok (.ladd, 1) := by decide +kernel
theorem dX2_mixed_136 : decode cX2_mixed 136 = .ok (.lstore_n 3, 1) := by decide +kernel
theorem dX2_mixed_137 : decode cX2_mixed 137 = .ok (.ldc2_w 148, 3) := by decide +kernel
theorem dX2_mixed_140 : decode cX2_mixed 140 = .ok (.lload_n 3, 1) := by decide +kernel
theorem dX2_mixed_141 : decode cX2_mixed 141 = .ok (.lmul, 1) := by decide +kernel
theorem dX2_mixed_142 : decode cX2_mixed 142 = .ok (.aload_n 0, 1) := by decide +kernel
theorem dX2_mixed_143 : decode cX2_mixed 143 = .ok (.getfield 50, 3) := by decide +kernel
theorem dX2_mixed_146 : decode cX2_mixed 146 = .ok (.iload 5, 2) := by decide +kernel
theorem dX2_mixed_148 : decode cX2_mixed 148 = .ok (.iaload, 1) := by decide +kernel
theorem dX2_mixed_149 : decode cX2_mixed 149 = .ok (.i2l, 1) := by decide +kernel
theorem dX2_mixed_150 : decode cX2_mixed 150 = .ok (.ladd, 1) := by decide +kernel
theorem dX2_mixed_151 : decode cX2_mixed 151 = .ok (.lstore_n 3, 1) := by decide +kernel
theorem dX2_mixed_152 : decode cX2_mixed 152 = .ok (.iinc 5 1, 3) := by decide +kernel
theorem dX2_mixed_155 : decode cX2_mixed 155 = .ok (.goto (-44), 3) := by decide +kernel
theorem dX2_mixed_158 : decode cX2_mixed 158 = .ok (.aload_n 0, 1) := by decide +kernel
theorem dX2_mixed_159 : decode cX2_mixed 159 = .ok (.getfield 69, 3) := by decide +kernel
theorem dX2_mixed_162 : decode cX2_mixed 162 = .ok (.aload_n 0, 1) := by decide +kernel
theorem dX2_mixed_163 : decode cX2_mixed 163 = .ok (.getfield 62, 3) := by decide +kernel
theorem dX2_mixed_166 : decode cX2_mixed 166 = .ok (.lload_n 3, 1) := by decide +kernel
theorem dX2_mixed_167 : decode cX2_mixed 167 = .ok (.invokevirtual 150, 3) := by decide +kernel
theorem dX2_mixed_170 : decode cX2_mixed 170 = .ok (.invokevirtual 154, 3) := by decide +kernel
theorem dX2_mixed_173 : decode cX2_mixed 173 = .ok (.lreturn, 1) := by decide +kernel
