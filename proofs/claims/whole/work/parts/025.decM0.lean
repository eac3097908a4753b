theorem dX12_in_0 : decode cX12_in 0 = .ok (.lload_n 0, 1) := by decide +kernel
theorem dX12_in_1 : decode cX12_in 1 = .ok (.lload_n 2, 1) := by decide +kernel
theorem dX12_in_2 : decode cX12_in 2 = .ok (.lcmp, 1) := by decide +kernel
theorem dX12_in_3 : decode cX12_in 3 = .ok (.ifCond .lt 14, 3) := by decide +kernel
theorem dX12_in_6 : decode cX12_in 6 = .ok (.lload_n 0, 1) := by decide +kernel
theorem dX12_in_7 : decode cX12_in 7 = .ok (.lload 4, 2) := by decide +kernel
theorem dX12_in_9 : decode cX12_in 9 = .ok (.lcmp, 1) := by decide +kernel
theorem dX12_in_10 : decode cX12_in 10 = .ok (.ifCond .gt 7, 3) := by decide +kernel
theorem dX12_in_13 : decode cX12_in 13 = .ok (.iconst 1, 1) := by decide +kernel
theorem dX12_in_14 : decode cX12_in 14 = .ok (.goto 4, 3) := by decide +kernel
theorem dX12_in_17 : decode cX12_in 17 = .ok (.iconst 0, 1) := by decide +kernel
theorem dX12_in_18 : decode cX12_in 18 = .ok (.ireturn, 1) := by decide +kernel
theorem dX12_init_0 : decode cX12_init 0 = .ok (.aload_n 0, 1) := by decide +kernel
theorem dX12_init_1 : decode cX12_init 1 = .ok (.invokespecial 1, 3) := by decide +kernel
theorem dX12_init_4 : decode cX12_init 4 = .ok (.aload_n 0, 1) := by decide +kernel
theorem dX12_init_5 : decode cX12_init 5 = .ok (.sipush 253, 3) := by decide +kernel
theorem dX12_init_8 : decode cX12_init 8 = .ok (.newarray .int, 2) := by decide +kernel
theorem dX12_init_10 : decode cX12_init 10 = .ok (.putfield 7, 3) := by decide +kernel
theorem dX12_init_13 : decode cX12_init 13 = .ok (.aload_n 0, 1) := by decide +kernel
theorem dX12_init_14 : decode cX12_init 14 = .ok (.sipush 506, 3) := by decide +kernel
theorem dX12_init_17 : decode cX12_init 17 = .ok (.newarray .int, 2) := by decide +kernel
theorem dX12_init_19 : decode cX12_init 19 = .ok (.putfield 13, 3) := by decide +kernel
theorem dX12_init_22 : decode cX12_init 22 = .ok (.aload_n 0, 1) := by decide +kernel
theorem dX12_init_23 : decode cX12_init 23 = .ok (.iconst 2, 1) := by decide +kernel
theorem dX12_init_24 : decode cX12_init 24 = .ok (.newarray .boolean, 2) := by decide +kernel
theorem dX12_init_26 : decode cX12_init 26 = .ok (.putfield 16, 3) := by decide +kernel
theorem dX12_init_29 : decode cX12_init 29 = .ok (.aload_n 0, 1) := by decide +kernel
theorem dX12_init_30 : decode cX12_init 30 = .ok (.sipush 253, 3) := by decide +kernel
theorem dX12_init_33 : decode cX12_init 33 = .ok (.newarray .int, 2) := by decide +kernel
theorem dX12_init_35 : decode cX12_init 35 = .ok (.putfield 20, 3) := by decide +kernel
theorem dX12_init_38 : decode cX12_init 38 = .ok (.aload_n 0, 1) := by decide +kernel
theorem dX12_init_39 : decode cX12_init 39 = .ok (.iconst 3, 1) := by decide +kernel
theorem dX12_init_40 : decode cX12_init 40 = .ok (.newarray .int, 2) := by decide +kernel
theorem dX12_init_42 : decode cX12_init 42 = .ok (.putfield 23, 3) := by decide +kernel
theorem dX12_init_45 : decode cX12_init 45 = .ok (.aload_n 0, 1) := by decide +kernel
theorem dX12_init_46 : decode cX12_init 46 = .ok (.bipush 10, 2) := by decide +kernel
theorem dX12_init_48 : decode cX12_init 48 = .ok (.newarray .int, 2) := by decide +kernel
theorem dX12_init_50 : decode cX12_init 50 = .ok (.putfield 26, 3) := by decide +kernel
theorem dX12_init_53 : decode cX12_init 53 = .ok (.aload_n 0, 1) := by decide +kernel
theorem dX12_init_54 : decode cX12_init 54 = .ok (.iconst 5, 1) := by decide +kernel
theorem dX12_init_55 : decode cX12_init 55 = .ok (.newarray .int, 2) := by decide +kernel
theorem dX12_init_57 : decode cX12_init 57 = .ok (.putfield 29, 3) := by decide +kernel
theorem dX12_init_60 : decode cX12_init 60 = .ok (.aload_n 0, 1) := by decide +kernel
theorem dX12_init_61 : decode cX12_init 61 = .ok (.iconst 5, 1) := by decide +kernel
theorem dX12_init_62 : decode cX12_init 62 = .ok (.newarray .int, 2) := by decide +kernel
theorem dX12_init_64 : decode cX12_init 64 = .ok (.putfield 32, 3) := by decide +kernel
theorem dX12_init_67 : decode cX12_init 67 = .ok (.aload_n 0, 1) := by decide +kernel
theorem dX12_init_68 : decode cX12_init 68 = .ok (.iconst 3, 1) := by decide +kernel
theorem dX12_init_69 : decode cX12_init 69 = .ok (.newarray .int, 2) := by decide +kernel
theorem dX12_init_71 : decode cX12_init 71 = .ok (.putfield 35, 3) := by decide +kernel
theorem dX12_init_74 : decode cX12_init 74 = .ok (.aload_n 0, 1) := by decide +kernel
theorem dX12_init_75 : decode cX12_init 75 = .ok (.sipush 512, 3) := by decide +kernel
theorem dX12_init_78 : decode cX12_init 78 = .ok (.newarray .int, 2) := by decide +kernel
theorem dX12_init_80 : decode cX12_init 80 = .ok (.putfield 38, 3) := by decide +kernel
theorem dX12_init_83 : decode cX12_init 83 = .ok (.aload_n 0, 1) := by decide +kernel
theorem dX12_init_84 : decode cX12_init 84 = .ok (.sipush 200, 3) := by decide +kernel
theorem dX12_init_87 : decode cX12_init 87 = .ok (.newarray .int, 2) := by decide +kernel
theorem dX12_init_89 : decode cX12_init 89 = .ok (.putfield 41, 3) := by decide +kernel
theorem dX12_init_92 : decode cX12_init 92 = .ok (.aload_n 0, 1) := by decide +kernel
theorem dX12_init_93 : decode cX12_init 93 = .ok (.sipush 250, 3) := by decide +kernel
theorem dX12_init_96 : decode cX12_init 96 = .ok (.newarray .int, 2) := by decide +kernel
theorem dX12_init_98 : decode cX12_init 98 = .ok (.putfield 44, 3) := by decide +kernel
theorem dX12_init_101 : decode cX12_init 101 = .ok (.aload_n 0, 1) := by decide +kernel
theorem dX12_init_102 : decode cX12_init 102 = .ok (.lconst 1, 1) := by decide +kernel
theorem dX12_init_103 : decode cX12_init 103 = .ok (.putfield 47, 3) := by decide +kernel
theorem dX12_init_106 : decode cX12_init 106 = .ok (.return_, 1) := by decide +kernel
theorem dX12_refuses_0 : decode cX12_refuses 0 = .ok (.aload_n 0, 1) := by decide +kernel
theorem dX12_refuses_1 : decode cX12_refuses 1 = .ok (.getfield 23, 3) := by decide +kernel
theorem dX12_refuses_4 : decode cX12_refuses 4 = .ok (.iload_n 1, 1) := by decide +kernel
theorem dX12_refuses_5 : decode cX12_refuses 5 = .ok (.dup2, 1) := by decide +kernel
theorem dX12_refuses_6 : decode cX12_refuses 6 = .ok (.iaload, 1) := by decide +kernel
theorem dX12_refuses_7 : decode cX12_refuses 7 = .ok (.aload_n 0, 1) := by decide +kernel
theorem dX12_refuses_8 : decode cX12_refuses 8 = .ok (.getfield 51, 3) := by decide +kernel
theorem dX12_refuses_11 : decode cX12_refuses 11 = .ok (.ifCond .eq 7, 3) := by decide +kernel
theorem dX12_refuses_14 : decode cX12_refuses 14 = .ok (.iconst 0, 1) := by decide +kernel
theorem dX12_refuses_15 : decode cX12_refuses 15 = .ok (.goto 4, 3) := by decide +kernel
theorem dX12_refuses_18 : decode cX12_refuses 18 = .ok (.iconst 1, 1) := by decide +kernel
theorem dX12_refuses_19 : decode cX12_refuses 19 = .ok (.iadd, 1) := by decide +kernel
theorem dX12_refuses_20 : decode cX12_refuses 20 = .ok (.iastore, 1) := by decide +kernel
theorem dX12_refuses_21 : decode cX12_refuses 21 = .ok (.iload_n 2, 1) := by decide +kernel
theorem dX12_refuses_22 : decode cX12_refuses 22 = .ok (.ireturn, 1) := by decide +kernel
theorem dX12_bad_0 : decode cX12_bad 0 = .ok (.aload_n 0, 1) := by decide +kernel
theorem dX12_bad_1 : decode cX12_bad 1 = .ok (.iconst 0, 1) := by decide +kernel
theorem dX12_bad_2 : decode cX12_bad 2 = .ok (.bipush (-2), 2) := by decide +kernel
theorem dX12_bad_4 : decode cX12_bad 4 = .ok (.invokevirtual 55, 3) := by decide +kernel
theorem dX12_bad_7 : decode cX12_bad 7 = .ok (.ireturn, 1) := by decide +kernel
theorem dX12_no_0 : decode cX12_no 0 = .ok (.aload_n 0, 1) := by decide +kernel
theorem dX12_no_1 : decode cX12_no 1 = .ok (.iconst 1, 1) := by decide +kernel
theorem dX12_no_2 : decode cX12_no 2 = .ok (.bipush (-3), 2) := by decide +kernel
theorem dX12_no_4 : decode cX12_no 4 = .ok (.invokevirtual 55, 3) := by decide +kernel
theorem dX12_no_7 : decode cX12_no 7 = .ok (.ireturn, 1) := by decide +kernel
theorem dX12_full_0 : decode cX12_full 0 = .ok (.aload_n 0, 1) := by decide +kernel
theorem dX12_full_1 : decode cX12_full 1 = .ok (.iconst 2, 1) := by decide +kernel
theorem dX12_full_2 : decode cX12_full 2 = .ok (.bipush (-4), 2) := by decide +kernel
theorem dX12_full_4 : decode cX12_full 4 = .ok (.invokevirtual 55, 3) := by decide +kernel
theorem dX12_full_7 : decode cX12_full 7 = .ok (.ireturn, 1) := by decide +kernel
theorem dX12_isPlot_0 : decode cX12_isPlot 0 = .ok (.iload_n 1, 1) := by decide +kernel
theorem dX12_isPlot_1 : decode cX12_isPlot 1 = .ok (.i2l, 1) := by decide +kernel
theorem dX12_isPlot_2 : decode cX12_isPlot 2 = .ok (.lconst 0, 1) := by decide +kernel
theorem dX12_isPlot_3 : decode cX12_isPlot 3 = .ok (.aload_n 0, 1) := by decide +kernel
theorem dX12_isPlot_4 : decode cX12_isPlot 4 = .ok (.getfield 7, 3) := by decide +kernel
theorem dX12_isPlot_7 : decode cX12_isPlot 7 = .ok (.iconst 0, 1) := by decide +kernel
theorem dX12_isPlot_8 : decode cX12_isPlot 8 = .ok (.iaload, 1) := by decide +kernel
theorem dX12_isPlot_9 : decode cX12_isPlot 9 = .ok (.iconst 1, 1) := by decide +kernel
theorem dX12_isPlot_10 : decode cX12_isPlot 10 = .ok (.isub, 1) := by decide +kernel
theorem dX12_isPlot_11 : decode cX12_isPlot 11 = .ok (.i2l, 1) := by decide +kernel
theorem dX12_isPlot_12 : decode cX12_isPlot 12 = .ok (.invokestatic 59, 3) := by decide +kernel
theorem dX12_isPlot_15 : decode cX12_isPlot 15 = .ok (.ireturn, 1) := by decide +kernel
theorem dX12_isShirt_0 : decode cX12_isShirt 0 = .ok (.iload_n 1, 1) := by decide +kernel
theorem dX12_isShirt_1 : decode cX12_isShirt 1 = .ok (.i2l, 1) := by decide +kernel
theorem dX12_isShirt_2 : decode cX12_isShirt 2 = .ok (.lconst 0, 1) := by decide +kernel
theorem dX12_isShirt_3 : decode cX12_isShirt 3 = .ok (.aload_n 0, 1) := by decide +kernel
theorem dX12_isShirt_4 : decode cX12_isShirt 4 = .ok (.getfield 7, 3) := by decide +kernel
theorem dX12_isShirt_7 : decode cX12_isShirt 7 = .ok (.iconst 1, 1) := by decide +kernel
theorem dX12_isShirt_8 : decode cX12_isShirt 8 = .ok (.iaload, 1) := by decide +kernel
theorem dX12_isShirt_9 : decode cX12_isShirt 9 = .ok (.iconst 1, 1) := by decide +kernel
theorem dX12_isShirt_10 : decode cX12_isShirt 10 = .ok (.isub, 1) := by decide +kernel
theorem dX12_isShirt_11 : decode cX12_isShirt 11 = .ok (.i2l, 1) := by decide +kernel
theorem dX12_isShirt_12 : decode cX12_isShirt 12 = .ok (.invokestatic 59, 3) := by decide +kernel
theorem dX12_isShirt_15 : decode cX12_isShirt 15 = .ok (.ireturn, 1) := by decide +kernel
theorem dX12_isNight_0 : decode cX12_isNight 0 = .ok (.aload_n 0, 1) := by decide +kernel
theorem dX12_isNight_1 : decode cX12_isNight 1 = .ok (.iload_n 1, 1) := by decide +kernel
theorem dX12_isNight_2 : decode cX12_isNight 2 = .ok (.invokevirtual 63, 3) := by decide +kernel
theorem dX12_isNight_5 : decode cX12_isNight 5 = .ok (.ifCond .ne 24, 3) := by decide +kernel
theorem dX12_isNight_8 : decode cX12_isNight 8 = .ok (.aload_n 0, 1) := by decide +kernel
theorem dX12_isNight_9 : decode cX12_isNight 9 = .ok (.iload_n 1, 1) := by decide +kernel
theorem dX12_isNight_10 : decode cX12_isNight 10 = .ok (.iconst 3, 1) := by decide +kernel
theorem dX12_isNight_11 : decode cX12_isNight 11 = .ok (.isub, 1) := by decide +kernel
theorem dX12_isNight_12 : decode cX12_isNight 12 = .ok (.invokevirtual 67, 3) := by decide +kernel
theorem dX12_isNight_15 : decode cX12_isNight 15 = .ok (.ifCond .eq 8, 3) := by decide +kernel
theorem dX12_isNight_18 : decode cX12_isNight 18 = .ok (.iload_n 1, 1) := by decide +kernel
theorem dX12_isNight_19 : decode cX12_isNight 19 = .ok (.iconst 3, 1) := by decide +kernel
theorem dX12_isNight_20 : decode cX12_isNight 20 = .ok (.if_icmp .ge 9, 3) := by decide +kernel
theorem dX12_isNight_23 : decode cX12_isNight 23 = .ok (.iload_n 1, 1) := by decide +kernel
theorem dX12_isNight_24 : decode cX12_isNight 24 = .ok (.bipush 7, 2) := by decide +kernel
theorem dX12_isNight_26 : decode cX12_isNight 26 = .ok (.if_icmp .ne 7, 3) := by decide +kernel
theorem dX12_isNight_29 : decode cX12_isNight 29 = .ok (.iconst 1, 1) := by decide +kernel
theorem dX12_isNight_30 : decode cX12_isNight 30 = .ok (.goto 4, 3) := by decide +kernel
theorem dX12_isNight_33 : decode cX12_isNight 33 = .ok (.iconst 0, 1) := by decide +kernel
theorem dX12_isNight_34 : decode cX12_isNight 34 = .ok (.ireturn, 1) := by decide +kernel
theorem dX12_areShirts_0 : decode cX12_areShirts 0 = .ok (.iload_n 1, 1) := by decide +kernel
theorem dX12_areShirts_1 : decode cX12_areShirts 1 = .ok (.i2l, 1) := by decide +kernel
theorem dX12_areShirts_2 : decode cX12_areShirts 2 = .ok (.lconst 0, 1) := by decide +kernel
theorem dX12_areShirts_3 : decode cX12_areShirts 3 = .ok (.iconst 1, 1) := by decide +kernel
theorem dX12_areShirts_4 : decode cX12_areShirts 4 = .ok (.aload_n 0, 1) := by decide +kernel
theorem dX12_areShirts_5 : decode cX12_areShirts 5 = .ok (.getfield 7, 3) := by decide +kernel
theorem dX12_areShirts_8 : decode cX12_areShirts 8 = .ok (.iconst 1, 1) := by decide +kernel
theorem dX12_areShirts_9 : decode cX12_areShirts 9 = .ok (.iaload, 1) := by decide +kernel
theorem dX12_areShirts_10 : decode cX12_areShirts 10 = .ok (.ishl, 1) := by decide +kernel
theorem dX12_areShirts_11 : decode cX12_areShirts 11 = .ok (.iconst 1, 1) := by decide +kernel
theorem dX12_areShirts_12 : decode cX12_areShirts 12 = .ok (.isub, 1) := by decide +kernel
theorem dX12_areShirts_13 : decode cX12_areShirts 13 = .ok (.i2l, 1) := by decide +kernel
theorem dX12_areShirts_14 : decode cX12_areShirts 14 = .ok (.invokestatic 59, 3) := by decide +kernel
theorem dX12_areShirts_17 : decode cX12_areShirts 17 = .ok (.ireturn, 1) := by decide +kernel
theorem dX12_plot_0 : decode cX12_plot 0 = .ok (.iload_n 1, 1) := by decide +kernel
theorem dX12_plot_1 : decode cX12_plot 1 = .ok (.i2l, 1) := by decide +kernel
theorem dX12_plot_2 : decode cX12_plot 2 = .ok (.lconst 0, 1) := by decide +kernel
theorem dX12_plot_3 : decode cX12_plot 3 = .ok (.ldc2_w 70, 3) := by decide +kernel
theorem dX12_plot_6 : decode cX12_plot 6 = .ok (.invokestatic 59, 3) := by decide +kernel
theorem dX12_plot_9 : decode cX12_plot 9 = .ok (.ifCond .eq 15, 3) := by decide +kernel
theorem dX12_plot_12 : decode cX12_plot 12 = .ok (.iload_n 2, 1) := by decide +kernel
theorem dX12_plot_13 : decode cX12_plot 13 = .ok (.i2l, 1) := by decide +kernel
theorem dX12_plot_14 : decode cX12_plot 14 = .ok (.lconst 0, 1) := by decide +kernel
theorem dX12_plot_15 : decode cX12_plot 15 = .ok (.ldc2_w 72, 3) := by decide +kernel
theorem dX12_plot_18 : decode cX12_plot 18 = .ok (.invokestatic 59, 3) := by decide +kernel
theorem dX12_plot_21 : decode cX12_plot 21 = .ok (.ifCond .ne 8, 3) := by decide +kernel
theorem dX12_plot_24 : decode cX12_plot 24 = .ok (.aload_n 0, 1) := by decide +kernel
theorem dX12_plot_25 : decode cX12_plot 25 = .ok (.invokevirtual 74, 3) := by decide +kernel
theorem dX12_plot_28 : decode cX12_plot 28 = .ok (.ireturn, 1) := by decide +kernel
theorem dX12_plot_29 : decode cX12_plot 29 = .ok (.aload_n 0, 1) := by decide +kernel
theorem dX12_plot_30 : decode cX12_plot 30 = .ok (.getfield 7, 3) := by decide +kernel
theorem dX12_plot_33 : decode cX12_plot 33 = .ok (.iconst 0, 1) := by decide +kernel
theorem dX12_plot_34 : decode cX12_plot 34 = .ok (.iaload, 1) := by decide +kernel
theorem dX12_plot_35 : decode cX12_plot 35 = .ok (.iconst 3, 1) := by decide +kernel
theorem dX12_plot_36 : decode cX12_plot 36 = .ok (.if_icmp .ne 8, 3) := by decide +kernel
theorem dX12_plot_39 : decode cX12_plot 39 = .ok (.aload_n 0, 1) := by decide +kernel
theorem dX12_plot_40 : decode cX12_plot 40 = .ok (.invokevirtual 78, 3) := by decide +kernel
theorem dX12_plot_43 : decode cX12_plot 43 = .ok (.ireturn, 1) := by decide +kernel
theorem dX12_plot_44 : decode cX12_plot 44 = .ok (.aload_n 0, 1) := by decide +kernel
theorem dX12_plot_45 : decode cX12_plot 45 = .ok (.getfield 7, 3) := by decide +kernel
theorem dX12_plot_48 : decode cX12_plot 48 = .ok (.iconst 0, 1) := by decide +kernel
theorem dX12_plot_49 : decode cX12_plot 49 = .ok (.iaload, 1) := by decide +kernel
theorem dX12_plot_50 : decode cX12_plot 50 = .ok (.istore_n 3, 1) := by decide +kernel
theorem dX12_plot_51 : decode cX12_plot 51 = .ok (.aload_n 0, 1) := by decide +kernel
theorem dX12_plot_52 : decode cX12_plot 52 = .ok (.getfield 7, 3) := by decide +kernel
theorem dX12_plot_55 : decode cX12_plot 55 = .ok (.bipush 16, 2) := by decide +kernel
theorem dX12_plot_57 : decode cX12_plot 57 = .ok (.iconst 3, 1) := by decide +kernel
theorem dX12_plot_58 : decode cX12_plot 58 = .ok (.iload_n 3, 1) := by decide +kernel
theorem dX12_plot_59 : decode cX12_plot 59 = .ok (.imul, 1) := by decide +kernel
theorem dX12_plot_60 : decode cX12_plot 60 = .ok (.iadd, 1) := by decide +kernel
theorem dX12_plot_61 : decode cX12_plot 61 = .ok (.iload_n 1, 1) := by decide +kernel
theorem dX12_plot_62 : decode cX12_plot 62 = .ok (.iastore, 1) := by decide +kernel
theorem dX12_plot_63 : decode cX12_plot 63 = .ok (.aload_n 0, 1) := by decide +kernel
theorem dX12_plot_64 : decode cX12_plot 64 = .ok (.getfield 7, 3) := by decide +kernel
theorem dX12_plot_67 : decode cX12_plot 67 = .ok (.bipush 16, 2) := by decide +kernel
theorem dX12_plot_69 : decode cX12_plot 69 = .ok (.iconst 3, 1) := by decide +kernel
theorem dX12_plot_70 : decode cX12_plot 70 = .ok (.iload_n 3, 1) := by decide +kernel
theorem dX12_plot_71 : decode cX12_plot 71 = .ok (.imul, 1) := by decide +kernel
theorem dX12_plot_72 : decode cX12_plot 72 = .ok (.iadd, 1) := by decide +kernel
theorem dX12_plot_73 : decode cX12_plot 73 = .ok (.iconst 1, 1) := by decide +kernel
theorem dX12_plot_74 : decode cX12_plot 74 = .ok (.iadd, 1) := by decide +kernel
theorem dX12_plot_75 : decode cX12_plot 75 = .ok (.iload_n 2, 1) := by decide +kernel
theorem dX12_plot_76 : decode cX12_plot 76 = .ok (.iastore, 1) := by decide +kernel
theorem dX12_plot_77 : decode cX12_plot 77 = .ok (.aload_n 0, 1) := by decide +kernel
theorem dX12_plot_78 : decode cX12_plot 78 = .ok (.getfield 7, 3) := by decide +kernel
theorem dX12_plot_81 : decode cX12_plot 81 = .ok (.bipush 16, 2) := by decide +kernel
theorem dX12_plot_83 : decode cX12_plot 83 = .ok (.iconst 3, 1) := by decide +kernel
theorem dX12_plot_84 : decode cX12_plot 84 = .ok (.iload_n 3, 1) := by decide +kernel
theorem dX12_plot_85 : decode cX12_plot 85 = .ok (.imul, 1) := by decide +kernel
theorem dX12_plot_86 : decode cX12_plot 86 = .ok (.iadd, 1) := by decide +kernel
theorem dX12_plot_87 : decode cX12_plot 87 = .ok (.iconst 2, 1) := by decide +kernel
theorem dX12_plot_88 : decode cX12_plot 88 = .ok (.iadd, 1) := by decide +kernel
theorem dX12_plot_89 : decode cX12_plot 89 = .ok (.iconst 0, 1) := by decide +kernel
theorem dX12_plot_90 : decode cX12_plot 90 = .ok (.iastore, 1) := by decide +kernel
theorem dX12_plot_91 : decode cX12_plot 91 = .ok (.aload_n 0, 1) := by decide +kernel
theorem dX12_plot_92 : decode cX12_plot 92 = .ok (.getfield 7, 3) := by decide +kernel
theorem dX12_plot_95 : decode cX12_plot 95 = .ok (.bipush 9, 2) := by decide +kernel
theorem dX12_plot_97 : decode cX12_plot 97 = .ok (.iload_n 3, 1) := by decide +kernel
theorem dX12_plot_98 : decode cX12_plot 98 = .ok (.iadd, 1) := by decide +kernel
theorem dX12_plot_99 : decode cX12_plot 99 = .ok (.iload_n 2, 1) := by decide +kernel
theorem dX12_plot_100 : decode cX12_plot 100 = .ok (.iastore, 1) := by decide +kernel
theorem dX12_plot_101 : decode cX12_plot 101 = .ok (.aload_n 0, 1) := by decide +kernel
theorem dX12_plot_102 : decode cX12_plot 102 = .ok (.getfield 7, 3) := by decide +kernel
theorem dX12_plot_105 : decode cX12_plot 105 = .ok (.iconst 0, 1) := by decide +kernel
theorem dX12_plot_106 : decode cX12_plot 106 = .ok (.dup2, 1) := by decide +kernel
theorem dX12_plot_107 : decode cX12_plot 107 = .ok (.iaload, 1) := by decide +kernel
theorem dX12_plot_108 : decode cX12_plot 108 = .ok (.iconst 1, 1) := by decide +kernel
theorem dX12_plot_109 : decode cX12_plot 109 = .ok (.iadd, 1) := by decide +kernel
theorem dX12_plot_110 : decode cX12_plot 110 = .ok (.iastore, 1) := by decide +kernel
theorem dX12_plot_111 : decode cX12_plot 111 = .ok (.aload_n 0, 1) := by decide +kernel
theorem dX12_plot_112 : decode cX12_plot 112 = .ok (.getfield 7, 3) := by decide +kernel
theorem dX12_plot_115 : decode cX12_plot 115 = .ok (.iconst 2, 1) := by decide +kernel
theorem dX12_plot_116 : decode cX12_plot 116 = .ok (.iconst 0, 1) := by decide +kernel
theorem dX12_plot_117 : decode cX12_plot 117 = .ok (.iastore, 1) := by decide +kernel
theorem dX12_plot_118 : decode cX12_plot 118 = .ok (.iload_n 3, 1) := by decide +kernel
theorem dX12_plot_119 : decode cX12_plot 119 = .ok (.ireturn, 1) := by decide +kernel
theorem dX12_shirt_0 : decode cX12_shirt 0 = .ok (.iload_n 1, 1) := by decide +kernel
theorem dX12_shirt_1 : decode cX12_shirt 1 = .ok (.i2l, 1) := by decide +kernel
theorem dX12_shirt_2 : decode cX12_shirt 2 = .ok (.lconst 1, 1) := by decide +kernel
theorem dX12_shirt_3 : decode cX12_shirt 3 = .ok (.ldc2_w 81, 3) := by decide +kernel
theorem dX12_shirt_6 : decode cX12_shirt 6 = .ok (.invokestatic 59, 3) := by decide +kernel
theorem dX12_shirt_9 : decode cX12_shirt 9 = .ok (.ifCond .ne 8, 3) := by decide +kernel
theorem dX12_shirt_12 : decode cX12_shirt 12 = .ok (.aload_n 0, 1) := by decide +kernel
theorem dX12_shirt_13 : decode cX12_shirt 13 = .ok (.invokevirtual 74, 3) := by decide +kernel
theorem dX12_shirt_16 : decode cX12_shirt 16 = .ok (.ireturn, 1) := by decide +kernel
theorem dX12_shirt_17 : decode cX12_shirt 17 = .ok (.aload_n 0, 1) := by decide +kernel
theorem dX12_shirt_18 : decode cX12_shirt 18 = .ok (.getfield 7, 3) := by decide +kernel
theorem dX12_shirt_21 : decode cX12_shirt 21 = .ok (.iconst 1, 1) := by decide +kernel
theorem dX12_shirt_22 : decode cX12_shirt 22 = .ok (.iaload, 1) := by decide +kernel
theorem dX12_shirt_23 : decode cX12_shirt 23 = .ok (.iconst 4, 1) := by decide +kernel
theorem dX12_shirt_24 : decode cX12_shirt 24 = .ok (.if_icmp .ne 8, 3) := by decide +kernel
theorem dX12_shirt_27 : decode cX12_shirt 27 = .ok (.aload_n 0, 1) := by decide +kernel
theorem dX12_shirt_28 : decode cX12_shirt 28 = .ok (.invokevirtual 78, 3) := by decide +kernel
theorem dX12_shirt_31 : decode cX12_shirt 31 = .ok (.ireturn, 1) := by decide +kernel
theorem dX12_shirt_32 : decode cX12_shirt 32 = .ok (.aload_n 0, 1) := by decide +kernel
theorem dX12_shirt_33 : decode cX12_shirt 33 = .ok (.getfield 7, 3) := by decide +kernel
theorem dX12_shirt_36 : decode cX12_shirt 36 = .ok (.bipush 25, 2) := by decide +kernel
theorem dX12_shirt_38 : decode cX12_shirt 38 = .ok (.aload_n 0, 1) := by decide +kernel
theorem dX12_shirt_39 : decode cX12_shirt 39 = .ok (.getfield 7, 3) := by decide +kernel
theorem dX12_shirt_42 : decode cX12_shirt 42 = .ok (.iconst 1, 1) := by decide +kernel
theorem dX12_shirt_43 : decode cX12_shirt 43 = .ok (.iaload, 1) := by decide +kernel
theorem dX12_shirt_44 : decode cX12_shirt 44 = .ok (.iadd, 1) := by decide +kernel
theorem dX12_shirt_45 : decode cX12_shirt 45 = .ok (.iload_n 1, 1) := by decide +kernel
theorem dX12_shirt_46 : decode cX12_shirt 46 = .ok (.iastore, 1) := by decide +kernel
theorem dX12_shirt_47 : decode cX12_shirt 47 = .ok (.aload_n 0, 1) := by decide +kernel
theorem dX12_shirt_48 : decode cX12_shirt 48 = .ok (.getfield 7, 3) := by decide +kernel
theorem dX12_shirt_51 : decode cX12_shirt 51 = .ok (.bipush 12, 2) := by decide +kernel
theorem dX12_shirt_53 : decode cX12_shirt 53 = .ok (.aload_n 0, 1) := by decide +kernel
theorem dX12_shirt_54 : decode cX12_shirt 54 = .ok (.getfield 7, 3) := by decide +kernel
theorem dX12_shirt_57 : decode cX12_shirt 57 = .ok (.iconst 1, 1) := by decide +kernel
theorem dX12_shirt_58 : decode cX12_shirt 58 = .ok (.iaload, 1) := by decide +kernel
theorem dX12_shirt_59 : decode cX12_shirt 59 = .ok (.iadd, 1) := by decide +kernel
theorem dX12_shirt_60 : decode cX12_shirt 60 = .ok (.iconst 0, 1) := by decide +kernel
theorem dX12_shirt_61 : decode cX12_shirt 61 = .ok (.iastore, 1) := by decide +kernel
theorem dX12_shirt_62 : decode cX12_shirt 62 = .ok (.aload_n 0, 1) := by decide +kernel
theorem dX12_shirt_63 : decode cX12_shirt 63 = .ok (.getfield 7, 3) := by decide +kernel
theorem dX12_shirt_66 : decode cX12_shirt 66 = .ok (.iconst 1, 1) := by decide +kernel
theorem dX12_shirt_67 : decode cX12_shirt 67 = .ok (.dup2, 1) := by decide +kernel
theorem dX12_shirt_68 : decode cX12_shirt 68 = .ok (.iaload, 1) := by decide +kernel
theorem dX12_shirt_69 : decode cX12_shirt 69 = .ok (.iconst 1, 1) := by decide +kernel
theorem dX12_shirt_70 : decode cX12_shirt 70 = .ok (.iadd, 1) := by decide +kernel
theorem dX12_shirt_71 : decode cX12_shirt 71 = .ok (.iastore, 1) := by decide +kernel
theorem dX12_shirt_72 : decode cX12_shirt 72 = .ok (.aload_n 0, 1) := by decide +kernel
theorem dX12_shirt_73 : decode cX12_shirt 73 = .ok (.getfield 7, 3) := by decide +kernel
theorem dX12_shirt_76 : decode cX12_shirt 76 = .ok (.iconst 2, 1) := by decide +kernel
theorem dX12_shirt_77 : decode cX12_shirt 77 = .ok (.iconst 0, 1) := by decide +kernel
theorem dX12_shirt_78 : decode cX12_shirt 78 = .ok (.iastore, 1) := by decide +kernel
theorem dX12_shirt_79 : decode cX12_shirt 79 = .ok (.aload_n 0, 1) := by decide +kernel
theorem dX12_shirt_80 : decode cX12_shirt 80 = .ok (.getfield 7, 3) := by decide +kernel
theorem dX12_shirt_83 : decode cX12_shirt 83 = .ok (.iconst 1, 1) := by decide +kernel
theorem dX12_shirt_84 : decode cX12_shirt 84 = .ok (.iaload, 1) := by decide +kernel
theorem dX12_shirt_85 : decode cX12_shirt 85 = .ok (.iconst 1, 1) := by decide +kernel
theorem dX12_shirt_86 : decode cX12_shirt 86 = .ok (.isub, 1) := by decide +kernel
theorem dX12_shirt_87 : decode cX12_shirt 87 = .ok (.ireturn, 1) := by decide +kernel
theorem dX12_picks_0 : decode cX12_picks 0 = .ok (.iload_n 0, 1) := by decide +kernel
theorem dX12_picks_1 : decode cX12_picks 1 = .ok (.iconst 5, 1) := by decide +kernel
theorem dX12_picks_2 : decode cX12_picks 2 = .ok (.if_icmp .ne 7, 3) := by decide +kernel
theorem dX12_picks_5 : decode cX12_picks 5 = .ok (.iconst 2, 1) := by decide +kernel
theorem dX12_picks_6 : decode cX12_picks 6 = .ok (.goto 4, 3) := by decide +kernel
theorem dX12_picks_9 : decode cX12_picks 9 = .ok (.iconst 4, 1) := by decide +kernel
theorem dX12_picks_10 : decode cX12_picks 10 = .ok (.istore_n 2, 1) := by decide +kernel
theorem dX12_picks_11 : decode cX12_picks 11 = .ok (.iload_n 0, 1) := by decide +kernel
theorem dX12_picks_12 : decode cX12_picks 12 = .ok (.iconst 2, 1) := by decide +kernel
theorem dX12_picks_13 : decode cX12_picks 13 = .ok (.if_icmp .eq 13, 3) := by decide +kernel
theorem dX12_picks_16 : decode cX12_picks 16 = .ok (.iload_n 0, 1) := by decide +kernel
theorem dX12_picks_17 : decode cX12_picks 17 = .ok (.iconst 3, 1) := by decide +kernel
theorem dX12_picks_18 : decode cX12_picks 18 = .ok (.if_icmp .eq 8, 3) := by decide +kernel
theorem dX12_picks_21 : decode cX12_picks 21 = .ok (.iload_n 0, 1) := by decide +kernel
theorem dX12_picks_22 : decode cX12_picks 22 = .ok (.iconst 5, 1) := by decide +kernel
theorem dX12_picks_23 : decode cX12_picks 23 = .ok (.if_icmp .ne 7, 3) := by decide +kernel
theorem dX12_picks_26 : decode cX12_picks 26 = .ok (.iload_n 2, 1) := by decide +kernel
theorem dX12_picks_27 : decode cX12_picks 27 = .ok (.goto 20, 3) := by decide +kernel
theorem dX12_picks_30 : decode cX12_picks 30 = .ok (.iload_n 0, 1) := by decide +kernel
theorem dX12_picks_31 : decode cX12_picks 31 = .ok (.iconst 4, 1) := by decide +kernel
theorem dX12_picks_32 : decode cX12_picks 32 = .ok (.if_icmp .ne 14, 3) := by decide +kernel
theorem dX12_picks_35 : decode cX12_picks 35 = .ok (.iload_n 1, 1) := by decide +kernel
theorem dX12_picks_36 : decode cX12_picks 36 = .ok (.iconst 3, 1) := by decide +kernel
theorem dX12_picks_37 : decode cX12_picks 37 = .ok (.irem, 1) := by decide +kernel
theorem dX12_picks_38 : decode cX12_picks 38 = .ok (.iconst 2, 1) := by decide +kernel
theorem dX12_picks_39 : decode cX12_picks 39 = .ok (.if_icmp .ne 7, 3) := by decide +kernel
theorem dX12_picks_42 : decode cX12_picks 42 = .ok (.iconst 0, 1) := by decide +kernel
theorem dX12_picks_43 : decode cX12_picks 43 = .ok (.goto 4, 3) := by decide +kernel
theorem dX12_picks_46 : decode cX12_picks 46 = .ok (.iconst 3, 1) := by decide +kernel
theorem dX12_picks_47 : decode cX12_picks 47 = .ok (.ireturn, 1) := by decide +kernel
theorem dX12_hurts_0 : decode cX12_hurts 0 = .ok (.iload_n 0, 1) := by decide +kernel
theorem dX12_hurts_1 : decode cX12_hurts 1 = .ok (.iconst 1, 1) := by decide +kernel
theorem dX12_hurts_2 : decode cX12_hurts 2 = .ok (.if_icmp .eq 8, 3) := by decide +kernel
theorem dX12_hurts_5 : decode cX12_hurts 5 = .ok (.iload_n 0, 1) := by decide +kernel
theorem dX12_hurts_6 : decode cX12_hurts 6 = .ok (.iconst 4, 1) := by decide +kernel
theorem dX12_hurts_7 : decode cX12_hurts 7 = .ok (.if_icmp .ne 7, 3) := by decide +kernel
theorem dX12_hurts_10 : decode cX12_hurts 10 = .ok (.iconst 0, 1) := by decide +kernel
theorem dX12_hurts_11 : decode cX12_hurts 11 = .ok (.goto 13, 3) := by decide +kernel
theorem dX12_hurts_14 : decode cX12_hurts 14 = .ok (.iload_n 0, 1) := by decide +kernel
theorem dX12_hurts_15 : decode cX12_hurts 15 = .ok (.iconst 3, 1) := by decide +kernel
theorem dX12_hurts_16 : decode cX12_hurts 16 = .ok (.if_icmp .ne 7, 3) := by decide +kernel
theorem dX12_hurts_19 : decode cX12_hurts 19 = .ok (.iconst 3, 1) := by decide +kernel
theorem dX12_hurts_20 : decode cX12_hurts 20 = .ok (.goto 4, 3) := by decide +kernel
theorem dX12_hurts_23 : decode cX12_hurts 23 = .ok (.iconst 1, 1) := by decide +kernel
theorem dX12_hurts_24 : decode cX12_hurts 24 = .ok (.ireturn, 1) := by decide +kernel
theorem dX12_grows_0 : decode cX12_grows 0 = .ok (.iload_n 0, 1) := by decide +kernel
theorem dX12_grows_1 : decode cX12_grows 1 = .ok (.iconst 1, 1) := by decide +kernel
theorem dX12_grows_2 : decode cX12_grows 2 = .ok (.if_icmp .eq 8, 3) := by decide +kernel
theorem dX12_grows_5 : decode cX12_grows 5 = .ok (.iload_n 0, 1) := by decide +kernel
theorem dX12_grows_6 : decode cX12_grows 6 = .ok (.iconst 4, 1) := by decide +kernel
theorem dX12_grows_7 : decode cX12_grows 7 = .ok (.if_icmp .ne 9, 3) := by decide +kernel
theorem dX12_grows_10 : decode cX12_grows 10 = .ok (.iload_n 1, 1) := by decide +kernel
theorem dX12_grows_11 : decode cX12_grows 11 = .ok (.iconst 2, 1) := by decide +kernel
theorem dX12_grows_12 : decode cX12_grows 12 = .ok (.irem, 1) := by decide +kernel
theorem dX12_grows_13 : decode cX12_grows 13 = .ok (.goto 18, 3) := by decide +kernel
theorem dX12_grows_16 : decode cX12_grows 16 = .ok (.iload_n 0, 1) := by decide +kernel
theorem dX12_grows_17 : decode cX12_grows 17 = .ok (.iconst 3, 1) := by decide +kernel
theorem dX12_grows_18 : decode cX12_grows 18 = .ok (.if_icmp .eq 8, 3) := by decide +kernel
theorem dX12_grows_21 : decode cX12_grows 21 = .ok (.iload_n 0, 1) := by decide +kernel
theorem dX12_grows_22 : decode cX12_grows 22 = .ok (.iconst 5, 1) := by decide +kernel
theorem dX12_grows_23 : decode cX12_grows 23 = .ok (.if_icmp .ne 7, 3) := by decide +kernel
theorem dX12_grows_26 : decode cX12_grows 26 = .ok (.iconst 2, 1) := by decide +kernel
theorem dX12_grows_27 : decode cX12_grows 27 = .ok (.goto 4, 3) := by decide +kernel
theorem dX12_grows_30 : decode cX12_grows 30 = .ok (.iconst 1, 1) := by decide +kernel
theorem dX12_grows_31 : decode cX12_grows 31 = .ok (.ireturn, 1) := by decide +kernel
theorem dX12_lesser_0 : decode cX12_lesser 0 = .ok (.iload_n 0, 1) := by decide +kernel
theorem dX12_lesser_1 : decode cX12_lesser 1 = .ok (.iload_n 1, 1) := by decide +kernel
theorem dX12_lesser_2 : decode cX12_lesser 2 = .ok (.if_icmp .ge 7, 3) := by decide +kernel
theorem dX12_lesser_5 : decode cX12_lesser 5 = .ok (.iload_n 0, 1) := by decide +kernel
theorem dX12_lesser_6 : decode cX12_lesser 6 = .ok (.goto 4, 3) := by decide +kernel
theorem dX12_lesser_9 : decode cX12_lesser 9 = .ok (.iload_n 1, 1) := by decide +kernel
theorem dX12_lesser_10 : decode cX12_lesser 10 = .ok (.ireturn, 1) := by decide +kernel
theorem dX12_asNow_0 : decode cX12_asNow 0 = .ok (.iconst 0, 1) := by decide +kernel
theorem dX12_asNow_1 : decode cX12_asNow 1 = .ok (.istore_n 1, 1) := by decide +kernel
theorem dX12_asNow_2 : decode cX12_asNow 2 = .ok (.iload_n 1, 1) := by decide +kernel
theorem dX12_asNow_3 : decode cX12_asNow 3 = .ok (.bipush 10, 2) := by decide +kernel
theorem dX12_asNow_5 : decode cX12_asNow 5 = .ok (.if_icmp .ge 24, 3) := by decide +kernel
theorem dX12_asNow_8 : decode cX12_asNow 8 = .ok (.aload_n 0, 1) := by decide +kernel
theorem dX12_asNow_9 : decode cX12_asNow 9 = .ok (.getfield 26, 3) := by decide +kernel
theorem dX12_asNow_12 : decode cX12_asNow 12 = .ok (.iload_n 1, 1) := by decide +kernel
theorem dX12_asNow_13 : decode cX12_asNow 13 = .ok (.aload_n 0, 1) := by decide +kernel
theorem dX12_asNow_14 : decode cX12_asNow 14 = .ok (.getfield 7, 3) := by decide +kernel
theorem dX12_asNow_17 : decode cX12_asNow 17 = .ok (.bipush 6, 2) := by decide +kernel
theorem dX12_asNow_19 : decode cX12_asNow 19 = .ok (.iload_n 1, 1) := by decide +kernel
theorem dX12_asNow_20 : decode cX12_asNow 20 = .ok (.iadd, 1) := by decide +kernel
theorem dX12_asNow_21 : decode cX12_asNow 21 = .ok (.iaload, 1) := by decide +kernel
theorem dX12_asNow_22 : decode cX12_asNow 22 = .ok (.iastore, 1) := by decide +kernel
theorem dX12_asNow_23 : decode cX12_asNow 23 = .ok (.iinc 1 1, 3) := by decide +kernel
theorem dX12_asNow_26 : decode cX12_asNow 26 = .ok (.goto (-24), 3) := by decide +kernel
theorem dX12_asNow_29 : decode cX12_asNow 29 = .ok (.return_, 1) := by decide +kernel
theorem dX12_goes_0 : decode cX12_goes 0 = .ok (.aload_n 0, 1) := by decide +kernel
theorem dX12_goes_1 : decode cX12_goes 1 = .ok (.getfield 26, 3) := by decide +kernel
theorem dX12_goes_4 : decode cX12_goes 4 = .ok (.iconst 0, 1) := by decide +kernel
theorem dX12_goes_5 : decode cX12_goes 5 = .ok (.iaload, 1) := by decide +kernel
theorem dX12_goes_6 : decode cX12_goes 6 = .ok (.istore_n 2, 1) := by decide +kernel
theorem dX12_goes_7 : decode cX12_goes 7 = .ok (.iconst 0, 1) := by decide +kernel
theorem dX12_goes_8 : decode cX12_goes 8 = .ok (.istore_n 3, 1) := by decide +kernel
theorem dX12_goes_9 : decode cX12_goes 9 = .ok (.iload_n 1, 1) := by decide +kernel
theorem dX12_goes_10 : decode cX12_goes 10 = .ok (.bipush 7, 2) := by decide +kernel
theorem dX12_goes_12 : decode cX12_goes 12 = .ok (.if_icmp .ne 41, 3) := by decide +kernel
theorem dX12_goes_15 : decode cX12_goes 15 = .ok (.aload_n 0, 1) := by decide +kernel
theorem dX12_goes_16 : decode cX12_goes 16 = .ok (.getfield 26, 3) := by decide +kernel
theorem dX12_goes_19 : decode cX12_goes 19 = .ok (.iconst 2, 1) := by decide +kernel
theorem dX12_goes_20 : decode cX12_goes 20 = .ok (.aload_n 0, 1) := by decide +kernel
theorem dX12_goes_21 : decode cX12_goes 21 = .ok (.getfield 26, 3) := by decide +kernel
theorem dX12_goes_24 : decode cX12_goes 24 = .ok (.iconst 2, 1) := by decide +kernel
theorem dX12_goes_25 : decode cX12_goes 25 = .ok (.iaload, 1) := by decide +kernel
theorem dX12_goes_26 : decode cX12_goes 26 = .ok (.iconst 2, 1) := by decide +kernel
theorem dX12_goes_27 : decode cX12_goes 27 = .ok (.if_icmp .le 14, 3) := by decide +kernel
theorem dX12_goes_30 : decode cX12_goes 30 = .ok (.aload_n 0, 1) := by decide +kernel
theorem dX12_goes_31 : decode cX12_goes 31 = .ok (.getfield 26, 3) := by decide +kernel
theorem dX12_goes_34 : decode cX12_goes 34 = .ok (.iconst 2, 1) := by decide +kernel
theorem dX12_goes_35 : decode cX12_goes 35 = .ok (.iaload, 1) := by decide +kernel
theorem dX12_goes_36 : decode cX12_goes 36 = .ok (.iconst 2, 1) := by decide +kernel
theorem dX12_goes_37 : decode cX12_goes 37 = .ok (.isub, 1) := by decide +kernel
theorem dX12_goes_38 : decode cX12_goes 38 = .ok (.goto 4, 3) := by decide +kernel
theorem dX12_goes_41 : decode cX12_goes 41 = .ok (.iconst 0, 1) := by decide +kernel
theorem dX12_goes_42 : decode cX12_goes 42 = .ok (.iastore, 1) := by decide +kernel
theorem dX12_goes_43 : decode cX12_goes 43 = .ok (.aload_n 0, 1) := by decide +kernel
theorem dX12_goes_44 : decode cX12_goes 44 = .ok (.getfield 26, 3) := by decide +kernel
theorem dX12_goes_47 : decode cX12_goes 47 = .ok (.iconst 2, 1) := by decide +kernel
theorem dX12_goes_48 : decode cX12_goes 48 = .ok (.iaload, 1) := by decide +kernel
theorem dX12_goes_49 : decode cX12_goes 49 = .ok (.istore_n 3, 1) := by decide +kernel
theorem dX12_goes_50 : decode cX12_goes 50 = .ok (.goto 172, 3) := by decide +kernel
theorem dX12_goes_53 : decode cX12_goes 53 = .ok (.iload_n 1, 1) := by decide +kernel
theorem dX12_goes_54 : decode cX12_goes 54 = .ok (.iconst 3, 1) := by decide +kernel
theorem dX12_goes_55 : decode cX12_goes 55 = .ok (.if_icmp .ge 94, 3) := by decide +kernel
theorem dX12_goes_58 : decode cX12_goes 58 = .ok (.aload_n 0, 1) := by decide +kernel
theorem dX12_goes_59 : decode cX12_goes 59 = .ok (.getfield 7, 3) := by decide +kernel
theorem dX12_goes_62 : decode cX12_goes 62 = .ok (.bipush 16, 2) := by decide +kernel
theorem dX12_goes_64 : decode cX12_goes 64 = .ok (.iconst 3, 1) := by decide +kernel
theorem dX12_goes_65 : decode cX12_goes 65 = .ok (.iload_n 1, 1) := by decide +kernel
theorem dX12_goes_66 : decode cX12_goes 66 = .ok (.imul, 1) := by decide +kernel
theorem dX12_goes_67 : decode cX12_goes 67 = .ok (.iadd, 1) := by decide +kernel
theorem dX12_goes_68 : decode cX12_goes 68 = .ok (.iaload, 1) := by decide +kernel
theorem dX12_goes_69 : decode cX12_goes 69 = .ok (.istore 4, 2) := by decide +kernel
theorem dX12_goes_71 : decode cX12_goes 71 = .ok (.iload 4, 2) := by decide +kernel
theorem dX12_goes_73 : decode cX12_goes 73 = .ok (.iload_n 2, 1) := by decide +kernel
theorem dX12_goes_74 : decode cX12_goes 74 = .ok (.invokestatic 83, 3) := by decide +kernel
theorem dX12_goes_77 : decode cX12_goes 77 = .ok (.aload_n 0, 1) := by decide +kernel
theorem dX12_goes_78 : decode cX12_goes 78 = .ok (.getfield 26, 3) := by decide +kernel
theorem dX12_goes_81 : decode cX12_goes 81 = .ok (.iconst 3, 1) := by decide +kernel
theorem dX12_goes_82 : decode cX12_goes 82 = .ok (.iload_n 1, 1) := by decide +kernel
theorem dX12_goes_83 : decode cX12_goes 83 = .ok (.iadd, 1) := by decide +kernel
theorem dX12_goes_84 : decode cX12_goes 84 = .ok (.iaload, 1) := by decide +kernel
theorem dX12_goes_85 : decode cX12_goes 85 = .ok (.invokestatic 86, 3) := by decide +kernel
theorem dX12_goes_88 : decode cX12_goes 88 = .ok (.bipush 30, 2) := by decide +kernel
theorem dX12_goes_90 : decode cX12_goes 90 = .ok (.aload_n 0, 1) := by decide +kernel
theorem dX12_goes_91 : decode cX12_goes 91 = .ok (.getfield 26, 3) := by decide +kernel
theorem dX12_goes_94 : decode cX12_goes 94 = .ok (.iconst 1, 1) := by decide +kernel
theorem dX12_goes_95 : decode cX12_goes 95 = .ok (.iaload, 1) := by decide +kernel
theorem dX12_goes_96 : decode cX12_goes 96 = .ok (.isub, 1) := by decide +kernel
theorem dX12_goes_97 : decode cX12_goes 97 = .ok (.invokestatic 86, 3) := by decide +kernel
theorem dX12_goes_100 : decode cX12_goes 100 = .ok (.istore_n 3, 1) := by decide +kernel
theorem dX12_goes_101 : decode cX12_goes 101 = .ok (.aload_n 0, 1) := by decide +kernel
theorem dX12_goes_102 : decode cX12_goes 102 = .ok (.getfield 26, 3) := by decide +kernel
theorem dX12_goes_105 : decode cX12_goes 105 = .ok (.iconst 3, 1) := by decide +kernel
theorem dX12_goes_106 : decode cX12_goes 106 = .ok (.iload_n 1, 1) := by decide +kernel
theorem dX12_goes_107 : decode cX12_goes 107 = .ok (.iadd, 1) := by decide +kernel
theorem dX12_goes_108 : decode cX12_goes 108 = .ok (.dup2, 1) := by decide +kernel
theorem dX12_goes_109 : decode cX12_goes 109 = .ok (.iaload, 1) := by decide +kernel
theorem dX12_goes_110 : decode cX12_goes 110 = .ok (.iload_n 3, 1) := by decide +kernel
theorem dX12_goes_111 : decode cX12_goes 111 = .ok (.isub, 1) := by decide +kernel
theorem dX12_goes_112 : decode cX12_goes 112 = .ok (.iastore, 1) := by decide +kernel
theorem dX12_goes_113 : decode cX12_goes 113 = .ok (.aload_n 0, 1) := by decide +kernel
theorem dX12_goes_114 : decode cX12_goes 114 = .ok (.getfield 26, 3) := by decide +kernel
theorem dX12_goes_117 : decode cX12_goes 117 = .ok (.iconst 1, 1) := by decide +kernel
theorem dX12_goes_118 : decode cX12_goes 118 = .ok (.dup2, 1) := by decide +kernel
theorem dX12_goes_119 : decode cX12_goes 119 = .ok (.iaload, 1) := by decide +kernel
theorem dX12_goes_120 : decode cX12_goes 120 = .ok (.iload_n 3, 1) := by decide +kernel
theorem dX12_goes_121 : decode cX12_goes 121 = .ok (.iadd, 1) := by decide +kernel
theorem dX12_goes_122 : decode cX12_goes 122 = .ok (.iastore, 1) := by decide +kernel
theorem dX12_goes_123 : decode cX12_goes 123 = .ok (.aload_n 0, 1) := by decide +kernel
theorem dX12_goes_124 : decode cX12_goes 124 = .ok (.getfield 26, 3) := by decide +kernel
theorem dX12_goes_127 : decode cX12_goes 127 = .ok (.iconst 2, 1) := by decide +kernel
theorem dX12_goes_128 : decode cX12_goes 128 = .ok (.bipush 9, 2) := by decide +kernel
theorem dX12_goes_130 : decode cX12_goes 130 = .ok (.aload_n 0, 1) := by decide +kernel
theorem dX12_goes_131 : decode cX12_goes 131 = .ok (.getfield 26, 3) := by decide +kernel
theorem dX12_goes_134 : decode cX12_goes 134 = .ok (.iconst 2, 1) := by decide +kernel
theorem dX12_goes_135 : decode cX12_goes 135 = .ok (.iaload, 1) := by decide +kernel
theorem dX12_goes_136 : decode cX12_goes 136 = .ok (.iload 4, 2) := by decide +kernel
theorem dX12_goes_138 : decode cX12_goes 138 = .ok (.invokestatic 89, 3) := by decide +kernel
theorem dX12_goes_141 : decode cX12_goes 141 = .ok (.iadd, 1) := by decide +kernel
theorem dX12_goes_142 : decode cX12_goes 142 = .ok (.invokestatic 86, 3) := by decide +kernel
theorem dX12_goes_145 : decode cX12_goes 145 = .ok (.iastore, 1) := by decide +kernel
theorem dX12_goes_146 : decode cX12_goes 146 = .ok (.goto 76, 3) := by decide +kernel
theorem dX12_goes_149 : decode cX12_goes 149 = .ok (.iload_n 1, 1) := by decide +kernel
theorem dX12_goes_150 : decode cX12_goes 150 = .ok (.iconst 3, 1) := by decide +kernel
theorem dX12_goes_151 : decode cX12_goes 151 = .ok (.isub, 1) := by decide +kernel
theorem dX12_goes_152 : decode cX12_goes 152 = .ok (.istore 4, 2) := by decide +kernel
theorem dX12_goes_154 : decode cX12_goes 154 = .ok (.iconst 3, 1) := by decide +kernel
theorem dX12_goes_155 : decode cX12_goes 155 = .ok (.aload_n 0, 1) := by decide +kernel
theorem dX12_goes_156 : decode cX12_goes 156 = .ok (.getfield 26, 3) := by decide +kernel
theorem dX12_goes_159 : decode cX12_goes 159 = .ok (.iconst 2, 1) := by decide +kernel
theorem dX12_goes_160 : decode cX12_goes 160 = .ok (.iaload, 1) := by decide +kernel
theorem dX12_goes_161 : decode cX12_goes 161 = .ok (.iconst 3, 1) := by decide +kernel
theorem dX12_goes_162 : decode cX12_goes 162 = .ok (.idiv, 1) := by decide +kernel
theorem dX12_goes_163 : decode cX12_goes 163 = .ok (.isub, 1) := by decide +kernel
theorem dX12_goes_164 : decode cX12_goes 164 = .ok (.aload_n 0, 1) := by decide +kernel
theorem dX12_goes_165 : decode cX12_goes 165 = .ok (.getfield 7, 3) := by decide +kernel
theorem dX12_goes_168 : decode cX12_goes 168 = .ok (.bipush 25, 2) := by decide +kernel
theorem dX12_goes_170 : decode cX12_goes 170 = .ok (.iload 4, 2) := by decide +kernel
theorem dX12_goes_172 : decode cX12_goes 172 = .ok (.iadd, 1) := by decide +kernel
theorem dX12_goes_173 : decode cX12_goes 173 = .ok (.iaload, 1) := by decide +kernel
theorem dX12_goes_174 : decode cX12_goes 174 = .ok (.aload_n 0, 1) := by decide +kernel
theorem dX12_goes_175 : decode cX12_goes 175 = .ok (.getfield 26, 3) := by decide +kernel
theorem dX12_goes_178 : decode cX12_goes 178 = .ok (.bipush 6, 2) := by decide +kernel
theorem dX12_goes_180 : decode cX12_goes 180 = .ok (.iload 4, 2) := by decide +kernel
theorem dX12_goes_182 : decode cX12_goes 182 = .ok (.iadd, 1) := by decide +kernel
theorem dX12_goes_183 : decode cX12_goes 183 = .ok (.iaload, 1) := by decide +kernel
theorem dX12_goes_184 : decode cX12_goes 184 = .ok (.isub, 1) := by decide +kernel
theorem dX12_goes_185 : decode cX12_goes 185 = .ok (.invokestatic 86, 3) := by decide +kernel
theorem dX12_goes_188 : decode cX12_goes 188 = .ok (.aload_n 0, 1) := by decide +kernel
theorem dX12_goes_189 : decode cX12_goes 189 = .ok (.getfield 26, 3) := by decide +kernel
theorem dX12_goes_192 : decode cX12_goes 192 = .ok (.iconst 1, 1) := by decide +kernel
theorem dX12_goes_193 : decode cX12_goes 193 = .ok (.iaload, 1) := by decide +kernel
theorem dX12_goes_194 : decode cX12_goes 194 = .ok (.invokestatic 86, 3) := by decide +kernel
theorem dX12_goes_197 : decode cX12_goes 197 = .ok (.istore_n 3, 1) := by decide +kernel
theorem dX12_goes_198 : decode cX12_goes 198 = .ok (.aload_n 0, 1) := by decide +kernel
theorem dX12_goes_199 : decode cX12_goes 199 = .ok (.getfield 26, 3) := by decide +kernel
theorem dX12_goes_202 : decode cX12_goes 202 = .ok (.bipush 6, 2) := by decide +kernel
theorem dX12_goes_204 : decode cX12_goes 204 = .ok (.iload 4, 2) := by decide +kernel
theorem dX12_goes_206 : decode cX12_goes 206 = .ok (.iadd, 1) := by decide +kernel
theorem dX12_goes_207 : decode cX12_goes 207 = .ok (.dup2, 1) := by decide +kernel
theorem dX12_goes_208 : decode cX12_goes 208 = .ok (.iaload, 1) := by decide +kernel
theorem dX12_goes_209 : decode cX12_goes 209 = .ok (.iload_n 3, 1) := by decide +kernel
theorem dX12_goes_210 : decode cX12_goes 210 = .ok (.iadd, 1) := by decide +kernel
theorem dX12_goes_211 : decode cX12_goes 211 = .ok (.iastore, 1) := by decide +kernel
theorem dX12_goes_212 : decode cX12_goes 212 = .ok (.aload_n 0, 1) := by decide +kernel
theorem dX12_goes_213 : decode cX12_goes 213 = .ok (.getfield 26, 3) := by decide +kernel
theorem dX12_goes_216 : decode cX12_goes 216 = .ok (.iconst 1, 1) := by decide +kernel
theorem dX12_goes_217 : decode cX12_goes 217 = .ok (.dup2, 1) := by decide +kernel
theorem dX12_goes_218 : decode cX12_goes 218 = .ok (.iaload, 1) := by decide +kernel
theorem dX12_goes_219 : decode cX12_goes 219 = .ok (.iload_n 3, 1) := by decide +kernel
theorem dX12_goes_220 : decode cX12_goes 220 = .ok (.isub, 1) := by decide +kernel
theorem dX12_goes_221 : decode cX12_goes 221 = .ok (.iastore, 1) := by decide +kernel
theorem dX12_goes_222 : decode cX12_goes 222 = .ok (.iconst 0, 1) := by decide +kernel
theorem dX12_goes_223 : decode cX12_goes 223 = .ok (.istore 4, 2) := by decide +kernel
theorem dX12_goes_225 : decode cX12_goes 225 = .ok (.iload 4, 2) := by decide +kernel
theorem dX12_goes_227 : decode cX12_goes 227 = .ok (.aload_n 0, 1) := by decide +kernel
theorem dX12_goes_228 : decode cX12_goes 228 = .ok (.getfield 7, 3) := by decide +kernel
theorem dX12_goes_231 : decode cX12_goes 231 = .ok (.iconst 0, 1) := by decide +kernel
theorem dX12_goes_232 : decode cX12_goes 232 = .ok (.iaload, 1) := by decide +kernel
theorem dX12_goes_233 : decode cX12_goes 233 = .ok (.if_icmp .ge 61, 3) := by decide +kernel
theorem dX12_goes_236 : decode cX12_goes 236 = .ok (.aload_n 0, 1) := by decide +kernel
theorem dX12_goes_237 : decode cX12_goes 237 = .ok (.getfield 26, 3) := by decide +kernel
theorem dX12_goes_240 : decode cX12_goes 240 = .ok (.iconst 3, 1) := by decide +kernel
theorem dX12_goes_241 : decode cX12_goes 241 = .ok (.iload 4, 2) := by decide +kernel
theorem dX12_goes_243 : decode cX12_goes 243 = .ok (.iadd, 1) := by decide +kernel
theorem dX12_goes_244 : decode cX12_goes 244 = .ok (.aload_n 0, 1) := by decide +kernel
theorem dX12_goes_245 : decode cX12_goes 245 = .ok (.getfield 7, 3) := by decide +kernel
theorem dX12_goes_248 : decode cX12_goes 248 = .ok (.bipush 16, 2) := by decide +kernel
theorem dX12_goes_250 : decode cX12_goes 250 = .ok (.iconst 3, 1) := by decide +kernel
theorem dX12_goes_251 : decode cX12_goes 251 = .ok (.iload 4, 2) := by decide +kernel
theorem dX12_goes_253 : decode cX12_goes 253 = .ok (.imul, 1) := by decide +kernel
theorem dX12_goes_254 : decode cX12_goes 254 = .ok (.iadd, 1) := by decide +kernel
theorem dX12_goes_255 : decode cX12_goes 255 = .ok (.iconst 1, 1) := by decide +kernel
theorem dX12_goes_256 : decode cX12_goes 256 = .ok (.iadd, 1) := by decide +kernel
theorem dX12_goes_257 : decode cX12_goes 257 = .ok (.iaload, 1) := by decide +kernel
theorem dX12_goes_258 : decode cX12_goes 258 = .ok (.aload_n 0, 1) := by decide +kernel
theorem dX12_goes_259 : decode cX12_goes 259 = .ok (.getfield 26, 3) := by decide +kernel
theorem dX12_goes_262 : decode cX12_goes 262 = .ok (.iconst 3, 1) := by decide +kernel
theorem dX12_goes_263 : decode cX12_goes 263 = .ok (.iload 4, 2) := by decide +kernel
theorem dX12_goes_265 : decode cX12_goes 265 = .ok (.iadd, 1) := by decide +kernel
theorem dX12_goes_266 : decode cX12_goes 266 = .ok (.iaload, 1) := by decide +kernel
theorem dX12_goes_267 : decode cX12_goes 267 = .ok (.aload_n 0, 1) := by decide +kernel
theorem dX12_goes_268 : decode cX12_goes 268 = .ok (.getfield 7, 3) := by decide +kernel
theorem dX12_goes_271 : decode cX12_goes 271 = .ok (.bipush 16, 2) := by decide +kernel
theorem dX12_goes_273 : decode cX12_goes 273 = .ok (.iconst 3, 1) := by decide +kernel
theorem dX12_goes_274 : decode cX12_goes 274 = .ok (.iload 4, 2) := by decide +kernel
theorem dX12_goes_276 : decode cX12_goes 276 = .ok (.imul, 1) := by decide +kernel
theorem dX12_goes_277 : decode cX12_goes 277 = .ok (.iadd, 1) := by decide +kernel
theorem dX12_goes_278 : decode cX12_goes 278 = .ok (.iaload, 1) := by decide +kernel
theorem dX12_goes_279 : decode cX12_goes 279 = .ok (.iload_n 2, 1) := by decide +kernel
theorem dX12_goes_280 : decode cX12_goes 280 = .ok (.invokestatic 93, 3) := by decide +kernel
theorem dX12_goes_283 : decode cX12_goes 283 = .ok (.iadd, 1) := by decide +kernel
theorem dX12_goes_284 : decode cX12_goes 284 = .ok (.invokestatic 86, 3) := by decide +kernel
theorem dX12_goes_287 : decode cX12_goes 287 = .ok (.iastore, 1) := by decide +kernel
theorem dX12_goes_288 : decode cX12_goes 288 = .ok (.iinc 4 1, 3) := by decide +kernel
theorem dX12_goes_291 : decode cX12_goes 291 = .ok (.goto (-66), 3) := by decide +kernel
theorem dX12_goes_294 : decode cX12_goes 294 = .ok (.aload_n 0, 1) := by decide +kernel
theorem dX12_goes_295 : decode cX12_goes 295 = .ok (.getfield 26, 3) := by decide +kernel
theorem dX12_goes_298 : decode cX12_goes 298 = .ok (.iconst 0, 1) := by decide +kernel
theorem dX12_goes_299 : decode cX12_goes 299 = .ok (.dup2, 1) := by decide +kernel
theorem dX12_goes_300 : decode cX12_goes 300 = .ok (.iaload, 1) := by decide +kernel
theorem dX12_goes_301 : decode cX12_goes 301 = .ok (.iconst 1, 1) := by decide +kernel
theorem dX12_goes_302 : decode cX12_goes 302 = .ok (.iadd, 1) := by decide +kernel
theorem dX12_goes_303 : decode cX12_goes 303 = .ok (.iastore, 1) := by decide +kernel
theorem dX12_goes_304 : decode cX12_goes 304 = .ok (.iload_n 3, 1) := by decide +kernel
theorem dX12_goes_305 : decode cX12_goes 305 = .ok (.ireturn, 1) := by decide +kernel
theorem dX12_night_0 : decode cX12_night 0 = .ok (.aload_n 0, 1) := by decide +kernel
theorem dX12_night_1 : decode cX12_night 1 = .ok (.iload_n 1, 1) := by decide +kernel
theorem dX12_night_2 : decode cX12_night 2 = .ok (.invokevirtual 96, 3) := by decide +kernel
theorem dX12_night_5 : decode cX12_night 5 = .ok (.ifCond .ne 8, 3) := by decide +kernel
theorem dX12_night_8 : decode cX12_night 8 = .ok (.aload_n 0, 1) := by decide +kernel
theorem dX12_night_9 : decode cX12_night 9 = .ok (.invokevirtual 74, 3) := by decide +kernel
theorem dX12_night_12 : decode cX12_night 12 = .ok (.ireturn, 1) := by decide +kernel
theorem dX12_night_13 : decode cX12_night 13 = .ok (.aload_n 0, 1) := by decide +kernel
theorem dX12_night_14 : decode cX12_night 14 = .ok (.getfield 7, 3) := by decide +kernel
theorem dX12_night_17 : decode cX12_night 17 = .ok (.iconst 2, 1) := by decide +kernel
theorem dX12_night_18 : decode cX12_night 18 = .ok (.iaload, 1) := by decide +kernel
theorem dX12_night_19 : decode cX12_night 19 = .ok (.bipush 12, 2) := by decide +kernel
theorem dX12_night_21 : decode cX12_night 21 = .ok (.if_icmp .ne 50, 3) := by decide +kernel
theorem dX12_night_24 : decode cX12_night 24 = .ok (.iconst 0, 1) := by decide +kernel
theorem dX12_night_25 : decode cX12_night 25 = .ok (.istore_n 2, 1) := by decide +kernel
theorem dX12_night_26 : decode cX12_night 26 = .ok (.iload_n 2, 1) := by decide +kernel
theorem dX12_night_27 : decode cX12_night 27 = .ok (.bipush 110, 2) := by decide +kernel
theorem dX12_night_29 : decode cX12_night 29 = .ok (.if_icmp .ge 32, 3) := by decide +kernel
theorem dX12_night_32 : decode cX12_night 32 = .ok (.aload_n 0, 1) := by decide +kernel
theorem dX12_night_33 : decode cX12_night 33 = .ok (.getfield 7, 3) := by decide +kernel
theorem dX12_night_36 : decode cX12_night 36 = .ok (.sipush 133, 3) := by decide +kernel
theorem dX12_night_39 : decode cX12_night 39 = .ok (.iload_n 2, 1) := by decide +kernel
theorem dX12_night_40 : decode cX12_night 40 = .ok (.iadd, 1) := by decide +kernel
theorem dX12_night_41 : decode cX12_night 41 = .ok (.aload_n 0, 1) := by decide +kernel
theorem dX12_night_42 : decode cX12_night 42 = .ok (.getfield 7, 3) := by decide +kernel
theorem dX12_night_45 : decode cX12_night 45 = .ok (.sipush 133, 3) := by decide +kernel
theorem dX12_night_48 : decode cX12_night 48 = .ok (.iload_n 2, 1) := by decide +kernel
theorem dX12_night_49 : decode cX12_night 49 = .ok (.iadd, 1) := by decide +kernel
theorem dX12_night_50 : decode cX12_night 50 = .ok (.bipush 10, 2) := by decide +kernel
theorem dX12_night_52 : decode cX12_night 52 = .ok (.iadd, 1) := by decide +kernel
theorem dX12_night_53 : decode cX12_night 53 = .ok (.iaload, 1) := by decide +kernel
theorem dX12_night_54 : decode cX12_night 54 = .ok (.iastore, 1) := by decide +kernel
theorem dX12_night_55 : decode cX12_night 55 = .ok (.iinc 2 1, 3) := by decide +kernel
theorem dX12_night_58 : decode cX12_night 58 = .ok (.goto (-32), 3) := by decide +kernel
theorem dX12_night_61 : decode cX12_night 61 = .ok (.aload_n 0, 1) := by decide +kernel
theorem dX12_night_62 : decode cX12_night 62 = .ok (.getfield 7, 3) := by decide +kernel
theorem dX12_night_65 : decode cX12_night 65 = .ok (.iconst 2, 1) := by decide +kernel
theorem dX12_night_66 : decode cX12_night 66 = .ok (.dup2, 1) := by decide +kernel
theorem dX12_night_67 : decode cX12_night 67 = .ok (.iaload, 1) := by decide +kernel
theorem dX12_night_68 : decode cX12_night 68 = .ok (.iconst 1, 1) := by decide +kernel
theorem dX12_night_69 : decode cX12_night 69 = .ok (.isub, 1) := by decide +kernel
theorem dX12_night_70 : decode cX12_night 70 = .ok (.iastore, 1) := by decide +kernel
theorem dX12_night_71 : decode cX12_night 71 = .ok (.iconst 0, 1) := by decide +kernel
theorem dX12_night_72 : decode cX12_night 72 = .ok (.istore_n 2, 1) := by decide +kernel
theorem dX12_night_73 : decode cX12_night 73 = .ok (.iload_n 2, 1) := by decide +kernel
theorem dX12_night_74 : decode cX12_night 74 = .ok (.bipush 10, 2) := by decide +kernel
theorem dX12_night_76 : decode cX12_night 76 = .ok (.if_icmp .ge 38, 3) := by decide +kernel
theorem dX12_night_79 : decode cX12_night 79 = .ok (.aload_n 0, 1) := by decide +kernel
theorem dX12_night_80 : decode cX12_night 80 = .ok (.getfield 7, 3) := by decide +kernel
theorem dX12_night_83 : decode cX12_night 83 = .ok (.sipush 133, 3) := by decide +kernel
theorem dX12_night_86 : decode cX12_night 86 = .ok (.bipush 10, 2) := by decide +kernel
theorem dX12_night_88 : decode cX12_night 88 = .ok (.aload_n 0, 1) := by decide +kernel
theorem dX12_night_89 : decode cX12_night 89 = .ok (.getfield 7, 3) := by decide +kernel
theorem dX12_night_92 : decode cX12_night 92 = .ok (.iconst 2, 1) := by decide +kernel
theorem dX12_night_93 : decode cX12_night 93 = .ok (.iaload, 1) := by decide +kernel
theorem dX12_night_94 : decode cX12_night 94 = .ok (.imul, 1) := by decide +kernel
theorem dX12_night_95 : decode cX12_night 95 = .ok (.iadd, 1) := by decide +kernel
theorem dX12_night_96 : decode cX12_night 96 = .ok (.iload_n 2, 1) := by decide +kernel
theorem dX12_night_97 : decode cX12_night 97 = .ok (.iadd, 1) := by decide +kernel
theorem dX12_night_98 : decode cX12_night 98 = .ok (.aload_n 0, 1) := by decide +kernel
theorem dX12_night_99 : decode cX12_night 99 = .ok (.getfield 7, 3) := by decide +kernel
theorem dX12_night_102 : decode cX12_night 102 = .ok (.bipush 6, 2) := by decide +kernel
theorem dX12_night_104 : decode cX12_night 104 = .ok (.iload_n 2, 1) := by decide +kernel
theorem dX12_night_105 : decode cX12_night 105 = .ok (.iadd, 1) := by decide +kernel
theorem dX12_night_106 : decode cX12_night 106 = .ok (.iaload, 1) := by decide +kernel
theorem dX12_night_107 : decode cX12_night 107 = .ok (.iastore, 1) := by decide +kernel
theorem dX12_night_108 : decode cX12_night 108 = .ok (.iinc 2 1, 3) := by decide +kernel
theorem dX12_night_111 : decode cX12_night 111 = .ok (.goto (-38), 3) := by decide +kernel
theorem dX12_night_114 : decode cX12_night 114 = .ok (.aload_n 0, 1) := by decide +kernel
theorem dX12_night_115 : decode cX12_night 115 = .ok (.getfield 7, 3) := by decide +kernel
theorem dX12_night_118 : decode cX12_night 118 = .ok (.iconst 2, 1) := by decide +kernel
theorem dX12_night_119 : decode cX12_night 119 = .ok (.dup2, 1) := by decide +kernel
theorem dX12_night_120 : decode cX12_night 120 = .ok (.iaload, 1) := by decide +kernel
theorem dX12_night_121 : decode cX12_night 121 = .ok (.iconst 1, 1) := by decide +kernel
theorem dX12_night_122 : decode cX12_night 122 = .ok (.iadd, 1) := by decide +kernel
theorem dX12_night_123 : decode cX12_night 123 = .ok (.iastore, 1) := by decide +kernel
theorem dX12_night_124 : decode cX12_night 124 = .ok (.aload_n 0, 1) := by decide +kernel
theorem dX12_night_125 : decode cX12_night 125 = .ok (.invokevirtual 99, 3) := by decide +kernel
theorem dX12_night_128 : decode cX12_night 128 = .ok (.aload_n 0, 1) := by decide +kernel
theorem dX12_night_129 : decode cX12_night 129 = .ok (.iload_n 1, 1) := by decide +kernel
theorem dX12_night_130 : decode cX12_night 130 = .ok (.invokevirtual 102, 3) := by decide +kernel
theorem dX12_night_133 : decode cX12_night 133 = .ok (.istore_n 2, 1) := by decide +kernel
theorem dX12_night_134 : decode cX12_night 134 = .ok (.iconst 0, 1) := by decide +kernel
theorem dX12_night_135 : decode cX12_night 135 = .ok (.istore_n 3, 1) := by decide +kernel
theorem dX12_night_136 : decode cX12_night 136 = .ok (.iload_n 3, 1) := by decide +kernel
theorem dX12_night_137 : decode cX12_night 137 = .ok (.bipush 10, 2) := by decide +kernel
theorem dX12_night_139 : decode cX12_night 139 = .ok (.if_icmp .ge 24, 3) := by decide +kernel
theorem dX12_night_142 : decode cX12_night 142 = .ok (.aload_n 0, 1) := by decide +kernel
theorem dX12_night_143 : decode cX12_night 143 = .ok (.getfield 7, 3) := by decide +kernel
theorem dX12_night_146 : decode cX12_night 146 = .ok (.bipush 6, 2) := by decide +kernel
theorem dX12_night_148 : decode cX12_night 148 = .ok (.iload_n 3, 1) := by decide +kernel
theorem dX12_night_149 : decode cX12_night 149 = .ok (.iadd, 1) := by decide +kernel
theorem dX12_night_150 : decode cX12_night 150 = .ok (.aload_n 0, 1) := by decide +kernel
theorem dX12_night_151 : decode cX12_night 151 = .ok (.getfield 26, 3) := by decide +kernel
theorem dX12_night_154 : decode cX12_night 154 = .ok (.iload_n 3, 1) := by decide +kernel
theorem dX12_night_155 : decode cX12_night 155 = .ok (.iaload, 1) := by decide +kernel
theorem dX12_night_156 : decode cX12_night 156 = .ok (.iastore, 1) := by decide +kernel
theorem dX12_night_157 : decode cX12_night 157 = .ok (.iinc 3 1, 3) := by decide +kernel
theorem dX12_night_160 : decode cX12_night 160 = .ok (.goto (-24), 3) := by decide +kernel
theorem dX12_night_163 : decode cX12_night 163 = .ok (.iload_n 2, 1) := by decide +kernel
theorem dX12_night_164 : decode cX12_night 164 = .ok (.ireturn, 1) := by decide +kernel
theorem dX12_undo_0 : decode cX12_undo 0 = .ok (.aload_n 0, 1) := by decide +kernel
theorem dX12_undo_1 : decode cX12_undo 1 = .ok (.getfield 7, 3) := by decide +kernel
theorem dX12_undo_4 : decode cX12_undo 4 = .ok (.iconst 2, 1) := by decide +kernel
theorem dX12_undo_5 : decode cX12_undo 5 = .ok (.iaload, 1) := by decide +kernel
theorem dX12_undo_6 : decode cX12_undo 6 = .ok (.ifCond .ne 8, 3) := by decide +kernel
theorem dX12_undo_9 : decode cX12_undo 9 = .ok (.aload_n 0, 1) := by decide +kernel
theorem dX12_undo_10 : decode cX12_undo 10 = .ok (.invokevirtual 105, 3) := by decide +kernel
theorem dX12_undo_13 : decode cX12_undo 13 = .ok (.ireturn, 1) := by decide +kernel
theorem dX12_undo_14 : decode cX12_undo 14 = .ok (.aload_n 0, 1) := by decide +kernel
theorem dX12_undo_15 : decode cX12_undo 15 = .ok (.getfield 7, 3) := by decide +kernel
theorem dX12_undo_18 : decode cX12_undo 18 = .ok (.iconst 2, 1) := by decide +kernel
theorem dX12_undo_19 : decode cX12_undo 19 = .ok (.dup2, 1) := by decide +kernel
theorem dX12_undo_20 : decode cX12_undo 20 = .ok (.iaload, 1) := by decide +kernel
theorem dX12_undo_21 : decode cX12_undo 21 = .ok (.iconst 1, 1) := by decide +kernel
theorem dX12_undo_22 : decode cX12_undo 22 = .ok (.isub, 1) := by decide +kernel
theorem dX12_undo_23 : decode cX12_undo 23 = .ok (.iastore, 1) := by decide +kernel
theorem dX12_undo_24 : decode cX12_undo 24 = .ok (.iconst 0, 1) := by decide +kernel
theorem dX12_undo_25 : decode cX12_undo 25 = .ok (.istore_n 1, 1) := by decide +kernel
theorem dX12_undo_26 : decode cX12_undo 26 = .ok (.iload_n 1, 1) := by decide +kernel
theorem dX12_undo_27 : decode cX12_undo 27 = .ok (.bipush 10, 2) := by decide +kernel
theorem dX12_undo_29 : decode cX12_undo 29 = .ok (.if_icmp .ge 38, 3) := by decide +kernel
theorem dX12_undo_32 : decode cX12_undo 32 = .ok (.aload_n 0, 1) := by decide +kernel
theorem dX12_undo_33 : decode cX12_undo 33 = .ok (.getfield 7, 3) := by decide +kernel
theorem dX12_undo_36 : decode cX12_undo 36 = .ok (.bipush 6, 2) := by decide +kernel
theorem dX12_undo_38 : decode cX12_undo 38 = .ok (.iload_n 1, 1) := by decide +kernel
theorem dX12_undo_39 : decode cX12_undo 39 = .ok (.iadd, 1) := by decide +kernel
theorem dX12_undo_40 : decode cX12_undo 40 = .ok (.aload_n 0, 1) := by decide +kernel
theorem dX12_undo_41 : decode cX12_undo 41 = .ok (.getfield 7, 3) := by decide +kernel
theorem dX12_undo_44 : decode cX12_undo 44 = .ok (.sipush 133, 3) := by decide +kernel
theorem dX12_undo_47 : decode cX12_undo 47 = .ok (.bipush 10, 2) := by decide +kernel
theorem dX12_undo_49 : decode cX12_undo 49 = .ok (.aload_n 0, 1) := by decide +kernel
theorem dX12_undo_50 : decode cX12_undo 50 = .ok (.getfield 7, 3) := by decide +kernel
theorem dX12_undo_53 : decode cX12_undo 53 = .ok (.iconst 2, 1) := by decide +kernel
theorem dX12_undo_54 : decode cX12_undo 54 = .ok (.iaload, 1) := by decide +kernel
theorem dX12_undo_55 : decode cX12_undo 55 = .ok (.imul, 1) := by decide +kernel
theorem dX12_undo_56 : decode cX12_undo 56 = .ok (.iadd, 1) := by decide +kernel
theorem dX12_undo_57 : decode cX12_undo 57 = .ok (.iload_n 1, 1) := by decide +kernel
theorem dX12_undo_58 : decode cX12_undo 58 = .ok (.iadd, 1) := by decide +kernel
theorem dX12_undo_59 : decode cX12_undo 59 = .ok (.iaload, 1) := by decide +kernel
theorem dX12_undo_60 : decode cX12_undo 60 = .ok (.iastore, 1) := by decide +kernel
theorem dX12_undo_61 : decode cX12_undo 61 = .ok (.iinc 1 1, 3) := by decide +kernel
theorem dX12_undo_64 : decode cX12_undo 64 = .ok (.goto (-38), 3) := by decide +kernel
theorem dX12_undo_67 : decode cX12_undo 67 = .ok (.iconst 1, 1) := by decide +kernel
theorem dX12_undo_68 : decode cX12_undo 68 = .ok (.ireturn, 1) := by decide +kernel
theorem dX12_nettles_0 : decode cX12_nettles 0 = .ok (.aload_n 0, 1) := by decide +kernel
theorem dX12_nettles_1 : decode cX12_nettles 1 = .ok (.iload_n 1, 1) := by decide +kernel
theorem dX12_nettles_2 : decode cX12_nettles 2 = .ok (.invokevirtual 63, 3) := by decide +kernel
theorem dX12_nettles_5 : decode cX12_nettles 5 = .ok (.ifCond .eq 15, 3) := by decide +kernel
theorem dX12_nettles_8 : decode cX12_nettles 8 = .ok (.aload_n 0, 1) := by decide +kernel
theorem dX12_nettles_9 : decode cX12_nettles 9 = .ok (.getfield 7, 3) := by decide +kernel
theorem dX12_nettles_12 : decode cX12_nettles 12 = .ok (.bipush 9, 2) := by decide +kernel
theorem dX12_nettles_14 : decode cX12_nettles 14 = .ok (.iload_n 1, 1) := by decide +kernel
theorem dX12_nettles_15 : decode cX12_nettles 15 = .ok (.iadd, 1) := by decide +kernel
theorem dX12_nettles_16 : decode cX12_nettles 16 = .ok (.iaload, 1) := by decide +kernel
theorem dX12_nettles_17 : decode cX12_nettles 17 = .ok (.goto 7, 3) := by decide +kernel
theorem dX12_nettles_20 : decode cX12_nettles 20 = .ok (.aload_n 0, 1) := by decide +kernel
theorem dX12_nettles_21 : decode cX12_nettles 21 = .ok (.invokevirtual 74, 3) := by decide +kernel
theorem dX12_nettles_24 : decode cX12_nettles 24 = .ok (.ireturn, 1) := by decide +kernel
theorem dX12_sewn_0 : decode cX12_sewn 0 = .ok (.aload_n 0, 1) := by decide +kernel
theorem dX12_sewn_1 : decode cX12_sewn 1 = .ok (.iload_n 1, 1) := by decide +kernel
theorem dX12_sewn_2 : decode cX12_sewn 2 = .ok (.invokevirtual 67, 3) := by decide +kernel
theorem dX12_sewn_5 : decode cX12_sewn 5 = .ok (.ifCond .eq 15, 3) := by decide +kernel
theorem dX12_sewn_8 : decode cX12_sewn 8 = .ok (.aload_n 0, 1) := by decide +kernel
theorem dX12_sewn_9 : decode cX12_sewn 9 = .ok (.getfield 7, 3) := by decide +kernel
theorem dX12_sewn_12 : decode cX12_sewn 12 = .ok (.bipush 12, 2) := by decide +kernel
theorem dX12_sewn_14 : decode cX12_sewn 14 = .ok (.iload_n 1, 1) := by decide +kernel
theorem dX12_sewn_15 : decode cX12_sewn 15 = .ok (.iadd, 1) := by decide +kernel
theorem dX12_sewn_16 : decode cX12_sewn 16 = .ok (.iaload, 1) := by decide +kernel
theorem dX12_sewn_17 : decode cX12_sewn 17 = .ok (.goto 7, 3) := by decide +kernel
theorem dX12_sewn_20 : decode cX12_sewn 20 = .ok (.aload_n 0, 1) := by decide +kernel
theorem dX12_sewn_21 : decode cX12_sewn 21 = .ok (.invokevirtual 74, 3) := by decide +kernel
theorem dX12_sewn_24 : decode cX12_sewn 24 = .ok (.ireturn, 1) := by decide +kernel
theorem dX12_has_0 : decode cX12_has 0 = .ok (.iload_n 1, 1) := by decide +kernel
theorem dX12_has_1 : decode cX12_has 1 = .ok (.i2l, 1) := by decide +kernel
theorem dX12_has_2 : decode cX12_has 2 = .ok (.lconst 0, 1) := by decide +kernel
theorem dX12_has_3 : decode cX12_has 3 = .ok (.lconst 1, 1) := by decide +kernel
theorem dX12_has_4 : decode cX12_has 4 = .ok (.invokestatic 59, 3) := by decide +kernel
theorem dX12_has_7 : decode cX12_has 7 = .ok (.ifCond .eq 15, 3) := by decide +kernel
theorem dX12_has_10 : decode cX12_has 10 = .ok (.aload_n 0, 1) := by decide +kernel
theorem dX12_has_11 : decode cX12_has 11 = .ok (.getfield 7, 3) := by decide +kernel
theorem dX12_has_14 : decode cX12_has 14 = .ok (.bipush 7, 2) := by decide +kernel
theorem dX12_has_16 : decode cX12_has 16 = .ok (.iload_n 1, 1) := by decide +kernel
theorem dX12_has_17 : decode cX12_has 17 = .ok (.iadd, 1) := by decide +kernel
theorem dX12_has_18 : decode cX12_has 18 = .ok (.iaload, 1) := by decide +kernel
theorem dX12_has_19 : decode cX12_has 19 = .ok (.goto 7, 3) := by decide +kernel
theorem dX12_has_22 : decode cX12_has 22 = .ok (.aload_n 0, 1) := by decide +kernel
theorem dX12_has_23 : decode cX12_has 23 = .ok (.invokevirtual 74, 3) := by decide +kernel
theorem dX12_has_26 : decode cX12_has 26 = .ok (.ireturn, 1) := by decide +kernel
theorem dX12_areSewn_0 : decode cX12_areSewn 0 = .ok (.iconst 1, 1) := by decide +kernel
theorem dX12_areSewn_1 : decode cX12_areSewn 1 = .ok (.istore_n 2, 1) := by decide +kernel
theorem dX12_areSewn_2 : decode cX12_areSewn 2 = .ok (.iconst 0, 1) := by decide +kernel
theorem dX12_areSewn_3 : decode cX12_areSewn 3 = .ok (.istore_n 3, 1) := by decide +kernel
theorem dX12_areSewn_4 : decode cX12_areSewn 4 = .ok (.iload_n 3, 1) := by decide +kernel
theorem dX12_areSewn_5 : decode cX12_areSewn 5 = .ok (.aload_n 0, 1) := by decide +kernel
theorem dX12_areSewn_6 : decode cX12_areSewn 6 = .ok (.getfield 7, 3) := by decide +kernel
theorem dX12_areSewn_9 : decode cX12_areSewn 9 = .ok (.iconst 1, 1) := by decide +kernel
theorem dX12_areSewn_10 : decode cX12_areSewn 10 = .ok (.iaload, 1) := by decide +kernel
theorem dX12_areSewn_11 : decode cX12_areSewn 11 = .ok (.if_icmp .ge 48, 3) := by decide +kernel
theorem dX12_areSewn_14 : decode cX12_areSewn 14 = .ok (.iload_n 2, 1) := by decide +kernel
theorem dX12_areSewn_15 : decode cX12_areSewn 15 = .ok (.ifCond .eq 36, 3) := by decide +kernel
theorem dX12_areSewn_18 : decode cX12_areSewn 18 = .ok (.iload_n 1, 1) := by decide +kernel
theorem dX12_areSewn_19 : decode cX12_areSewn 19 = .ok (.iload_n 3, 1) := by decide +kernel
theorem dX12_areSewn_20 : decode cX12_areSewn 20 = .ok (.ishr, 1) := by decide +kernel
theorem dX12_areSewn_21 : decode cX12_areSewn 21 = .ok (.iconst 1, 1) := by decide +kernel
theorem dX12_areSewn_22 : decode cX12_areSewn 22 = .ok (.iand, 1) := by decide +kernel
theorem dX12_areSewn_23 : decode cX12_areSewn 23 = .ok (.ifCond .eq 24, 3) := by decide +kernel
theorem dX12_areSewn_26 : decode cX12_areSewn 26 = .ok (.aload_n 0, 1) := by decide +kernel
theorem dX12_areSewn_27 : decode cX12_areSewn 27 = .ok (.getfield 26, 3) := by decide +kernel
theorem dX12_areSewn_30 : decode cX12_areSewn 30 = .ok (.bipush 6, 2) := by decide +kernel
theorem dX12_areSewn_32 : decode cX12_areSewn 32 = .ok (.iload_n 3, 1) := by decide +kernel
theorem dX12_areSewn_33 : decode cX12_areSewn 33 = .ok (.iadd, 1) := by decide +kernel
theorem dX12_areSewn_34 : decode cX12_areSewn 34 = .ok (.iaload, 1) := by decide +kernel
theorem dX12_areSewn_35 : decode cX12_areSewn 35 = .ok (.aload_n 0, 1) := by decide +kernel
theorem dX12_areSewn_36 : decode cX12_areSewn 36 = .ok (.getfield 7, 3) := by decide +kernel
theorem dX12_areSewn_39 : decode cX12_areSewn 39 = .ok (.bipush 25, 2) := by decide +kernel
theorem dX12_areSewn_41 : decode cX12_areSewn 41 = .ok (.iload_n 3, 1) := by decide +kernel
theorem dX12_areSewn_42 : decode cX12_areSewn 42 = .ok (.iadd, 1) := by decide +kernel
theorem dX12_areSewn_43 : decode cX12_areSewn 43 = .ok (.iaload, 1) := by decide +kernel
theorem dX12_areSewn_44 : decode cX12_areSewn 44 = .ok (.if_icmp .ne 7, 3) := by decide +kernel
theorem dX12_areSewn_47 : decode cX12_areSewn 47 = .ok (.iconst 1, 1) := by decide +kernel
theorem dX12_areSewn_48 : decode cX12_areSewn 48 = .ok (.goto 4, 3) := by decide +kernel
theorem dX12_areSewn_51 : decode cX12_areSewn 51 = .ok (.iconst 0, 1) := by decide +kernel
theorem dX12_areSewn_52 : decode cX12_areSewn 52 = .ok (.istore_n 2, 1) := by decide +kernel
theorem dX12_areSewn_53 : decode cX12_areSewn 53 = .ok (.iinc 3 1, 3) := by decide +kernel
theorem dX12_areSewn_56 : decode cX12_areSewn 56 = .ok (.goto (-52), 3) := by decide +kernel
theorem dX12_areSewn_59 : decode cX12_areSewn 59 = .ok (.iload_n 2, 1) := by decide +kernel
theorem dX12_areSewn_60 : decode cX12_areSewn 60 = .ok (.ireturn, 1) := by decide +kernel
theorem dX12_plans_0 : decode cX12_plans 0 = .ok (.iconst 1, 1) := by decide +kernel
theorem dX12_plans_1 : decode cX12_plans 1 = .ok (.iconst 3, 1) := by decide +kernel
theorem dX12_plans_2 : decode cX12_plans 2 = .ok (.iload_n 1, 1) := by decide +kernel
theorem dX12_plans_3 : decode cX12_plans 3 = .ok (.imul, 1) := by decide +kernel
theorem dX12_plans_4 : decode cX12_plans 4 = .ok (.ishl, 1) := by decide +kernel
theorem dX12_plans_5 : decode cX12_plans 5 = .ok (.istore_n 3, 1) := by decide +kernel
theorem dX12_plans_6 : decode cX12_plans 6 = .ok (.iconst (-1), 1) := by decide +kernel
theorem dX12_plans_7 : decode cX12_plans 7 = .ok (.istore 4, 2) := by decide +kernel
theorem dX12_plans_9 : decode cX12_plans 9 = .ok (.iconst 0, 1) := by decide +kernel
theorem dX12_plans_10 : decode cX12_plans 10 = .ok (.istore 5, 2) := by decide +kernel
theorem dX12_plans_12 : decode cX12_plans 12 = .ok (.iload 5, 2) := by decide +kernel
theorem dX12_plans_14 : decode cX12_plans 14 = .ok (.iload_n 3, 1) := by decide +kernel
theorem dX12_plans_15 : decode cX12_plans 15 = .ok (.if_icmp .ge 198, 3) := by decide +kernel
theorem dX12_plans_18 : decode cX12_plans 18 = .ok (.iconst 1, 1) := by decide +kernel
theorem dX12_plans_19 : decode cX12_plans 19 = .ok (.istore 6, 2) := by decide +kernel
