theorem dX11_init_0 : decode cX11_init 0 = .ok (.aload_n 0, 1) := by decide +kernel
theorem dX11_init_1 : decode cX11_init 1 = .ok (.invokespecial 1, 3) := by decide +kernel
theorem dX11_init_4 : decode cX11_init 4 = .ok (.aload_n 0, 1) := by decide +kernel
theorem dX11_init_5 : decode cX11_init 5 = .ok (.new 7, 3) := by decide +kernel
theorem dX11_init_8 : decode cX11_init 8 = .ok (.dup, 1) := by decide +kernel
theorem dX11_init_9 : decode cX11_init 9 = .ok (.invokespecial 9, 3) := by decide +kernel
theorem dX11_init_12 : decode cX11_init 12 = .ok (.putfield 10, 3) := by decide +kernel
theorem dX11_init_15 : decode cX11_init 15 = .ok (.aload_n 0, 1) := by decide +kernel
theorem dX11_init_16 : decode cX11_init 16 = .ok (.new 7, 3) := by decide +kernel
theorem dX11_init_19 : decode cX11_init 19 = .ok (.dup, 1) := by decide +kernel
theorem dX11_init_20 : decode cX11_init 20 = .ok (.invokespecial 9, 3) := by decide +kernel
theorem dX11_init_23 : decode cX11_init 23 = .ok (.putfield 16, 3) := by decide +kernel
theorem dX11_init_26 : decode cX11_init 26 = .ok (.aload_n 0, 1) := by decide +kernel
theorem dX11_init_27 : decode cX11_init 27 = .ok (.iconst 2, 1) := by decide +kernel
theorem dX11_init_28 : decode cX11_init 28 = .ok (.anewarray 7, 3) := by decide +kernel
theorem dX11_init_31 : decode cX11_init 31 = .ok (.putfield 19, 3) := by decide +kernel
theorem dX11_init_34 : decode cX11_init 34 = .ok (.aload_n 0, 1) := by decide +kernel
theorem dX11_init_35 : decode cX11_init 35 = .ok (.new 23, 3) := by decide +kernel
theorem dX11_init_38 : decode cX11_init 38 = .ok (.dup, 1) := by decide +kernel
theorem dX11_init_39 : decode cX11_init 39 = .ok (.invokespecial 25, 3) := by decide +kernel
theorem dX11_init_42 : decode cX11_init 42 = .ok (.putfield 26, 3) := by decide +kernel
theorem dX11_init_45 : decode cX11_init 45 = .ok (.aload_n 0, 1) := by decide +kernel
theorem dX11_init_46 : decode cX11_init 46 = .ok (.new 30, 3) := by decide +kernel
theorem dX11_init_49 : decode cX11_init 49 = .ok (.dup, 1) := by decide +kernel
theorem dX11_init_50 : decode cX11_init 50 = .ok (.invokespecial 32, 3) := by decide +kernel
theorem dX11_init_53 : decode cX11_init 53 = .ok (.putfield 33, 3) := by decide +kernel
theorem dX11_init_56 : decode cX11_init 56 = .ok (.aload_n 0, 1) := by decide +kernel
theorem dX11_init_57 : decode cX11_init 57 = .ok (.lconst 0, 1) := by decide +kernel
theorem dX11_init_58 : decode cX11_init 58 = .ok (.putfield 37, 3) := by decide +kernel
theorem dX11_init_61 : decode cX11_init 61 = .ok (.aload_n 0, 1) := by decide +kernel
theorem dX11_init_62 : decode cX11_init 62 = .ok (.lconst 1, 1) := by decide +kernel
theorem dX11_init_63 : decode cX11_init 63 = .ok (.putfield 41, 3) := by decide +kernel
theorem dX11_init_66 : decode cX11_init 66 = .ok (.aload_n 0, 1) := by decide +kernel
theorem dX11_init_67 : decode cX11_init 67 = .ok (.iconst 0, 1) := by decide +kernel
theorem dX11_init_68 : decode cX11_init 68 = .ok (.putfield 44, 3) := by decide +kernel
theorem dX11_init_71 : decode cX11_init 71 = .ok (.aload_n 0, 1) := by decide +kernel
theorem dX11_init_72 : decode cX11_init 72 = .ok (.iconst 0, 1) := by decide +kernel
theorem dX11_init_73 : decode cX11_init 73 = .ok (.putfield 48, 3) := by decide +kernel
theorem dX11_init_76 : decode cX11_init 76 = .ok (.aload_n 0, 1) := by decide +kernel
theorem dX11_init_77 : decode cX11_init 77 = .ok (.iconst 0, 1) := by decide +kernel
theorem dX11_init_78 : decode cX11_init 78 = .ok (.putfield 51, 3) := by decide +kernel
theorem dX11_init_81 : decode cX11_init 81 = .ok (.return_, 1) := by decide +kernel
theorem dX11_plot_0 : decode cX11_plot 0 = .ok (.aload_n 0, 1) := by decide +kernel
theorem dX11_plot_1 : decode cX11_plot 1 = .ok (.aload_n 0, 1) := by decide +kernel
theorem dX11_plot_2 : decode cX11_plot 2 = .ok (.getfield 10, 3) := by decide +kernel
theorem dX11_plot_5 : decode cX11_plot 5 = .ok (.iload_n 1, 1) := by decide +kernel
theorem dX11_plot_6 : decode cX11_plot 6 = .ok (.iload_n 2, 1) := by decide +kernel
theorem dX11_plot_7 : decode cX11_plot 7 = .ok (.invokevirtual 54, 3) := by decide +kernel
theorem dX11_plot_10 : decode cX11_plot 10 = .ok (.invokevirtual 58, 3) := by decide +kernel
theorem dX11_plot_13 : decode cX11_plot 13 = .ok (.ireturn, 1) := by decide +kernel
theorem dX11_shirt_0 : decode cX11_shirt 0 = .ok (.aload_n 0, 1) := by decide +kernel
theorem dX11_shirt_1 : decode cX11_shirt 1 = .ok (.aload_n 0, 1) := by decide +kernel
theorem dX11_shirt_2 : decode cX11_shirt 2 = .ok (.getfield 10, 3) := by decide +kernel
theorem dX11_shirt_5 : decode cX11_shirt 5 = .ok (.iload_n 1, 1) := by decide +kernel
theorem dX11_shirt_6 : decode cX11_shirt 6 = .ok (.invokevirtual 62, 3) := by decide +kernel
theorem dX11_shirt_9 : decode cX11_shirt 9 = .ok (.invokevirtual 58, 3) := by decide +kernel
theorem dX11_shirt_12 : decode cX11_shirt 12 = .ok (.ireturn, 1) := by decide +kernel
theorem dX11_night_0 : decode cX11_night 0 = .ok (.aload_n 0, 1) := by decide +kernel
theorem dX11_night_1 : decode cX11_night 1 = .ok (.aload_n 0, 1) := by decide +kernel
theorem dX11_night_2 : decode cX11_night 2 = .ok (.getfield 10, 3) := by decide +kernel
theorem dX11_night_5 : decode cX11_night 5 = .ok (.iload_n 1, 1) := by decide +kernel
theorem dX11_night_6 : decode cX11_night 6 = .ok (.invokevirtual 65, 3) := by decide +kernel
theorem dX11_night_9 : decode cX11_night 9 = .ok (.invokevirtual 58, 3) := by decide +kernel
theorem dX11_night_12 : decode cX11_night 12 = .ok (.ireturn, 1) := by decide +kernel
theorem dX11_undo_0 : decode cX11_undo 0 = .ok (.aload_n 0, 1) := by decide +kernel
theorem dX11_undo_1 : decode cX11_undo 1 = .ok (.aload_n 0, 1) := by decide +kernel
theorem dX11_undo_2 : decode cX11_undo 2 = .ok (.getfield 10, 3) := by decide +kernel
theorem dX11_undo_5 : decode cX11_undo 5 = .ok (.invokevirtual 68, 3) := by decide +kernel
theorem dX11_undo_8 : decode cX11_undo 8 = .ok (.invokevirtual 58, 3) := by decide +kernel
theorem dX11_undo_11 : decode cX11_undo 11 = .ok (.ireturn, 1) := by decide +kernel
theorem dX11_nettles_0 : decode cX11_nettles 0 = .ok (.aload_n 0, 1) := by decide +kernel
theorem dX11_nettles_1 : decode cX11_nettles 1 = .ok (.aload_n 0, 1) := by decide +kernel
theorem dX11_nettles_2 : decode cX11_nettles 2 = .ok (.getfield 10, 3) := by decide +kernel
theorem dX11_nettles_5 : decode cX11_nettles 5 = .ok (.iload_n 1, 1) := by decide +kernel
theorem dX11_nettles_6 : decode cX11_nettles 6 = .ok (.invokevirtual 72, 3) := by decide +kernel
theorem dX11_nettles_9 : decode cX11_nettles 9 = .ok (.ifCond .eq 15, 3) := by decide +kernel
theorem dX11_nettles_12 : decode cX11_nettles 12 = .ok (.aload_n 0, 1) := by decide +kernel
theorem dX11_nettles_13 : decode cX11_nettles 13 = .ok (.getfield 10, 3) := by decide +kernel
theorem dX11_nettles_16 : decode cX11_nettles 16 = .ok (.getfield 76, 3) := by decide +kernel
theorem dX11_nettles_19 : decode cX11_nettles 19 = .ok (.iload_n 1, 1) := by decide +kernel
theorem dX11_nettles_20 : decode cX11_nettles 20 = .ok (.iaload, 1) := by decide +kernel
theorem dX11_nettles_21 : decode cX11_nettles 21 = .ok (.goto 5, 3) := by decide +kernel
theorem dX11_nettles_24 : decode cX11_nettles 24 = .ok (.bipush (-2), 2) := by decide +kernel
theorem dX11_nettles_26 : decode cX11_nettles 26 = .ok (.invokevirtual 58, 3) := by decide +kernel
theorem dX11_nettles_29 : decode cX11_nettles 29 = .ok (.ireturn, 1) := by decide +kernel
theorem dX11_sewn_0 : decode cX11_sewn 0 = .ok (.aload_n 0, 1) := by decide +kernel
theorem dX11_sewn_1 : decode cX11_sewn 1 = .ok (.aload_n 0, 1) := by decide +kernel
theorem dX11_sewn_2 : decode cX11_sewn 2 = .ok (.getfield 10, 3) := by decide +kernel
theorem dX11_sewn_5 : decode cX11_sewn 5 = .ok (.iload_n 1, 1) := by decide +kernel
theorem dX11_sewn_6 : decode cX11_sewn 6 = .ok (.invokevirtual 80, 3) := by decide +kernel
theorem dX11_sewn_9 : decode cX11_sewn 9 = .ok (.ifCond .eq 17, 3) := by decide +kernel
theorem dX11_sewn_12 : decode cX11_sewn 12 = .ok (.aload_n 0, 1) := by decide +kernel
theorem dX11_sewn_13 : decode cX11_sewn 13 = .ok (.getfield 10, 3) := by decide +kernel
theorem dX11_sewn_16 : decode cX11_sewn 16 = .ok (.getfield 76, 3) := by decide +kernel
theorem dX11_sewn_19 : decode cX11_sewn 19 = .ok (.iconst 3, 1) := by decide +kernel
theorem dX11_sewn_20 : decode cX11_sewn 20 = .ok (.iload_n 1, 1) := by decide +kernel
theorem dX11_sewn_21 : decode cX11_sewn 21 = .ok (.iadd, 1) := by decide +kernel
theorem dX11_sewn_22 : decode cX11_sewn 22 = .ok (.iaload, 1) := by decide +kernel
theorem dX11_sewn_23 : decode cX11_sewn 23 = .ok (.goto 5, 3) := by decide +kernel
theorem dX11_sewn_26 : decode cX11_sewn 26 = .ok (.bipush (-2), 2) := by decide +kernel
theorem dX11_sewn_28 : decode cX11_sewn 28 = .ok (.invokevirtual 58, 3) := by decide +kernel
theorem dX11_sewn_31 : decode cX11_sewn 31 = .ok (.ireturn, 1) := by decide +kernel
theorem dX11_has_0 : decode cX11_has 0 = .ok (.iload_n 1, 1) := by decide +kernel
theorem dX11_has_1 : decode cX11_has 1 = .ok (.ifCond .ne 14, 3) := by decide +kernel
theorem dX11_has_4 : decode cX11_has 4 = .ok (.aload_n 0, 1) := by decide +kernel
theorem dX11_has_5 : decode cX11_has 5 = .ok (.getfield 10, 3) := by decide +kernel
theorem dX11_has_8 : decode cX11_has 8 = .ok (.getfield 76, 3) := by decide +kernel
theorem dX11_has_11 : decode cX11_has 11 = .ok (.bipush 7, 2) := by decide +kernel
theorem dX11_has_13 : decode cX11_has 13 = .ok (.iaload, 1) := by decide +kernel
theorem dX11_has_14 : decode cX11_has 14 = .ok (.ireturn, 1) := by decide +kernel
theorem dX11_has_15 : decode cX11_has 15 = .ok (.aload_n 0, 1) := by decide +kernel
theorem dX11_has_16 : decode cX11_has 16 = .ok (.iload_n 1, 1) := by decide +kernel
theorem dX11_has_17 : decode cX11_has 17 = .ok (.iconst 1, 1) := by decide +kernel
theorem dX11_has_18 : decode cX11_has 18 = .ok (.if_icmp .ne 16, 3) := by decide +kernel
theorem dX11_has_21 : decode cX11_has 21 = .ok (.aload_n 0, 1) := by decide +kernel
theorem dX11_has_22 : decode cX11_has 22 = .ok (.getfield 10, 3) := by decide +kernel
theorem dX11_has_25 : decode cX11_has 25 = .ok (.getfield 76, 3) := by decide +kernel
theorem dX11_has_28 : decode cX11_has 28 = .ok (.bipush 8, 2) := by decide +kernel
theorem dX11_has_30 : decode cX11_has 30 = .ok (.iaload, 1) := by decide +kernel
theorem dX11_has_31 : decode cX11_has 31 = .ok (.goto 5, 3) := by decide +kernel
theorem dX11_has_34 : decode cX11_has 34 = .ok (.bipush (-2), 2) := by decide +kernel
theorem dX11_has_36 : decode cX11_has 36 = .ok (.invokevirtual 58, 3) := by decide +kernel
theorem dX11_has_39 : decode cX11_has 39 = .ok (.ireturn, 1) := by decide +kernel
theorem dX11_plan_0 : decode cX11_plan 0 = .ok (.iload_n 1, 1) := by decide +kernel
theorem dX11_plan_1 : decode cX11_plan 1 = .ok (.iconst 0, 1) := by decide +kernel
theorem dX11_plan_2 : decode cX11_plan 2 = .ok (.iconst 5, 1) := by decide +kernel
theorem dX11_plan_3 : decode cX11_plan 3 = .ok (.invokestatic 83, 3) := by decide +kernel
theorem dX11_plan_6 : decode cX11_plan 6 = .ok (.ifCond .eq 8, 3) := by decide +kernel
theorem dX11_plan_9 : decode cX11_plan 9 = .ok (.iload_n 2, 1) := by decide +kernel
theorem dX11_plan_10 : decode cX11_plan 10 = .ok (.iconst (-1), 1) := by decide +kernel
theorem dX11_plan_11 : decode cX11_plan 11 = .ok (.if_icmp .ge 8, 3) := by decide +kernel
theorem dX11_plan_14 : decode cX11_plan 14 = .ok (.aload_n 0, 1) := by decide +kernel
theorem dX11_plan_15 : decode cX11_plan 15 = .ok (.invokevirtual 87, 3) := by decide +kernel
theorem dX11_plan_18 : decode cX11_plan 18 = .ok (.ireturn, 1) := by decide +kernel
theorem dX11_plan_19 : decode cX11_plan 19 = .ok (.aload_n 0, 1) := by decide +kernel
theorem dX11_plan_20 : decode cX11_plan 20 = .ok (.getfield 26, 3) := by decide +kernel
theorem dX11_plan_23 : decode cX11_plan 23 = .ok (.aload_n 0, 1) := by decide +kernel
theorem dX11_plan_24 : decode cX11_plan 24 = .ok (.getfield 10, 3) := by decide +kernel
theorem dX11_plan_27 : decode cX11_plan 27 = .ok (.iload_n 1, 1) := by decide +kernel
theorem dX11_plan_28 : decode cX11_plan 28 = .ok (.iconst 0, 1) := by decide +kernel
theorem dX11_plan_29 : decode cX11_plan 29 = .ok (.iconst 0, 1) := by decide +kernel
theorem dX11_plan_30 : decode cX11_plan 30 = .ok (.invokevirtual 90, 3) := by decide +kernel
theorem dX11_plan_33 : decode cX11_plan 33 = .ok (.istore_n 3, 1) := by decide +kernel
theorem dX11_plan_34 : decode cX11_plan 34 = .ok (.iload_n 2, 1) := by decide +kernel
theorem dX11_plan_35 : decode cX11_plan 35 = .ok (.iconst (-1), 1) := by decide +kernel
theorem dX11_plan_36 : decode cX11_plan 36 = .ok (.if_icmp .ne 7, 3) := by decide +kernel
theorem dX11_plan_39 : decode cX11_plan 39 = .ok (.iload_n 3, 1) := by decide +kernel
theorem dX11_plan_40 : decode cX11_plan 40 = .ok (.goto 11, 3) := by decide +kernel
theorem dX11_plan_43 : decode cX11_plan 43 = .ok (.aload_n 0, 1) := by decide +kernel
theorem dX11_plan_44 : decode cX11_plan 44 = .ok (.getfield 26, 3) := by decide +kernel
theorem dX11_plan_47 : decode cX11_plan 47 = .ok (.iload_n 2, 1) := by decide +kernel
theorem dX11_plan_48 : decode cX11_plan 48 = .ok (.invokevirtual 94, 3) := by decide +kernel
theorem dX11_plan_51 : decode cX11_plan 51 = .ok (.ireturn, 1) := by decide +kernel
theorem dX11_inTime_0 : decode cX11_inTime 0 = .ok (.iload_n 1, 1) := by decide +kernel
theorem dX11_inTime_1 : decode cX11_inTime 1 = .ok (.iconst 0, 1) := by decide +kernel
theorem dX11_inTime_2 : decode cX11_inTime 2 = .ok (.iconst 5, 1) := by decide +kernel
theorem dX11_inTime_3 : decode cX11_inTime 3 = .ok (.invokestatic 83, 3) := by decide +kernel
theorem dX11_inTime_6 : decode cX11_inTime 6 = .ok (.ifCond .eq 19, 3) := by decide +kernel
theorem dX11_inTime_9 : decode cX11_inTime 9 = .ok (.aload_n 0, 1) := by decide +kernel
theorem dX11_inTime_10 : decode cX11_inTime 10 = .ok (.getfield 10, 3) := by decide +kernel
theorem dX11_inTime_13 : decode cX11_inTime 13 = .ok (.iload_n 2, 1) := by decide +kernel
theorem dX11_inTime_14 : decode cX11_inTime 14 = .ok (.invokevirtual 97, 3) := by decide +kernel
theorem dX11_inTime_17 : decode cX11_inTime 17 = .ok (.ifCond .eq 8, 3) := by decide +kernel
theorem dX11_inTime_20 : decode cX11_inTime 20 = .ok (.iload_n 3, 1) := by decide +kernel
theorem dX11_inTime_21 : decode cX11_inTime 21 = .ok (.iconst (-1), 1) := by decide +kernel
theorem dX11_inTime_22 : decode cX11_inTime 22 = .ok (.if_icmp .ge 8, 3) := by decide +kernel
theorem dX11_inTime_25 : decode cX11_inTime 25 = .ok (.aload_n 0, 1) := by decide +kernel
theorem dX11_inTime_26 : decode cX11_inTime 26 = .ok (.invokevirtual 87, 3) := by decide +kernel
theorem dX11_inTime_29 : decode cX11_inTime 29 = .ok (.ireturn, 1) := by decide +kernel
theorem dX11_inTime_30 : decode cX11_inTime 30 = .ok (.aload_n 0, 1) := by decide +kernel
theorem dX11_inTime_31 : decode cX11_inTime 31 = .ok (.getfield 26, 3) := by decide +kernel
theorem dX11_inTime_34 : decode cX11_inTime 34 = .ok (.aload_n 0, 1) := by decide +kernel
theorem dX11_inTime_35 : decode cX11_inTime 35 = .ok (.getfield 10, 3) := by decide +kernel
theorem dX11_inTime_38 : decode cX11_inTime 38 = .ok (.iload_n 1, 1) := by decide +kernel
theorem dX11_inTime_39 : decode cX11_inTime 39 = .ok (.iload_n 2, 1) := by decide +kernel
theorem dX11_inTime_40 : decode cX11_inTime 40 = .ok (.iconst 0, 1) := by decide +kernel
theorem dX11_inTime_41 : decode cX11_inTime 41 = .ok (.invokevirtual 90, 3) := by decide +kernel
theorem dX11_inTime_44 : decode cX11_inTime 44 = .ok (.istore 4, 2) := by decide +kernel
theorem dX11_inTime_46 : decode cX11_inTime 46 = .ok (.iload 4, 2) := by decide +kernel
theorem dX11_inTime_48 : decode cX11_inTime 48 = .ok (.iconst (-1), 1) := by decide +kernel
theorem dX11_inTime_49 : decode cX11_inTime 49 = .ok (.if_icmp .eq 8, 3) := by decide +kernel
theorem dX11_inTime_52 : decode cX11_inTime 52 = .ok (.iload_n 3, 1) := by decide +kernel
theorem dX11_inTime_53 : decode cX11_inTime 53 = .ok (.iconst (-1), 1) := by decide +kernel
theorem dX11_inTime_54 : decode cX11_inTime 54 = .ok (.if_icmp .ne 8, 3) := by decide +kernel
theorem dX11_inTime_57 : decode cX11_inTime 57 = .ok (.iload 4, 2) := by decide +kernel
theorem dX11_inTime_59 : decode cX11_inTime 59 = .ok (.goto 11, 3) := by decide +kernel
theorem dX11_inTime_62 : decode cX11_inTime 62 = .ok (.aload_n 0, 1) := by decide +kernel
theorem dX11_inTime_63 : decode cX11_inTime 63 = .ok (.getfield 26, 3) := by decide +kernel
theorem dX11_inTime_66 : decode cX11_inTime 66 = .ok (.iload_n 3, 1) := by decide +kernel
theorem dX11_inTime_67 : decode cX11_inTime 67 = .ok (.invokevirtual 94, 3) := by decide +kernel
theorem dX11_inTime_70 : decode cX11_inTime 70 = .ok (.ireturn, 1) := by decide +kernel
theorem dX11_fewest_0 : decode cX11_fewest 0 = .ok (.aload_n 0, 1) := by decide +kernel
theorem dX11_fewest_1 : decode cX11_fewest 1 = .ok (.getfield 10, 3) := by decide +kernel
theorem dX11_fewest_4 : decode cX11_fewest 4 = .ok (.iload_n 1, 1) := by decide +kernel
theorem dX11_fewest_5 : decode cX11_fewest 5 = .ok (.invokevirtual 97, 3) := by decide +kernel
theorem dX11_fewest_8 : decode cX11_fewest 8 = .ok (.ifCond .ne 10, 3) := by decide +kernel
theorem dX11_fewest_11 : decode cX11_fewest 11 = .ok (.aload_n 0, 1) := by decide +kernel
theorem dX11_fewest_12 : decode cX11_fewest 12 = .ok (.bipush (-2), 2) := by decide +kernel
theorem dX11_fewest_14 : decode cX11_fewest 14 = .ok (.invokevirtual 58, 3) := by decide +kernel
theorem dX11_fewest_17 : decode cX11_fewest 17 = .ok (.ireturn, 1) := by decide +kernel
theorem dX11_fewest_18 : decode cX11_fewest 18 = .ok (.iconst 0, 1) := by decide +kernel
theorem dX11_fewest_19 : decode cX11_fewest 19 = .ok (.istore_n 2, 1) := by decide +kernel
theorem dX11_fewest_20 : decode cX11_fewest 20 = .ok (.iload_n 2, 1) := by decide +kernel
theorem dX11_fewest_21 : decode cX11_fewest 21 = .ok (.iconst 5, 1) := by decide +kernel
theorem dX11_fewest_22 : decode cX11_fewest 22 = .ok (.if_icmp .gt 29, 3) := by decide +kernel
theorem dX11_fewest_25 : decode cX11_fewest 25 = .ok (.aload_n 0, 1) := by decide +kernel
theorem dX11_fewest_26 : decode cX11_fewest 26 = .ok (.getfield 26, 3) := by decide +kernel
theorem dX11_fewest_29 : decode cX11_fewest 29 = .ok (.aload_n 0, 1) := by decide +kernel
theorem dX11_fewest_30 : decode cX11_fewest 30 = .ok (.getfield 10, 3) := by decide +kernel
theorem dX11_fewest_33 : decode cX11_fewest 33 = .ok (.iload_n 2, 1) := by decide +kernel
theorem dX11_fewest_34 : decode cX11_fewest 34 = .ok (.iload_n 1, 1) := by decide +kernel
theorem dX11_fewest_35 : decode cX11_fewest 35 = .ok (.iconst 1, 1) := by decide +kernel
theorem dX11_fewest_36 : decode cX11_fewest 36 = .ok (.invokevirtual 90, 3) := by decide +kernel
theorem dX11_fewest_39 : decode cX11_fewest 39 = .ok (.iconst (-1), 1) := by decide +kernel
theorem dX11_fewest_40 : decode cX11_fewest 40 = .ok (.if_icmp .eq 5, 3) := by decide +kernel
theorem dX11_fewest_43 : decode cX11_fewest 43 = .ok (.iload_n 2, 1) := by decide +kernel
theorem dX11_fewest_44 : decode cX11_fewest 44 = .ok (.ireturn, 1) := by decide +kernel
theorem dX11_fewest_45 : decode cX11_fewest 45 = .ok (.iinc 2 1, 3) := by decide +kernel
theorem dX11_fewest_48 : decode cX11_fewest 48 = .ok (.goto (-28), 3) := by decide +kernel
theorem dX11_fewest_51 : decode cX11_fewest 51 = .ok (.iconst (-1), 1) := by decide +kernel
theorem dX11_fewest_52 : decode cX11_fewest 52 = .ok (.ireturn, 1) := by decide +kernel
theorem dX11_left_0 : decode cX11_left 0 = .ok (.iload_n 1, 1) := by decide +kernel
theorem dX11_left_1 : decode cX11_left 1 = .ok (.iconst 0, 1) := by decide +kernel
theorem dX11_left_2 : decode cX11_left 2 = .ok (.iconst 5, 1) := by decide +kernel
theorem dX11_left_3 : decode cX11_left 3 = .ok (.invokestatic 83, 3) := by decide +kernel
theorem dX11_left_6 : decode cX11_left 6 = .ok (.ifCond .eq 12, 3) := by decide +kernel
theorem dX11_left_9 : decode cX11_left 9 = .ok (.iload_n 2, 1) := by decide +kernel
theorem dX11_left_10 : decode cX11_left 10 = .ok (.iconst 0, 1) := by decide +kernel
theorem dX11_left_11 : decode cX11_left 11 = .ok (.iconst 1, 1) := by decide +kernel
theorem dX11_left_12 : decode cX11_left 12 = .ok (.invokestatic 83, 3) := by decide +kernel
theorem dX11_left_15 : decode cX11_left 15 = .ok (.ifCond .ne 8, 3) := by decide +kernel
theorem dX11_left_18 : decode cX11_left 18 = .ok (.aload_n 0, 1) := by decide +kernel
theorem dX11_left_19 : decode cX11_left 19 = .ok (.invokevirtual 87, 3) := by decide +kernel
theorem dX11_left_22 : decode cX11_left 22 = .ok (.ireturn, 1) := by decide +kernel
theorem dX11_left_23 : decode cX11_left 23 = .ok (.aload_n 0, 1) := by decide +kernel
theorem dX11_left_24 : decode cX11_left 24 = .ok (.getfield 26, 3) := by decide +kernel
theorem dX11_left_27 : decode cX11_left 27 = .ok (.aload_n 0, 1) := by decide +kernel
theorem dX11_left_28 : decode cX11_left 28 = .ok (.getfield 10, 3) := by decide +kernel
theorem dX11_left_31 : decode cX11_left 31 = .ok (.iload_n 1, 1) := by decide +kernel
theorem dX11_left_32 : decode cX11_left 32 = .ok (.iconst 0, 1) := by decide +kernel
theorem dX11_left_33 : decode cX11_left 33 = .ok (.iconst 0, 1) := by decide +kernel
theorem dX11_left_34 : decode cX11_left 34 = .ok (.invokevirtual 90, 3) := by decide +kernel
theorem dX11_left_37 : decode cX11_left 37 = .ok (.pop, 1) := by decide +kernel
theorem dX11_left_38 : decode cX11_left 38 = .ok (.aload_n 0, 1) := by decide +kernel
theorem dX11_left_39 : decode cX11_left 39 = .ok (.getfield 26, 3) := by decide +kernel
theorem dX11_left_42 : decode cX11_left 42 = .ok (.aload_n 0, 1) := by decide +kernel
theorem dX11_left_43 : decode cX11_left 43 = .ok (.getfield 10, 3) := by decide +kernel
theorem dX11_left_46 : decode cX11_left 46 = .ok (.invokevirtual 100, 3) := by decide +kernel
theorem dX11_left_49 : decode cX11_left 49 = .ok (.astore_n 3, 1) := by decide +kernel
theorem dX11_left_50 : decode cX11_left 50 = .ok (.iload_n 2, 1) := by decide +kernel
theorem dX11_left_51 : decode cX11_left 51 = .ok (.ifCond .ne 14, 3) := by decide +kernel
theorem dX11_left_54 : decode cX11_left 54 = .ok (.aload_n 0, 1) := by decide +kernel
theorem dX11_left_55 : decode cX11_left 55 = .ok (.getfield 10, 3) := by decide +kernel
theorem dX11_left_58 : decode cX11_left 58 = .ok (.aload_n 3, 1) := by decide +kernel
theorem dX11_left_59 : decode cX11_left 59 = .ok (.invokevirtual 104, 3) := by decide +kernel
theorem dX11_left_62 : decode cX11_left 62 = .ok (.goto 11, 3) := by decide +kernel
theorem dX11_left_65 : decode cX11_left 65 = .ok (.aload_n 0, 1) := by decide +kernel
theorem dX11_left_66 : decode cX11_left 66 = .ok (.getfield 10, 3) := by decide +kernel
theorem dX11_left_69 : decode cX11_left 69 = .ok (.aload_n 3, 1) := by decide +kernel
theorem dX11_left_70 : decode cX11_left 70 = .ok (.invokevirtual 108, 3) := by decide +kernel
theorem dX11_left_73 : decode cX11_left 73 = .ok (.ireturn, 1) := by decide +kernel
theorem dX11_stings_0 : decode cX11_stings 0 = .ok (.iload_n 1, 1) := by decide +kernel
theorem dX11_stings_1 : decode cX11_stings 1 = .ok (.iconst 0, 1) := by decide +kernel
theorem dX11_stings_2 : decode cX11_stings 2 = .ok (.bipush 10, 2) := by decide +kernel
theorem dX11_stings_4 : decode cX11_stings 4 = .ok (.invokestatic 83, 3) := by decide +kernel
theorem dX11_stings_7 : decode cX11_stings 7 = .ok (.ifCond .eq 23, 3) := by decide +kernel
theorem dX11_stings_10 : decode cX11_stings 10 = .ok (.iload_n 2, 1) := by decide +kernel
theorem dX11_stings_11 : decode cX11_stings 11 = .ok (.iconst 0, 1) := by decide +kernel
theorem dX11_stings_12 : decode cX11_stings 12 = .ok (.bipush 12, 2) := by decide +kernel
theorem dX11_stings_14 : decode cX11_stings 14 = .ok (.invokestatic 83, 3) := by decide +kernel
theorem dX11_stings_17 : decode cX11_stings 17 = .ok (.ifCond .eq 13, 3) := by decide +kernel
theorem dX11_stings_20 : decode cX11_stings 20 = .ok (.iload_n 3, 1) := by decide +kernel
theorem dX11_stings_21 : decode cX11_stings 21 = .ok (.iconst 0, 1) := by decide +kernel
theorem dX11_stings_22 : decode cX11_stings 22 = .ok (.bipush 13, 2) := by decide +kernel
theorem dX11_stings_24 : decode cX11_stings 24 = .ok (.invokestatic 83, 3) := by decide +kernel
theorem dX11_stings_27 : decode cX11_stings 27 = .ok (.ifCond .ne 10, 3) := by decide +kernel
theorem dX11_stings_30 : decode cX11_stings 30 = .ok (.aload_n 0, 1) := by decide +kernel
theorem dX11_stings_31 : decode cX11_stings 31 = .ok (.bipush (-2), 2) := by decide +kernel
theorem dX11_stings_33 : decode cX11_stings 33 = .ok (.invokevirtual 58, 3) := by decide +kernel
theorem dX11_stings_36 : decode cX11_stings 36 = .ok (.ireturn, 1) := by decide +kernel
theorem dX11_stings_37 : decode cX11_stings 37 = .ok (.iload_n 1, 1) := by decide +kernel
theorem dX11_stings_38 : decode cX11_stings 38 = .ok (.iload_n 2, 1) := by decide +kernel
theorem dX11_stings_39 : decode cX11_stings 39 = .ok (.iload_n 3, 1) := by decide +kernel
theorem dX11_stings_40 : decode cX11_stings 40 = .ok (.invokestatic 111, 3) := by decide +kernel
theorem dX11_stings_43 : decode cX11_stings 43 = .ok (.lstore 4, 2) := by decide +kernel
theorem dX11_stings_45 : decode cX11_stings 45 = .ok (.bipush 10, 2) := by decide +kernel
theorem dX11_stings_47 : decode cX11_stings 47 = .ok (.iload_n 2, 1) := by decide +kernel
theorem dX11_stings_48 : decode cX11_stings 48 = .ok (.invokestatic 115, 3) := by decide +kernel
theorem dX11_stings_51 : decode cX11_stings 51 = .ok (.lstore 6, 2) := by decide +kernel
theorem dX11_stings_53 : decode cX11_stings 53 = .ok (.lload 6, 2) := by decide +kernel
theorem dX11_stings_55 : decode cX11_stings 55 = .ok (.lload 4, 2) := by decide +kernel
theorem dX11_stings_57 : decode cX11_stings 57 = .ok (.invokestatic 119, 3) := by decide +kernel
theorem dX11_stings_60 : decode cX11_stings 60 = .ok (.lstore 8, 2) := by decide +kernel
theorem dX11_stings_62 : decode cX11_stings 62 = .ok (.lload 8, 2) := by decide +kernel
theorem dX11_stings_64 : decode cX11_stings 64 = .ok (.lconst 0, 1) := by decide +kernel
theorem dX11_stings_65 : decode cX11_stings 65 = .ok (.lcmp, 1) := by decide +kernel
theorem dX11_stings_66 : decode cX11_stings 66 = .ok (.ifCond .le 21, 3) := by decide +kernel
theorem dX11_stings_69 : decode cX11_stings 69 = .ok (.aload_n 0, 1) := by decide +kernel
theorem dX11_stings_70 : decode cX11_stings 70 = .ok (.lload 4, 2) := by decide +kernel
theorem dX11_stings_72 : decode cX11_stings 72 = .ok (.lload 8, 2) := by decide +kernel
theorem dX11_stings_74 : decode cX11_stings 74 = .ok (.ldiv, 1) := by decide +kernel
theorem dX11_stings_75 : decode cX11_stings 75 = .ok (.putfield 37, 3) := by decide +kernel
theorem dX11_stings_78 : decode cX11_stings 78 = .ok (.aload_n 0, 1) := by decide +kernel
theorem dX11_stings_79 : decode cX11_stings 79 = .ok (.lload 6, 2) := by decide +kernel
theorem dX11_stings_81 : decode cX11_stings 81 = .ok (.lload 8, 2) := by decide +kernel
theorem dX11_stings_83 : decode cX11_stings 83 = .ok (.ldiv, 1) := by decide +kernel
theorem dX11_stings_84 : decode cX11_stings 84 = .ok (.putfield 41, 3) := by decide +kernel
theorem dX11_stings_87 : decode cX11_stings 87 = .ok (.iconst 1, 1) := by decide +kernel
theorem dX11_stings_88 : decode cX11_stings 88 = .ok (.ireturn, 1) := by decide +kernel
theorem dX11_surest_0 : decode cX11_surest 0 = .ok (.iload_n 1, 1) := by decide +kernel
theorem dX11_surest_1 : decode cX11_surest 1 = .ok (.iconst 0, 1) := by decide +kernel
theorem dX11_surest_2 : decode cX11_surest 2 = .ok (.bipush 10, 2) := by decide +kernel
theorem dX11_surest_4 : decode cX11_surest 4 = .ok (.invokestatic 83, 3) := by decide +kernel
theorem dX11_surest_7 : decode cX11_surest 7 = .ok (.ifCond .eq 17, 3) := by decide +kernel
theorem dX11_surest_10 : decode cX11_surest 10 = .ok (.iload_n 2, 1) := by decide +kernel
theorem dX11_surest_11 : decode cX11_surest 11 = .ok (.iconst 0, 1) := by decide +kernel
theorem dX11_surest_12 : decode cX11_surest 12 = .ok (.bipush 13, 2) := by decide +kernel
theorem dX11_surest_14 : decode cX11_surest 14 = .ok (.invokestatic 83, 3) := by decide +kernel
theorem dX11_surest_17 : decode cX11_surest 17 = .ok (.ifCond .eq 7, 3) := by decide +kernel
theorem dX11_surest_20 : decode cX11_surest 20 = .ok (.iconst 1, 1) := by decide +kernel
theorem dX11_surest_21 : decode cX11_surest 21 = .ok (.goto 4, 3) := by decide +kernel
theorem dX11_surest_24 : decode cX11_surest 24 = .ok (.iconst 0, 1) := by decide +kernel
theorem dX11_surest_25 : decode cX11_surest 25 = .ok (.istore 5, 2) := by decide +kernel
theorem dX11_surest_27 : decode cX11_surest 27 = .ok (.iload 5, 2) := by decide +kernel
theorem dX11_surest_29 : decode cX11_surest 29 = .ok (.ifCond .eq 24, 3) := by decide +kernel
theorem dX11_surest_32 : decode cX11_surest 32 = .ok (.iload 4, 2) := by decide +kernel
theorem dX11_surest_34 : decode cX11_surest 34 = .ok (.iconst 1, 1) := by decide +kernel
theorem dX11_surest_35 : decode cX11_surest 35 = .ok (.bipush 99, 2) := by decide +kernel
theorem dX11_surest_37 : decode cX11_surest 37 = .ok (.invokestatic 83, 3) := by decide +kernel
theorem dX11_surest_40 : decode cX11_surest 40 = .ok (.ifCond .eq 13, 3) := by decide +kernel
theorem dX11_surest_43 : decode cX11_surest 43 = .ok (.iload_n 3, 1) := by decide +kernel
theorem dX11_surest_44 : decode cX11_surest 44 = .ok (.iconst 1, 1) := by decide +kernel
theorem dX11_surest_45 : decode cX11_surest 45 = .ok (.iload 4, 2) := by decide +kernel
theorem dX11_surest_47 : decode cX11_surest 47 = .ok (.invokestatic 83, 3) := by decide +kernel
theorem dX11_surest_50 : decode cX11_surest 50 = .ok (.ifCond .ne 10, 3) := by decide +kernel
theorem dX11_surest_53 : decode cX11_surest 53 = .ok (.aload_n 0, 1) := by decide +kernel
theorem dX11_surest_54 : decode cX11_surest 54 = .ok (.bipush (-2), 2) := by decide +kernel
theorem dX11_surest_56 : decode cX11_surest 56 = .ok (.invokevirtual 58, 3) := by decide +kernel
theorem dX11_surest_59 : decode cX11_surest 59 = .ok (.ireturn, 1) := by decide +kernel
theorem dX11_surest_60 : decode cX11_surest 60 = .ok (.bipush 12, 2) := by decide +kernel
theorem dX11_surest_62 : decode cX11_surest 62 = .ok (.istore 6, 2) := by decide +kernel
theorem dX11_surest_64 : decode cX11_surest 64 = .ok (.iload 6, 2) := by decide +kernel
theorem dX11_surest_66 : decode cX11_surest 66 = .ok (.ifCond .lt 37, 3) := by decide +kernel
theorem dX11_surest_69 : decode cX11_surest 69 = .ok (.iload_n 1, 1) := by decide +kernel
theorem dX11_surest_70 : decode cX11_surest 70 = .ok (.iload 6, 2) := by decide +kernel
theorem dX11_surest_72 : decode cX11_surest 72 = .ok (.iload_n 2, 1) := by decide +kernel
theorem dX11_surest_73 : decode cX11_surest 73 = .ok (.invokestatic 111, 3) := by decide +kernel
theorem dX11_surest_76 : decode cX11_surest 76 = .ok (.iload 4, 2) := by decide +kernel
theorem dX11_surest_78 : decode cX11_surest 78 = .ok (.i2l, 1) := by decide +kernel
theorem dX11_surest_79 : decode cX11_surest 79 = .ok (.lmul, 1) := by decide +kernel
theorem dX11_surest_80 : decode cX11_surest 80 = .ok (.bipush 10, 2) := by decide +kernel
theorem dX11_surest_82 : decode cX11_surest 82 = .ok (.iload 6, 2) := by decide +kernel
theorem dX11_surest_84 : decode cX11_surest 84 = .ok (.invokestatic 115, 3) := by decide +kernel
theorem dX11_surest_87 : decode cX11_surest 87 = .ok (.iload_n 3, 1) := by decide +kernel
theorem dX11_surest_88 : decode cX11_surest 88 = .ok (.i2l, 1) := by decide +kernel
theorem dX11_surest_89 : decode cX11_surest 89 = .ok (.lmul, 1) := by decide +kernel
theorem dX11_surest_90 : decode cX11_surest 90 = .ok (.lcmp, 1) := by decide +kernel
theorem dX11_surest_91 : decode cX11_surest 91 = .ok (.ifCond .lt 6, 3) := by decide +kernel
theorem dX11_surest_94 : decode cX11_surest 94 = .ok (.iload 6, 2) := by decide +kernel
theorem dX11_surest_96 : decode cX11_surest 96 = .ok (.ireturn, 1) := by decide +kernel
theorem dX11_surest_97 : decode cX11_surest 97 = .ok (.iinc 6 (-1), 3) := by decide +kernel
theorem dX11_surest_100 : decode cX11_surest 100 = .ok (.goto (-36), 3) := by decide +kernel
theorem dX11_surest_103 : decode cX11_surest 103 = .ok (.iconst (-1), 1) := by decide +kernel
theorem dX11_surest_104 : decode cX11_surest 104 = .ok (.ireturn, 1) := by decide +kernel
theorem dX11_told_0 : decode cX11_told 0 = .ok (.aload_n 0, 1) := by decide +kernel
theorem dX11_told_1 : decode cX11_told 1 = .ok (.aload_n 0, 1) := by decide +kernel
theorem dX11_told_2 : decode cX11_told 2 = .ok (.getfield 10, 3) := by decide +kernel
theorem dX11_told_5 : decode cX11_told 5 = .ok (.iload_n 1, 1) := by decide +kernel
theorem dX11_told_6 : decode cX11_told 6 = .ok (.iload_n 2, 1) := by decide +kernel
theorem dX11_told_7 : decode cX11_told 7 = .ok (.invokevirtual 123, 3) := by decide +kernel
theorem dX11_told_10 : decode cX11_told 10 = .ok (.invokevirtual 58, 3) := by decide +kernel
theorem dX11_told_13 : decode cX11_told 13 = .ok (.ireturn, 1) := by decide +kernel
theorem dX11_bare_0 : decode cX11_bare 0 = .ok (.iload_n 1, 1) := by decide +kernel
theorem dX11_bare_1 : decode cX11_bare 1 = .ok (.iconst 0, 1) := by decide +kernel
theorem dX11_bare_2 : decode cX11_bare 2 = .ok (.iconst 4, 1) := by decide +kernel
theorem dX11_bare_3 : decode cX11_bare 3 = .ok (.invokestatic 83, 3) := by decide +kernel
theorem dX11_bare_6 : decode cX11_bare 6 = .ok (.ifCond .eq 12, 3) := by decide +kernel
theorem dX11_bare_9 : decode cX11_bare 9 = .ok (.iload_n 2, 1) := by decide +kernel
theorem dX11_bare_10 : decode cX11_bare 10 = .ok (.iconst 0, 1) := by decide +kernel
theorem dX11_bare_11 : decode cX11_bare 11 = .ok (.iconst 1, 1) := by decide +kernel
theorem dX11_bare_12 : decode cX11_bare 12 = .ok (.invokestatic 83, 3) := by decide +kernel
theorem dX11_bare_15 : decode cX11_bare 15 = .ok (.ifCond .ne 10, 3) := by decide +kernel
theorem dX11_bare_18 : decode cX11_bare 18 = .ok (.aload_n 0, 1) := by decide +kernel
theorem dX11_bare_19 : decode cX11_bare 19 = .ok (.bipush (-2), 2) := by decide +kernel
theorem dX11_bare_21 : decode cX11_bare 21 = .ok (.invokevirtual 58, 3) := by decide +kernel
theorem dX11_bare_24 : decode cX11_bare 24 = .ok (.ireturn, 1) := by decide +kernel
theorem dX11_bare_25 : decode cX11_bare 25 = .ok (.aload_n 0, 1) := by decide +kernel
theorem dX11_bare_26 : decode cX11_bare 26 = .ok (.getfield 26, 3) := by decide +kernel
theorem dX11_bare_29 : decode cX11_bare 29 = .ok (.aload_n 0, 1) := by decide +kernel
theorem dX11_bare_30 : decode cX11_bare 30 = .ok (.getfield 10, 3) := by decide +kernel
theorem dX11_bare_33 : decode cX11_bare 33 = .ok (.iload_n 1, 1) := by decide +kernel
theorem dX11_bare_34 : decode cX11_bare 34 = .ok (.invokevirtual 126, 3) := by decide +kernel
theorem dX11_bare_37 : decode cX11_bare 37 = .ok (.istore_n 3, 1) := by decide +kernel
theorem dX11_bare_38 : decode cX11_bare 38 = .ok (.iload_n 2, 1) := by decide +kernel
theorem dX11_bare_39 : decode cX11_bare 39 = .ok (.ifCond .ne 5, 3) := by decide +kernel
theorem dX11_bare_42 : decode cX11_bare 42 = .ok (.iload_n 3, 1) := by decide +kernel
theorem dX11_bare_43 : decode cX11_bare 43 = .ok (.ireturn, 1) := by decide +kernel
theorem dX11_bare_44 : decode cX11_bare 44 = .ok (.aload_n 0, 1) := by decide +kernel
theorem dX11_bare_45 : decode cX11_bare 45 = .ok (.iload_n 3, 1) := by decide +kernel
theorem dX11_bare_46 : decode cX11_bare 46 = .ok (.ifCond .ne 8, 3) := by decide +kernel
theorem dX11_bare_49 : decode cX11_bare 49 = .ok (.bipush (-3), 2) := by decide +kernel
theorem dX11_bare_51 : decode cX11_bare 51 = .ok (.goto 10, 3) := by decide +kernel
theorem dX11_bare_54 : decode cX11_bare 54 = .ok (.aload_n 0, 1) := by decide +kernel
theorem dX11_bare_55 : decode cX11_bare 55 = .ok (.getfield 26, 3) := by decide +kernel
theorem dX11_bare_58 : decode cX11_bare 58 = .ok (.invokevirtual 130, 3) := by decide +kernel
theorem dX11_bare_61 : decode cX11_bare 61 = .ok (.invokevirtual 58, 3) := by decide +kernel
theorem dX11_bare_64 : decode cX11_bare 64 = .ok (.ireturn, 1) := by decide +kernel
theorem dX11_sign_0 : decode cX11_sign 0 = .ok (.aload_n 0, 1) := by decide +kernel
theorem dX11_sign_1 : decode cX11_sign 1 = .ok (.aload_n 0, 1) := by decide +kernel
theorem dX11_sign_2 : decode cX11_sign 2 = .ok (.getfield 10, 3) := by decide +kernel
theorem dX11_sign_5 : decode cX11_sign 5 = .ok (.getfield 133, 3) := by decide +kernel
theorem dX11_sign_8 : decode cX11_sign 8 = .ok (.iload_n 1, 1) := by decide +kernel
theorem dX11_sign_9 : decode cX11_sign 9 = .ok (.invokevirtual 137, 3) := by decide +kernel
theorem dX11_sign_12 : decode cX11_sign 12 = .ok (.invokevirtual 58, 3) := by decide +kernel
theorem dX11_sign_15 : decode cX11_sign 15 = .ok (.ireturn, 1) := by decide +kernel
theorem dX11_hush_0 : decode cX11_hush 0 = .ok (.aload_n 0, 1) := by decide +kernel
theorem dX11_hush_1 : decode cX11_hush 1 = .ok (.getfield 10, 3) := by decide +kernel
theorem dX11_hush_4 : decode cX11_hush 4 = .ok (.getfield 133, 3) := by decide +kernel
theorem dX11_hush_7 : decode cX11_hush 7 = .ok (.invokevirtual 142, 3) := by decide +kernel
theorem dX11_hush_10 : decode cX11_hush 10 = .ok (.ireturn, 1) := by decide +kernel
theorem dX11_law_0 : decode cX11_law 0 = .ok (.aload_n 0, 1) := by decide +kernel
theorem dX11_law_1 : decode cX11_law 1 = .ok (.aload_n 0, 1) := by decide +kernel
theorem dX11_law_2 : decode cX11_law 2 = .ok (.getfield 10, 3) := by decide +kernel
theorem dX11_law_5 : decode cX11_law 5 = .ok (.getfield 133, 3) := by decide +kernel
theorem dX11_law_8 : decode cX11_law 8 = .ok (.iload_n 1, 1) := by decide +kernel
theorem dX11_law_9 : decode cX11_law 9 = .ok (.iload_n 2, 1) := by decide +kernel
theorem dX11_law_10 : decode cX11_law 10 = .ok (.invokevirtual 145, 3) := by decide +kernel
theorem dX11_law_13 : decode cX11_law 13 = .ok (.invokevirtual 58, 3) := by decide +kernel
theorem dX11_law_16 : decode cX11_law 16 = .ok (.ireturn, 1) := by decide +kernel
theorem dX11_noLaw_0 : decode cX11_noLaw 0 = .ok (.aload_n 0, 1) := by decide +kernel
theorem dX11_noLaw_1 : decode cX11_noLaw 1 = .ok (.aload_n 0, 1) := by decide +kernel
theorem dX11_noLaw_2 : decode cX11_noLaw 2 = .ok (.getfield 10, 3) := by decide +kernel
theorem dX11_noLaw_5 : decode cX11_noLaw 5 = .ok (.getfield 133, 3) := by decide +kernel
theorem dX11_noLaw_8 : decode cX11_noLaw 8 = .ok (.iload_n 1, 1) := by decide +kernel
theorem dX11_noLaw_9 : decode cX11_noLaw 9 = .ok (.invokevirtual 148, 3) := by decide +kernel
theorem dX11_noLaw_12 : decode cX11_noLaw 12 = .ok (.invokevirtual 58, 3) := by decide +kernel
theorem dX11_noLaw_15 : decode cX11_noLaw 15 = .ok (.ireturn, 1) := by decide +kernel
theorem dX11_word_0 : decode cX11_word 0 = .ok (.aload_n 0, 1) := by decide +kernel
theorem dX11_word_1 : decode cX11_word 1 = .ok (.iload_n 1, 1) := by decide +kernel
theorem dX11_word_2 : decode cX11_word 2 = .ok (.invokestatic 151, 3) := by decide +kernel
theorem dX11_word_5 : decode cX11_word 5 = .ok (.ifCond .eq 17, 3) := by decide +kernel
theorem dX11_word_8 : decode cX11_word 8 = .ok (.aload_n 0, 1) := by decide +kernel
theorem dX11_word_9 : decode cX11_word 9 = .ok (.getfield 10, 3) := by decide +kernel
theorem dX11_word_12 : decode cX11_word 12 = .ok (.getfield 133, 3) := by decide +kernel
theorem dX11_word_15 : decode cX11_word 15 = .ok (.iload_n 1, 1) := by decide +kernel
theorem dX11_word_16 : decode cX11_word 16 = .ok (.invokevirtual 154, 3) := by decide +kernel
theorem dX11_word_19 : decode cX11_word 19 = .ok (.goto 5, 3) := by decide +kernel
theorem dX11_word_22 : decode cX11_word 22 = .ok (.bipush (-2), 2) := by decide +kernel
theorem dX11_word_24 : decode cX11_word 24 = .ok (.invokevirtual 58, 3) := by decide +kernel
theorem dX11_word_27 : decode cX11_word 27 = .ok (.ireturn, 1) := by decide +kernel
theorem dX11_silent_0 : decode cX11_silent 0 = .ok (.aload_n 0, 1) := by decide +kernel
theorem dX11_silent_1 : decode cX11_silent 1 = .ok (.getfield 10, 3) := by decide +kernel
theorem dX11_silent_4 : decode cX11_silent 4 = .ok (.getfield 133, 3) := by decide +kernel
theorem dX11_silent_7 : decode cX11_silent 7 = .ok (.invokevirtual 157, 3) := by decide +kernel
theorem dX11_silent_10 : decode cX11_silent 10 = .ok (.ireturn, 1) := by decide +kernel
theorem dX11_met_0 : decode cX11_met 0 = .ok (.iload_n 1, 1) := by decide +kernel
theorem dX11_met_1 : decode cX11_met 1 = .ok (.invokestatic 160, 3) := by decide +kernel
theorem dX11_met_4 : decode cX11_met 4 = .ok (.ifCond .eq 8, 3) := by decide +kernel
theorem dX11_met_7 : decode cX11_met 7 = .ok (.iload_n 2, 1) := by decide +kernel
theorem dX11_met_8 : decode cX11_met 8 = .ok (.iconst (-1), 1) := by decide +kernel
theorem dX11_met_9 : decode cX11_met 9 = .ok (.if_icmp .ge 8, 3) := by decide +kernel
theorem dX11_met_12 : decode cX11_met 12 = .ok (.aload_n 0, 1) := by decide +kernel
theorem dX11_met_13 : decode cX11_met 13 = .ok (.invokevirtual 87, 3) := by decide +kernel
theorem dX11_met_16 : decode cX11_met 16 = .ok (.ireturn, 1) := by decide +kernel
theorem dX11_met_17 : decode cX11_met 17 = .ok (.aload_n 0, 1) := by decide +kernel
theorem dX11_met_18 : decode cX11_met 18 = .ok (.getfield 10, 3) := by decide +kernel
theorem dX11_met_21 : decode cX11_met 21 = .ok (.getfield 133, 3) := by decide +kernel
theorem dX11_met_24 : decode cX11_met 24 = .ok (.iload_n 1, 1) := by decide +kernel
theorem dX11_met_25 : decode cX11_met 25 = .ok (.invokevirtual 163, 3) := by decide +kernel
theorem dX11_met_28 : decode cX11_met 28 = .ok (.istore_n 3, 1) := by decide +kernel
theorem dX11_met_29 : decode cX11_met 29 = .ok (.iload_n 3, 1) := by decide +kernel
theorem dX11_met_30 : decode cX11_met 30 = .ok (.iconst (-1), 1) := by decide +kernel
theorem dX11_met_31 : decode cX11_met 31 = .ok (.if_icmp .eq 8, 3) := by decide +kernel
theorem dX11_met_34 : decode cX11_met 34 = .ok (.iload_n 2, 1) := by decide +kernel
theorem dX11_met_35 : decode cX11_met 35 = .ok (.iconst (-1), 1) := by decide +kernel
theorem dX11_met_36 : decode cX11_met 36 = .ok (.if_icmp .ne 5, 3) := by decide +kernel
theorem dX11_met_39 : decode cX11_met 39 = .ok (.iload_n 3, 1) := by decide +kernel
theorem dX11_met_40 : decode cX11_met 40 = .ok (.ireturn, 1) := by decide +kernel
theorem dX11_met_41 : decode cX11_met 41 = .ok (.iload_n 2, 1) := by decide +kernel
theorem dX11_met_42 : decode cX11_met 42 = .ok (.iload_n 3, 1) := by decide +kernel
theorem dX11_met_43 : decode cX11_met 43 = .ok (.if_icmp .ge 17, 3) := by decide +kernel
theorem dX11_met_46 : decode cX11_met 46 = .ok (.aload_n 0, 1) := by decide +kernel
theorem dX11_met_47 : decode cX11_met 47 = .ok (.getfield 10, 3) := by decide +kernel
theorem dX11_met_50 : decode cX11_met 50 = .ok (.getfield 133, 3) := by decide +kernel
theorem dX11_met_53 : decode cX11_met 53 = .ok (.iload_n 2, 1) := by decide +kernel
theorem dX11_met_54 : decode cX11_met 54 = .ok (.invokevirtual 166, 3) := by decide +kernel
theorem dX11_met_57 : decode cX11_met 57 = .ok (.goto 5, 3) := by decide +kernel
theorem dX11_met_60 : decode cX11_met 60 = .ok (.bipush (-5), 2) := by decide +kernel
theorem dX11_met_62 : decode cX11_met 62 = .ok (.ireturn, 1) := by decide +kernel
theorem dX11_show_0 : decode cX11_show 0 = .ok (.aload_n 0, 1) := by decide +kernel
theorem dX11_show_1 : decode cX11_show 1 = .ok (.aload_n 0, 1) := by decide +kernel
theorem dX11_show_2 : decode cX11_show 2 = .ok (.getfield 10, 3) := by decide +kernel
theorem dX11_show_5 : decode cX11_show 5 = .ok (.getfield 169, 3) := by decide +kernel
theorem dX11_show_8 : decode cX11_show 8 = .ok (.iload_n 1, 1) := by decide +kernel
theorem dX11_show_9 : decode cX11_show 9 = .ok (.iload_n 2, 1) := by decide +kernel
theorem dX11_show_10 : decode cX11_show 10 = .ok (.invokevirtual 173, 3) := by decide +kernel
theorem dX11_show_13 : decode cX11_show 13 = .ok (.invokevirtual 58, 3) := by decide +kernel
theorem dX11_show_16 : decode cX11_show 16 = .ok (.ireturn, 1) := by decide +kernel
theorem dX11_noTrial_0 : decode cX11_noTrial 0 = .ok (.aload_n 0, 1) := by decide +kernel
theorem dX11_noTrial_1 : decode cX11_noTrial 1 = .ok (.getfield 10, 3) := by decide +kernel
theorem dX11_noTrial_4 : decode cX11_noTrial 4 = .ok (.getfield 169, 3) := by decide +kernel
theorem dX11_noTrial_7 : decode cX11_noTrial 7 = .ok (.invokevirtual 178, 3) := by decide +kernel
theorem dX11_noTrial_10 : decode cX11_noTrial 10 = .ok (.ireturn, 1) := by decide +kernel
theorem dX11_lasts_0 : decode cX11_lasts 0 = .ok (.iload_n 1, 1) := by decide +kernel
theorem dX11_lasts_1 : decode cX11_lasts 1 = .ok (.iconst 1, 1) := by decide +kernel
theorem dX11_lasts_2 : decode cX11_lasts 2 = .ok (.bipush 20, 2) := by decide +kernel
theorem dX11_lasts_4 : decode cX11_lasts 4 = .ok (.invokestatic 83, 3) := by decide +kernel
theorem dX11_lasts_7 : decode cX11_lasts 7 = .ok (.ifCond .eq 12, 3) := by decide +kernel
theorem dX11_lasts_10 : decode cX11_lasts 10 = .ok (.iload_n 2, 1) := by decide +kernel
theorem dX11_lasts_11 : decode cX11_lasts 11 = .ok (.iconst 0, 1) := by decide +kernel
theorem dX11_lasts_12 : decode cX11_lasts 12 = .ok (.iconst 1, 1) := by decide +kernel
theorem dX11_lasts_13 : decode cX11_lasts 13 = .ok (.invokestatic 83, 3) := by decide +kernel
theorem dX11_lasts_16 : decode cX11_lasts 16 = .ok (.ifCond .ne 10, 3) := by decide +kernel
theorem dX11_lasts_19 : decode cX11_lasts 19 = .ok (.aload_n 0, 1) := by decide +kernel
theorem dX11_lasts_20 : decode cX11_lasts 20 = .ok (.bipush (-2), 2) := by decide +kernel
theorem dX11_lasts_22 : decode cX11_lasts 22 = .ok (.invokevirtual 58, 3) := by decide +kernel
theorem dX11_lasts_25 : decode cX11_lasts 25 = .ok (.ireturn, 1) := by decide +kernel
theorem dX11_lasts_26 : decode cX11_lasts 26 = .ok (.aload_n 0, 1) := by decide +kernel
theorem dX11_lasts_27 : decode cX11_lasts 27 = .ok (.getfield 10, 3) := by decide +kernel
theorem dX11_lasts_30 : decode cX11_lasts 30 = .ok (.getfield 169, 3) := by decide +kernel
theorem dX11_lasts_33 : decode cX11_lasts 33 = .ok (.iload_n 1, 1) := by decide +kernel
theorem dX11_lasts_34 : decode cX11_lasts 34 = .ok (.invokevirtual 181, 3) := by decide +kernel
theorem dX11_lasts_37 : decode cX11_lasts 37 = .ok (.istore_n 3, 1) := by decide +kernel
theorem dX11_lasts_38 : decode cX11_lasts 38 = .ok (.iload_n 2, 1) := by decide +kernel
theorem dX11_lasts_39 : decode cX11_lasts 39 = .ok (.ifCond .ne 7, 3) := by decide +kernel
theorem dX11_lasts_42 : decode cX11_lasts 42 = .ok (.iload_n 3, 1) := by decide +kernel
theorem dX11_lasts_43 : decode cX11_lasts 43 = .ok (.goto 13, 3) := by decide +kernel
theorem dX11_lasts_46 : decode cX11_lasts 46 = .ok (.aload_n 0, 1) := by decide +kernel
theorem dX11_lasts_47 : decode cX11_lasts 47 = .ok (.getfield 10, 3) := by decide +kernel
theorem dX11_lasts_50 : decode cX11_lasts 50 = .ok (.getfield 169, 3) := by decide +kernel
theorem dX11_lasts_53 : decode cX11_lasts 53 = .ok (.invokevirtual 184, 3) := by decide +kernel
theorem dX11_lasts_56 : decode cX11_lasts 56 = .ok (.ireturn, 1) := by decide +kernel
theorem dX11_type_0 : decode cX11_type 0 = .ok (.aload_n 0, 1) := by decide +kernel
theorem dX11_type_1 : decode cX11_type 1 = .ok (.aload_n 0, 1) := by decide +kernel
theorem dX11_type_2 : decode cX11_type 2 = .ok (.getfield 33, 3) := by decide +kernel
theorem dX11_type_5 : decode cX11_type 5 = .ok (.lload_n 1, 1) := by decide +kernel
theorem dX11_type_6 : decode cX11_type 6 = .ok (.iload_n 3, 1) := by decide +kernel
theorem dX11_type_7 : decode cX11_type 7 = .ok (.invokevirtual 187, 3) := by decide +kernel
theorem dX11_type_10 : decode cX11_type 10 = .ok (.invokevirtual 58, 3) := by decide +kernel
theorem dX11_type_13 : decode cX11_type 13 = .ok (.ireturn, 1) := by decide +kernel
theorem dX11_clear_0 : decode cX11_clear 0 = .ok (.aload_n 0, 1) := by decide +kernel
theorem dX11_clear_1 : decode cX11_clear 1 = .ok (.getfield 33, 3) := by decide +kernel
theorem dX11_clear_4 : decode cX11_clear 4 = .ok (.invokevirtual 191, 3) := by decide +kernel
theorem dX11_clear_7 : decode cX11_clear 7 = .ok (.ireturn, 1) := by decide +kernel
theorem dX11_read_0 : decode cX11_read 0 = .ok (.aload_n 0, 1) := by decide +kernel
theorem dX11_read_1 : decode cX11_read 1 = .ok (.getfield 33, 3) := by decide +kernel
theorem dX11_read_4 : decode cX11_read 4 = .ok (.invokevirtual 192, 3) := by decide +kernel
theorem dX11_read_7 : decode cX11_read 7 = .ok (.istore_n 1, 1) := by decide +kernel
theorem dX11_read_8 : decode cX11_read 8 = .ok (.iload_n 1, 1) := by decide +kernel
theorem dX11_read_9 : decode cX11_read 9 = .ok (.iconst (-1), 1) := by decide +kernel
theorem dX11_read_10 : decode cX11_read 10 = .ok (.if_icmp .eq 8, 3) := by decide +kernel
theorem dX11_read_13 : decode cX11_read 13 = .ok (.bipush (-10), 2) := by decide +kernel
theorem dX11_read_15 : decode cX11_read 15 = .ok (.iload_n 1, 1) := by decide +kernel
theorem dX11_read_16 : decode cX11_read 16 = .ok (.isub, 1) := by decide +kernel
theorem dX11_read_17 : decode cX11_read 17 = .ok (.ireturn, 1) := by decide +kernel
theorem dX11_read_18 : decode cX11_read 18 = .ok (.aload_n 0, 1) := by decide +kernel
theorem dX11_read_19 : decode cX11_read 19 = .ok (.getfield 16, 3) := by decide +kernel
theorem dX11_read_22 : decode cX11_read 22 = .ok (.invokevirtual 195, 3) := by decide +kernel
theorem dX11_read_25 : decode cX11_read 25 = .ok (.aload_n 0, 1) := by decide +kernel
theorem dX11_read_26 : decode cX11_read 26 = .ok (.getfield 33, 3) := by decide +kernel
theorem dX11_read_29 : decode cX11_read 29 = .ok (.aload_n 0, 1) := by decide +kernel
theorem dX11_read_30 : decode cX11_read 30 = .ok (.getfield 16, 3) := by decide +kernel
theorem dX11_read_33 : decode cX11_read 33 = .ok (.invokevirtual 198, 3) := by decide +kernel
theorem dX11_read_36 : decode cX11_read 36 = .ok (.istore_n 2, 1) := by decide +kernel
theorem dX11_read_37 : decode cX11_read 37 = .ok (.iload_n 2, 1) := by decide +kernel
theorem dX11_read_38 : decode cX11_read 38 = .ok (.iconst (-1), 1) := by decide +kernel
theorem dX11_read_39 : decode cX11_read 39 = .ok (.if_icmp .eq 9, 3) := by decide +kernel
theorem dX11_read_42 : decode cX11_read 42 = .ok (.sipush (-1000), 3) := by decide +kernel
theorem dX11_read_45 : decode cX11_read 45 = .ok (.iload_n 2, 1) := by decide +kernel
theorem dX11_read_46 : decode cX11_read 46 = .ok (.isub, 1) := by decide +kernel
theorem dX11_read_47 : decode cX11_read 47 = .ok (.ireturn, 1) := by decide +kernel
theorem dX11_read_48 : decode cX11_read 48 = .ok (.aload_n 0, 1) := by decide +kernel
theorem dX11_read_49 : decode cX11_read 49 = .ok (.getfield 10, 3) := by decide +kernel
theorem dX11_read_52 : decode cX11_read 52 = .ok (.aload_n 0, 1) := by decide +kernel
theorem dX11_read_53 : decode cX11_read 53 = .ok (.getfield 16, 3) := by decide +kernel
theorem dX11_read_56 : decode cX11_read 56 = .ok (.invokevirtual 202, 3) := by decide +kernel
theorem dX11_read_59 : decode cX11_read 59 = .ok (.aload_n 0, 1) := by decide +kernel
theorem dX11_read_60 : decode cX11_read 60 = .ok (.getfield 33, 3) := by decide +kernel
theorem dX11_read_63 : decode cX11_read 63 = .ok (.invokevirtual 206, 3) := by decide +kernel
theorem dX11_read_66 : decode cX11_read 66 = .ok (.ireturn, 1) := by decide +kernel
theorem dX11_part_0 : decode cX11_part 0 = .ok (.iload_n 1, 1) := by decide +kernel
theorem dX11_part_1 : decode cX11_part 1 = .ok (.ifCond .ne 8, 3) := by decide +kernel
theorem dX11_part_4 : decode cX11_part 4 = .ok (.aload_n 0, 1) := by decide +kernel
theorem dX11_part_5 : decode cX11_part 5 = .ok (.getfield 37, 3) := by decide +kernel
theorem dX11_part_8 : decode cX11_part 8 = .ok (.lreturn, 1) := by decide +kernel
theorem dX11_part_9 : decode cX11_part 9 = .ok (.iload_n 1, 1) := by decide +kernel
theorem dX11_part_10 : decode cX11_part 10 = .ok (.iconst 1, 1) := by decide +kernel
theorem dX11_part_11 : decode cX11_part 11 = .ok (.if_icmp .ne 10, 3) := by decide +kernel
theorem dX11_part_14 : decode cX11_part 14 = .ok (.aload_n 0, 1) := by decide +kernel
theorem dX11_part_15 : decode cX11_part 15 = .ok (.getfield 41, 3) := by decide +kernel
theorem dX11_part_18 : decode cX11_part 18 = .ok (.goto 10, 3) := by decide +kernel
theorem dX11_part_21 : decode cX11_part 21 = .ok (.aload_n 0, 1) := by decide +kernel
theorem dX11_part_22 : decode cX11_part 22 = .ok (.bipush (-2), 2) := by decide +kernel
theorem dX11_part_24 : decode cX11_part 24 = .ok (.invokevirtual 58, 3) := by decide +kernel
theorem dX11_part_27 : decode cX11_part 27 = .ok (.i2l, 1) := by decide +kernel
theorem dX11_part_28 : decode cX11_part 28 = .ok (.lreturn, 1) := by decide +kernel
theorem dX11_image_0 : decode cX11_image 0 = .ok (.iload_n 1, 1) := by decide +kernel
theorem dX11_image_1 : decode cX11_image 1 = .ok (.iconst 0, 1) := by decide +kernel
theorem dX11_image_2 : decode cX11_image 2 = .ok (.iconst 1, 1) := by decide +kernel
theorem dX11_image_3 : decode cX11_image 3 = .ok (.invokestatic 83, 3) := by decide +kernel
theorem dX11_image_6 : decode cX11_image 6 = .ok (.ifCond .ne 10, 3) := by decide +kernel
theorem dX11_image_9 : decode cX11_image 9 = .ok (.aload_n 0, 1) := by decide +kernel
theorem dX11_image_10 : decode cX11_image 10 = .ok (.bipush (-2), 2) := by decide +kernel
theorem dX11_image_12 : decode cX11_image 12 = .ok (.invokevirtual 58, 3) := by decide +kernel
theorem dX11_image_15 : decode cX11_image 15 = .ok (.ireturn, 1) := by decide +kernel
theorem dX11_image_16 : decode cX11_image 16 = .ok (.aload_n 0, 1) := by decide +kernel
theorem dX11_image_17 : decode cX11_image 17 = .ok (.getfield 19, 3) := by decide +kernel
theorem dX11_image_20 : decode cX11_image 20 = .ok (.iload_n 1, 1) := by decide +kernel
theorem dX11_image_21 : decode cX11_image 21 = .ok (.aaload, 1) := by decide +kernel
theorem dX11_image_22 : decode cX11_image 22 = .ok (.ifnonnull 16, 3) := by decide +kernel
theorem dX11_image_25 : decode cX11_image 25 = .ok (.aload_n 0, 1) := by decide +kernel
theorem dX11_image_26 : decode cX11_image 26 = .ok (.getfield 19, 3) := by decide +kernel
theorem dX11_image_29 : decode cX11_image 29 = .ok (.iload_n 1, 1) := by decide +kernel
theorem dX11_image_30 : decode cX11_image 30 = .ok (.new 7, 3) := by decide +kernel
theorem dX11_image_33 : decode cX11_image 33 = .ok (.dup, 1) := by decide +kernel
theorem dX11_image_34 : decode cX11_image 34 = .ok (.invokespecial 9, 3) := by decide +kernel
theorem dX11_image_37 : decode cX11_image 37 = .ok (.aastore, 1) := by decide +kernel
theorem dX11_image_38 : decode cX11_image 38 = .ok (.aload_n 0, 1) := by decide +kernel
theorem dX11_image_39 : decode cX11_image 39 = .ok (.getfield 19, 3) := by decide +kernel
theorem dX11_image_42 : decode cX11_image 42 = .ok (.iload_n 1, 1) := by decide +kernel
theorem dX11_image_43 : decode cX11_image 43 = .ok (.aaload, 1) := by decide +kernel
theorem dX11_image_44 : decode cX11_image 44 = .ok (.aload_n 0, 1) := by decide +kernel
theorem dX11_image_45 : decode cX11_image 45 = .ok (.getfield 10, 3) := by decide +kernel
theorem dX11_image_48 : decode cX11_image 48 = .ok (.invokevirtual 202, 3) := by decide +kernel
theorem dX11_image_51 : decode cX11_image 51 = .ok (.iconst 1, 1) := by decide +kernel
theorem dX11_image_52 : decode cX11_image 52 = .ok (.ireturn, 1) := by decide +kernel
theorem dX11_from_0 : decode cX11_from 0 = .ok (.iload_n 1, 1) := by decide +kernel
theorem dX11_from_1 : decode cX11_from 1 = .ok (.iconst 0, 1) := by decide +kernel
theorem dX11_from_2 : decode cX11_from 2 = .ok (.iconst 1, 1) := by decide +kernel
theorem dX11_from_3 : decode cX11_from 3 = .ok (.invokestatic 83, 3) := by decide +kernel
theorem dX11_from_6 : decode cX11_from 6 = .ok (.ifCond .ne 10, 3) := by decide +kernel
theorem dX11_from_9 : decode cX11_from 9 = .ok (.aload_n 0, 1) := by decide +kernel
theorem dX11_from_10 : decode cX11_from 10 = .ok (.bipush (-2), 2) := by decide +kernel
theorem dX11_from_12 : decode cX11_from 12 = .ok (.invokevirtual 58, 3) := by decide +kernel
theorem dX11_from_15 : decode cX11_from 15 = .ok (.ireturn, 1) := by decide +kernel
theorem dX11_from_16 : decode cX11_from 16 = .ok (.aload_n 0, 1) := by decide +kernel
theorem dX11_from_17 : decode cX11_from 17 = .ok (.getfield 19, 3) := by decide +kernel
theorem dX11_from_20 : decode cX11_from 20 = .ok (.iload_n 1, 1) := by decide +kernel
theorem dX11_from_21 : decode cX11_from 21 = .ok (.aaload, 1) := by decide +kernel
theorem dX11_from_22 : decode cX11_from 22 = .ok (.ifnonnull 10, 3) := by decide +kernel
theorem dX11_from_25 : decode cX11_from 25 = .ok (.aload_n 0, 1) := by decide +kernel
theorem dX11_from_26 : decode cX11_from 26 = .ok (.bipush (-3), 2) := by decide +kernel
theorem dX11_from_28 : decode cX11_from 28 = .ok (.invokevirtual 58, 3) := by decide +kernel
theorem dX11_from_31 : decode cX11_from 31 = .ok (.ireturn, 1) := by decide +kernel
theorem dX11_from_32 : decode cX11_from 32 = .ok (.aload_n 0, 1) := by decide +kernel
theorem dX11_from_33 : decode cX11_from 33 = .ok (.getfield 10, 3) := by decide +kernel
theorem dX11_from_36 : decode cX11_from 36 = .ok (.aload_n 0, 1) := by decide +kernel
theorem dX11_from_37 : decode cX11_from 37 = .ok (.getfield 19, 3) := by decide +kernel
theorem dX11_from_40 : decode cX11_from 40 = .ok (.iload_n 1, 1) := by decide +kernel
theorem dX11_from_41 : decode cX11_from 41 = .ok (.aaload, 1) := by decide +kernel
theorem dX11_from_42 : decode cX11_from 42 = .ok (.invokevirtual 202, 3) := by decide +kernel
theorem dX11_from_45 : decode cX11_from 45 = .ok (.iconst 1, 1) := by decide +kernel
theorem dX11_from_46 : decode cX11_from 46 = .ok (.ireturn, 1) := by decide +kernel
theorem dX11_status_0 : decode cX11_status 0 = .ok (.iload_n 1, 1) := by decide +kernel
theorem dX11_status_1 : decode cX11_status 1 = .ok (.tableswitch 42 0 2 #[27, 32, 37], 27) := by decide +kernel
theorem dX11_status_28 : decode cX11_status 28 = .ok (.aload_n 0, 1) := by decide +kernel
theorem dX11_status_29 : decode cX11_status 29 = .ok (.getfield 44, 3) := by decide +kernel
theorem dX11_status_32 : decode cX11_status 32 = .ok (.ireturn, 1) := by decide +kernel
theorem dX11_status_33 : decode cX11_status 33 = .ok (.aload_n 0, 1) := by decide +kernel
theorem dX11_status_34 : decode cX11_status 34 = .ok (.getfield 48, 3) := by decide +kernel
theorem dX11_status_37 : decode cX11_status 37 = .ok (.ireturn, 1) := by decide +kernel
theorem dX11_status_38 : decode cX11_status 38 = .ok (.aload_n 0, 1) := by decide +kernel
theorem dX11_status_39 : decode cX11_status 39 = .ok (.getfield 51, 3) := by decide +kernel
theorem dX11_status_42 : decode cX11_status 42 = .ok (.ireturn, 1) := by decide +kernel
theorem dX11_status_43 : decode cX11_status 43 = .ok (.aload_n 0, 1) := by decide +kernel
theorem dX11_status_44 : decode cX11_status 44 = .ok (.dup, 1) := by decide +kernel
theorem dX11_status_45 : decode cX11_status 45 = .ok (.getfield 44, 3) := by decide +kernel
theorem dX11_status_48 : decode cX11_status 48 = .ok (.iconst 1, 1) := by decide +kernel
theorem dX11_status_49 : decode cX11_status 49 = .ok (.iadd, 1) := by decide +kernel
theorem dX11_status_50 : decode cX11_status 50 = .ok (.putfield 44, 3) := by decide +kernel
theorem dX11_status_53 : decode cX11_status 53 = .ok (.iconst (-1), 1) := by decide +kernel
theorem dX11_status_54 : decode cX11_status 54 = .ok (.ireturn, 1) := by decide +kernel
theorem dX11_count_0 : decode cX11_count 0 = .ok (.aload_n 0, 1) := by decide +kernel
theorem dX11_count_1 : decode cX11_count 1 = .ok (.aload_n 0, 1) := by decide +kernel
theorem dX11_count_2 : decode cX11_count 2 = .ok (.iload_n 1, 1) := by decide +kernel
theorem dX11_count_3 : decode cX11_count 3 = .ok (.invokevirtual 209, 3) := by decide +kernel
theorem dX11_count_6 : decode cX11_count 6 = .ok (.invokevirtual 58, 3) := by decide +kernel
theorem dX11_count_9 : decode cX11_count 9 = .ok (.ireturn, 1) := by decide +kernel
theorem dX11_digest_0 : decode cX11_digest 0 = .ok (.ldc2_w 212, 3) := by decide +kernel
theorem dX11_digest_3 : decode cX11_digest 3 = .ok (.lstore_n 1, 1) := by decide +kernel
theorem dX11_digest_4 : decode cX11_digest 4 = .ok (.iconst 0, 1) := by decide +kernel
theorem dX11_digest_5 : decode cX11_digest 5 = .ok (.istore_n 3, 1) := by decide +kernel
theorem dX11_digest_6 : decode cX11_digest 6 = .ok (.iload_n 3, 1) := by decide +kernel
theorem dX11_digest_7 : decode cX11_digest 7 = .ok (.bipush 7, 2) := by decide +kernel
theorem dX11_digest_9 : decode cX11_digest 9 = .ok (.if_icmp .gt 22, 3) := by decide +kernel
theorem dX11_digest_12 : decode cX11_digest 12 = .ok (.ldc2_w 214, 3) := by decide +kernel
theorem dX11_digest_15 : decode cX11_digest 15 = .ok (.lload_n 1, 1) := by decide +kernel
theorem dX11_digest_16 : decode cX11_digest 16 = .ok (.lmul, 1) := by decide +kernel
theorem dX11_digest_17 : decode cX11_digest 17 = .ok (.aload_n 0, 1) := by decide +kernel
theorem dX11_digest_18 : decode cX11_digest 18 = .ok (.iload_n 3, 1) := by decide +kernel
theorem dX11_digest_19 : decode cX11_digest 19 = .ok (.invokevirtual 209, 3) := by decide +kernel
theorem dX11_digest_22 : decode cX11_digest 22 = .ok (.i2l, 1) := by decide +kernel
theorem dX11_digest_23 : decode cX11_digest 23 = .ok (.ladd, 1) := by decide +kernel
theorem dX11_digest_24 : decode cX11_digest 24 = .ok (.lstore_n 1, 1) := by decide +kernel
theorem dX11_digest_25 : decode cX11_digest 25 = .ok (.iinc 3 1, 3) := by decide +kernel
theorem dX11_digest_28 : decode cX11_digest 28 = .ok (.goto (-22), 3) := by decide +kernel
theorem dX11_digest_31 : decode cX11_digest 31 = .ok (.aload_n 0, 1) := by decide +kernel
theorem dX11_digest_32 : decode cX11_digest 32 = .ok (.getfield 10, 3) := by decide +kernel
theorem dX11_digest_35 : decode cX11_digest 35 = .ok (.lload_n 1, 1) := by decide +kernel
theorem dX11_digest_36 : decode cX11_digest 36 = .ok (.invokevirtual 216, 3) := by decide +kernel
theorem dX11_digest_39 : decode cX11_digest 39 = .ok (.lstore_n 1, 1) := by decide +kernel
theorem dX11_digest_40 : decode cX11_digest 40 = .ok (.ldc2_w 214, 3) := by decide +kernel
theorem dX11_digest_43 : decode cX11_digest 43 = .ok (.lload_n 1, 1) := by decide +kernel
theorem dX11_digest_44 : decode cX11_digest 44 = .ok (.lmul, 1) := by decide +kernel
theorem dX11_digest_45 : decode cX11_digest 45 = .ok (.aload_n 0, 1) := by decide +kernel
theorem dX11_digest_46 : decode cX11_digest 46 = .ok (.getfield 37, 3) := by decide +kernel
theorem dX11_digest_49 : decode cX11_digest 49 = .ok (.ladd, 1) := by decide +kernel
theorem dX11_digest_50 : decode cX11_digest 50 = .ok (.lstore_n 1, 1) := by decide +kernel
theorem dX11_digest_51 : decode cX11_digest 51 = .ok (.ldc2_w 214, 3) := by decide +kernel
theorem dX11_digest_54 : decode cX11_digest 54 = .ok (.lload_n 1, 1) := by decide +kernel
theorem dX11_digest_55 : decode cX11_digest 55 = .ok (.lmul, 1) := by decide +kernel
theorem dX11_digest_56 : decode cX11_digest 56 = .ok (.aload_n 0, 1) := by decide +kernel
theorem dX11_digest_57 : decode cX11_digest 57 = .ok (.getfield 41, 3) := by decide +kernel
theorem dX11_digest_60 : decode cX11_digest 60 = .ok (.ladd, 1) := by decide +kernel
theorem dX11_digest_61 : decode cX11_digest 61 = .ok (.lreturn, 1) := by decide +kernel
theorem dX11_counted_0 : decode cX11_counted 0 = .ok (.iload_n 1, 1) := by decide +kernel
theorem dX11_counted_1 : decode cX11_counted 1 = .ok (.bipush (-2), 2) := by decide +kernel
theorem dX11_counted_3 : decode cX11_counted 3 = .ok (.if_icmp .ne 16, 3) := by decide +kernel
theorem dX11_counted_6 : decode cX11_counted 6 = .ok (.aload_n 0, 1) := by decide +kernel
theorem dX11_counted_7 : decode cX11_counted 7 = .ok (.dup, 1) := by decide +kernel
theorem dX11_counted_8 : decode cX11_counted 8 = .ok (.getfield 44, 3) := by decide +kernel
theorem dX11_counted_11 : decode cX11_counted 11 = .ok (.iconst 1, 1) := by decide +kernel
theorem dX11_counted_12 : decode cX11_counted 12 = .ok (.iadd, 1) := by decide +kernel
theorem dX11_counted_13 : decode cX11_counted 13 = .ok (.putfield 44, 3) := by decide +kernel
theorem dX11_counted_16 : decode cX11_counted 16 = .ok (.goto 38, 3) := by decide +kernel
theorem dX11_counted_19 : decode cX11_counted 19 = .ok (.iload_n 1, 1) := by decide +kernel
theorem dX11_counted_20 : decode cX11_counted 20 = .ok (.bipush (-3), 2) := by decide +kernel
theorem dX11_counted_22 : decode cX11_counted 22 = .ok (.if_icmp .ne 16, 3) := by decide +kernel
theorem dX11_counted_25 : decode cX11_counted 25 = .ok (.aload_n 0, 1) := by decide +kernel
theorem dX11_counted_26 : decode cX11_counted 26 = .ok (.dup, 1) := by decide +kernel
theorem dX11_counted_27 : decode cX11_counted 27 = .ok (.getfield 48, 3) := by decide +kernel
theorem dX11_counted_30 : decode cX11_counted 30 = .ok (.iconst 1, 1) := by decide +kernel
theorem dX11_counted_31 : decode cX11_counted 31 = .ok (.iadd, 1) := by decide +kernel
theorem dX11_counted_32 : decode cX11_counted 32 = .ok (.putfield 48, 3) := by decide +kernel
theorem dX11_counted_35 : decode cX11_counted 35 = .ok (.goto 19, 3) := by decide +kernel
theorem dX11_counted_38 : decode cX11_counted 38 = .ok (.iload_n 1, 1) := by decide +kernel
theorem dX11_counted_39 : decode cX11_counted 39 = .ok (.bipush (-4), 2) := by decide +kernel
theorem dX11_counted_41 : decode cX11_counted 41 = .ok (.if_icmp .ne 13, 3) := by decide +kernel
theorem dX11_counted_44 : decode cX11_counted 44 = .ok (.aload_n 0, 1) := by decide +kernel
theorem dX11_counted_45 : decode cX11_counted 45 = .ok (.dup, 1) := by decide +kernel
theorem dX11_counted_46 : decode cX11_counted 46 = .ok (.getfield 51, 3) := by decide +kernel
theorem dX11_counted_49 : decode cX11_counted 49 = .ok (.iconst 1, 1) := by decide +kernel
theorem dX11_counted_50 : decode cX11_counted 50 = .ok (.iadd, 1) := by decide +kernel
theorem dX11_counted_51 : decode cX11_counted 51 = .ok (.putfield 51, 3) := by decide +kernel
theorem dX11_counted_54 : decode cX11_counted 54 = .ok (.iload_n 1, 1) := by decide +kernel
theorem dX11_counted_55 : decode cX11_counted 55 = .ok (.ireturn, 1) := by decide +kernel
theorem dX11_badAsked_0 : decode cX11_badAsked 0 = .ok (.aload_n 0, 1) := by decide +kernel
theorem dX11_badAsked_1 : decode cX11_badAsked 1 = .ok (.dup, 1) := by decide +kernel
theorem dX11_badAsked_2 : decode cX11_badAsked 2 = .ok (.getfield 44, 3) := by decide +kernel
theorem dX11_badAsked_5 : decode cX11_badAsked 5 = .ok (.iconst 1, 1) := by decide +kernel
theorem dX11_badAsked_6 : decode cX11_badAsked 6 = .ok (.iadd, 1) := by decide +kernel
theorem dX11_badAsked_7 : decode cX11_badAsked 7 = .ok (.putfield 44, 3) := by decide +kernel
theorem dX11_badAsked_10 : decode cX11_badAsked 10 = .ok (.bipush (-10), 2) := by decide +kernel
theorem dX11_badAsked_12 : decode cX11_badAsked 12 = .ok (.ireturn, 1) := by decide +kernel
theorem dX11_amount_0 : decode cX11_amount 0 = .ok (.iload_n 1, 1) := by decide +kernel
theorem dX11_amount_1 : decode cX11_amount 1 = .ok (.tableswitch 127 0 7 #[47, 55, 63, 74, 82, 93, 106, 119], 47) := by decide +kernel
theorem dX11_amount_48 : decode cX11_amount 48 = .ok (.aload_n 0, 1) := by decide +kernel
theorem dX11_amount_49 : decode cX11_amount 49 = .ok (.getfield 10, 3) := by decide +kernel
theorem dX11_amount_52 : decode cX11_amount 52 = .ok (.getfield 220, 3) := by decide +kernel
theorem dX11_amount_55 : decode cX11_amount 55 = .ok (.ireturn, 1) := by decide +kernel
theorem dX11_amount_56 : decode cX11_amount 56 = .ok (.aload_n 0, 1) := by decide +kernel
theorem dX11_amount_57 : decode cX11_amount 57 = .ok (.getfield 10, 3) := by decide +kernel
theorem dX11_amount_60 : decode cX11_amount 60 = .ok (.getfield 223, 3) := by decide +kernel
theorem dX11_amount_63 : decode cX11_amount 63 = .ok (.ireturn, 1) := by decide +kernel
theorem dX11_amount_64 : decode cX11_amount 64 = .ok (.aload_n 0, 1) := by decide +kernel
theorem dX11_amount_65 : decode cX11_amount 65 = .ok (.getfield 10, 3) := by decide +kernel
theorem dX11_amount_68 : decode cX11_amount 68 = .ok (.getfield 76, 3) := by decide +kernel
theorem dX11_amount_71 : decode cX11_amount 71 = .ok (.bipush 9, 2) := by decide +kernel
theorem dX11_amount_73 : decode cX11_amount 73 = .ok (.iaload, 1) := by decide +kernel
theorem dX11_amount_74 : decode cX11_amount 74 = .ok (.ireturn, 1) := by decide +kernel
theorem dX11_amount_75 : decode cX11_amount 75 = .ok (.aload_n 0, 1) := by decide +kernel
theorem dX11_amount_76 : decode cX11_amount 76 = .ok (.getfield 10, 3) := by decide +kernel
theorem dX11_amount_79 : decode cX11_amount 79 = .ok (.getfield 226, 3) := by decide +kernel
theorem dX11_amount_82 : decode cX11_amount 82 = .ok (.ireturn, 1) := by decide +kernel
theorem dX11_amount_83 : decode cX11_amount 83 = .ok (.aload_n 0, 1) := by decide +kernel
theorem dX11_amount_84 : decode cX11_amount 84 = .ok (.getfield 10, 3) := by decide +kernel
theorem dX11_amount_87 : decode cX11_amount 87 = .ok (.getfield 133, 3) := by decide +kernel
theorem dX11_amount_90 : decode cX11_amount 90 = .ok (.getfield 229, 3) := by decide +kernel
theorem dX11_amount_93 : decode cX11_amount 93 = .ok (.ireturn, 1) := by decide +kernel
theorem dX11_amount_94 : decode cX11_amount 94 = .ok (.aload_n 0, 1) := by decide +kernel
theorem dX11_amount_95 : decode cX11_amount 95 = .ok (.getfield 10, 3) := by decide +kernel
theorem dX11_amount_98 : decode cX11_amount 98 = .ok (.getfield 169, 3) := by decide +kernel
theorem dX11_amount_101 : decode cX11_amount 101 = .ok (.getfield 232, 3) := by decide +kernel
theorem dX11_amount_104 : decode cX11_amount 104 = .ok (.iconst 0, 1) := by decide +kernel
theorem dX11_amount_105 : decode cX11_amount 105 = .ok (.iaload, 1) := by decide +kernel
theorem dX11_amount_106 : decode cX11_amount 106 = .ok (.ireturn, 1) := by decide +kernel
theorem dX11_amount_107 : decode cX11_amount 107 = .ok (.aload_n 0, 1) := by decide +kernel
theorem dX11_amount_108 : decode cX11_amount 108 = .ok (.getfield 10, 3) := by decide +kernel
theorem dX11_amount_111 : decode cX11_amount 111 = .ok (.getfield 169, 3) := by decide +kernel
theorem dX11_amount_114 : decode cX11_amount 114 = .ok (.getfield 232, 3) := by decide +kernel
theorem dX11_amount_117 : decode cX11_amount 117 = .ok (.iconst 1, 1) := by decide +kernel
theorem dX11_amount_118 : decode cX11_amount 118 = .ok (.iaload, 1) := by decide +kernel
theorem dX11_amount_119 : decode cX11_amount 119 = .ok (.ireturn, 1) := by decide +kernel
theorem dX11_amount_120 : decode cX11_amount 120 = .ok (.aload_n 0, 1) := by decide +kernel
theorem dX11_amount_121 : decode cX11_amount 121 = .ok (.getfield 33, 3) := by decide +kernel
theorem dX11_amount_124 : decode cX11_amount 124 = .ok (.getfield 235, 3) := by decide +kernel
theorem dX11_amount_127 : decode cX11_amount 127 = .ok (.ireturn, 1) := by decide +kernel
theorem dX11_amount_128 : decode cX11_amount 128 = .ok (.bipush (-2), 2) := by decide +kernel
theorem dX11_amount_130 : decode cX11_amount 130 = .ok (.ireturn, 1) := by decide +kernel
theorem dX11_within_0 : decode cX11_within 0 = .ok (.iload_n 0, 1) := by decide +kernel
theorem dX11_within_1 : decode cX11_within 1 = .ok (.iload_n 1, 1) := by decide +kernel
theorem dX11_within_2 : decode cX11_within 2 = .ok (.if_icmp .lt 12, 3) := by decide +kernel
theorem dX11_within_5 : decode cX11_within 5 = .ok (.iload_n 0, 1) := by decide +kernel
theorem dX11_within_6 : decode cX11_within 6 = .ok (.iload_n 2, 1) := by decide +kernel
theorem dX11_within_7 : decode cX11_within 7 = .ok (.if_icmp .gt 7, 3) := by decide +kernel
theorem dX11_within_10 : decode cX11_within 10 = .ok (.iconst 1, 1) := by decide +kernel
theorem dX11_within_11 : decode cX11_within 11 = .ok (.goto 4, 3) := by decide +kernel
theorem dX11_within_14 : decode cX11_within 14 = .ok (.iconst 0, 1) := by decide +kernel
theorem dX11_within_15 : decode cX11_within 15 = .ok (.ireturn, 1) := by decide +kernel
theorem dX11_isSet_0 : decode cX11_isSet 0 = .ok (.iload_n 0, 1) := by decide +kernel
theorem dX11_isSet_1 : decode cX11_isSet 1 = .ok (.iload_n 1, 1) := by decide +kernel
theorem dX11_isSet_2 : decode cX11_isSet 2 = .ok (.ishr, 1) := by decide +kernel
theorem dX11_isSet_3 : decode cX11_isSet 3 = .ok (.iconst 1, 1) := by decide +kernel
theorem dX11_isSet_4 : decode cX11_isSet 4 = .ok (.iand, 1) := by decide +kernel
theorem dX11_isSet_5 : decode cX11_isSet 5 = .ok (.iconst 1, 1) := by decide +kernel
theorem dX11_isSet_6 : decode cX11_isSet 6 = .ok (.if_icmp .ne 7, 3) := by decide +kernel
theorem dX11_isSet_9 : decode cX11_isSet 9 = .ok (.iconst 1, 1) := by decide +kernel
theorem dX11_isSet_10 : decode cX11_isSet 10 = .ok (.goto 4, 3) := by decide +kernel
theorem dX11_isSet_13 : decode cX11_isSet 13 = .ok (.iconst 0, 1) := by decide +kernel
theorem dX11_isSet_14 : decode cX11_isSet 14 = .ok (.ireturn, 1) := by decide +kernel
theorem dX11_waysOfFewer_0 : decode cX11_waysOfFewer 0 = .ok (.lconst 0, 1) := by decide +kernel
theorem dX11_waysOfFewer_1 : decode cX11_waysOfFewer 1 = .ok (.lstore_n 3, 1) := by decide +kernel
theorem dX11_waysOfFewer_2 : decode cX11_waysOfFewer 2 = .ok (.lconst 1, 1) := by decide +kernel
theorem dX11_waysOfFewer_3 : decode cX11_waysOfFewer 3 = .ok (.lstore 5, 2) := by decide +kernel
theorem dX11_waysOfFewer_5 : decode cX11_waysOfFewer 5 = .ok (.iconst 0, 1) := by decide +kernel
theorem dX11_waysOfFewer_6 : decode cX11_waysOfFewer 6 = .ok (.istore 7, 2) := by decide +kernel
theorem dX11_waysOfFewer_8 : decode cX11_waysOfFewer 8 = .ok (.iload 7, 2) := by decide +kernel
theorem dX11_waysOfFewer_10 : decode cX11_waysOfFewer 10 = .ok (.iload_n 2, 1) := by decide +kernel
theorem dX11_waysOfFewer_11 : decode cX11_waysOfFewer 11 = .ok (.if_icmp .ge 55, 3) := by decide +kernel
theorem dX11_waysOfFewer_14 : decode cX11_waysOfFewer 14 = .ok (.iload 7, 2) := by decide +kernel
theorem dX11_waysOfFewer_16 : decode cX11_waysOfFewer 16 = .ok (.iload_n 1, 1) := by decide +kernel
theorem dX11_waysOfFewer_17 : decode cX11_waysOfFewer 17 = .ok (.if_icmp .gt 49, 3) := by decide +kernel
theorem dX11_waysOfFewer_20 : decode cX11_waysOfFewer 20 = .ok (.lload_n 3, 1) := by decide +kernel
theorem dX11_waysOfFewer_21 : decode cX11_waysOfFewer 21 = .ok (.lload 5, 2) := by decide +kernel
theorem dX11_waysOfFewer_23 : decode cX11_waysOfFewer 23 = .ok (.iload_n 0, 1) := by decide +kernel
theorem dX11_waysOfFewer_24 : decode cX11_waysOfFewer 24 = .ok (.iload 7, 2) := by decide +kernel
theorem dX11_waysOfFewer_26 : decode cX11_waysOfFewer 26 = .ok (.invokestatic 115, 3) := by decide +kernel
theorem dX11_waysOfFewer_29 : decode cX11_waysOfFewer 29 = .ok (.lmul, 1) := by decide +kernel
theorem dX11_waysOfFewer_30 : decode cX11_waysOfFewer 30 = .ok (.bipush 10, 2) := by decide +kernel
theorem dX11_waysOfFewer_32 : decode cX11_waysOfFewer 32 = .ok (.iload_n 0, 1) := by decide +kernel
theorem dX11_waysOfFewer_33 : decode cX11_waysOfFewer 33 = .ok (.isub, 1) := by decide +kernel
theorem dX11_waysOfFewer_34 : decode cX11_waysOfFewer 34 = .ok (.iload_n 1, 1) := by decide +kernel
theorem dX11_waysOfFewer_35 : decode cX11_waysOfFewer 35 = .ok (.iload 7, 2) := by decide +kernel
theorem dX11_waysOfFewer_37 : decode cX11_waysOfFewer 37 = .ok (.isub, 1) := by decide +kernel
theorem dX11_waysOfFewer_38 : decode cX11_waysOfFewer 38 = .ok (.invokestatic 115, 3) := by decide +kernel
theorem dX11_waysOfFewer_41 : decode cX11_waysOfFewer 41 = .ok (.lmul, 1) := by decide +kernel
theorem dX11_waysOfFewer_42 : decode cX11_waysOfFewer 42 = .ok (.ladd, 1) := by decide +kernel
theorem dX11_waysOfFewer_43 : decode cX11_waysOfFewer 43 = .ok (.lstore_n 3, 1) := by decide +kernel
theorem dX11_waysOfFewer_44 : decode cX11_waysOfFewer 44 = .ok (.lload 5, 2) := by decide +kernel
theorem dX11_waysOfFewer_46 : decode cX11_waysOfFewer 46 = .ok (.iload_n 1, 1) := by decide +kernel
theorem dX11_waysOfFewer_47 : decode cX11_waysOfFewer 47 = .ok (.iload 7, 2) := by decide +kernel
theorem dX11_waysOfFewer_49 : decode cX11_waysOfFewer 49 = .ok (.isub, 1) := by decide +kernel
theorem dX11_waysOfFewer_50 : decode cX11_waysOfFewer 50 = .ok (.i2l, 1) := by decide +kernel
theorem dX11_waysOfFewer_51 : decode cX11_waysOfFewer 51 = .ok (.lmul, 1) := by decide +kernel
theorem dX11_waysOfFewer_52 : decode cX11_waysOfFewer 52 = .ok (.iload 7, 2) := by decide +kernel
theorem dX11_waysOfFewer_54 : decode cX11_waysOfFewer 54 = .ok (.iconst 1, 1) := by decide +kernel
theorem dX11_waysOfFewer_55 : decode cX11_waysOfFewer 55 = .ok (.iadd, 1) := by decide +kernel
theorem dX11_waysOfFewer_56 : decode cX11_waysOfFewer 56 = .ok (.i2l, 1) := by decide +kernel
theorem dX11_waysOfFewer_57 : decode cX11_waysOfFewer 57 = .ok (.ldiv, 1) := by decide +kernel
theorem dX11_waysOfFewer_58 : decode cX11_waysOfFewer 58 = .ok (.lstore 5, 2) := by decide +kernel
theorem dX11_waysOfFewer_60 : decode cX11_waysOfFewer 60 = .ok (.iinc 7 1, 3) := by decide +kernel
theorem dX11_waysOfFewer_63 : decode cX11_waysOfFewer 63 = .ok (.goto (-55), 3) := by decide +kernel
theorem dX11_waysOfFewer_66 : decode cX11_waysOfFewer 66 = .ok (.lload_n 3, 1) := by decide +kernel
theorem dX11_waysOfFewer_67 : decode cX11_waysOfFewer 67 = .ok (.lreturn, 1) := by decide +kernel
theorem dX11_power_0 : decode cX11_power 0 = .ok (.lconst 1, 1) := by decide +kernel
theorem dX11_power_1 : decode cX11_power 1 = .ok (.lstore_n 2, 1) := by decide +kernel
theorem dX11_power_2 : decode cX11_power 2 = .ok (.iconst 0, 1) := by decide +kernel
theorem dX11_power_3 : decode cX11_power 3 = .ok (.istore 4, 2) := by decide +kernel
theorem dX11_power_5 : decode cX11_power 5 = .ok (.iload 4, 2) := by decide +kernel
theorem dX11_power_7 : decode cX11_power 7 = .ok (.iload_n 1, 1) := by decide +kernel
theorem dX11_power_8 : decode cX11_power 8 = .ok (.if_icmp .ge 14, 3) := by decide +kernel
theorem dX11_power_11 : decode cX11_power 11 = .ok (.lload_n 2, 1) := by decide +kernel
theorem dX11_power_12 : decode cX11_power 12 = .ok (.iload_n 0, 1) := by decide +kernel
theorem dX11_power_13 : decode cX11_power 13 = .ok (.i2l, 1) := by decide +kernel
theorem dX11_power_14 : decode cX11_power 14 = .ok (.lmul, 1) := by decide +kernel
theorem dX11_power_15 : decode cX11_power 15 = .ok (.lstore_n 2, 1) := by decide +kernel
theorem dX11_power_16 : decode cX11_power 16 = .ok (.iinc 4 1, 3) := by decide +kernel
theorem dX11_power_19 : decode cX11_power 19 = .ok (.goto (-14), 3) := by decide +kernel
theorem dX11_power_22 : decode cX11_power 22 = .ok (.lload_n 2, 1) := by decide +kernel
theorem dX11_power_23 : decode cX11_power 23 = .ok (.lreturn, 1) := by decide +kernel
theorem dX11_commonDivisor_0 : decode cX11_commonDivisor 0 = .ok (.lload_n 0, 1) := by decide +kernel
theorem dX11_commonDivisor_1 : decode cX11_commonDivisor 1 = .ok (.lstore 4, 2) := by decide +kernel
theorem dX11_commonDivisor_3 : decode cX11_commonDivisor 3 = .ok (.lload_n 2, 1) := by decide +kernel
theorem dX11_commonDivisor_4 : decode cX11_commonDivisor 4 = .ok (.lstore 6, 2) := by decide +kernel
theorem dX11_commonDivisor_6 : decode cX11_commonDivisor 6 = .ok (.iconst 0, 1) := by decide +kernel
theorem dX11_commonDivisor_7 : decode cX11_commonDivisor 7 = .ok (.istore 8, 2) := by decide +kernel
theorem dX11_commonDivisor_9 : decode cX11_commonDivisor 9 = .ok (.iload 8, 2) := by decide +kernel
theorem dX11_commonDivisor_11 : decode cX11_commonDivisor 11 = .ok (.sipush 1000, 3) := by decide +kernel
theorem dX11_commonDivisor_14 : decode cX11_commonDivisor 14 = .ok (.if_icmp .ge 31, 3) := by decide +kernel
theorem dX11_commonDivisor_17 : decode cX11_commonDivisor 17 = .ok (.lload 6, 2) := by decide +kernel
theorem dX11_commonDivisor_19 : decode cX11_commonDivisor 19 = .ok (.lconst 0, 1) := by decide +kernel
theorem dX11_commonDivisor_20 : decode cX11_commonDivisor 20 = .ok (.lcmp, 1) := by decide +kernel
theorem dX11_commonDivisor_21 : decode cX11_commonDivisor 21 = .ok (.ifCond .eq 24, 3) := by decide +kernel
theorem dX11_commonDivisor_24 : decode cX11_commonDivisor 24 = .ok (.lload 4, 2) := by decide +kernel
theorem dX11_commonDivisor_26 : decode cX11_commonDivisor 26 = .ok (.lload 6, 2) := by decide +kernel
theorem dX11_commonDivisor_28 : decode cX11_commonDivisor 28 = .ok (.lrem, 1) := by decide +kernel
theorem dX11_commonDivisor_29 : decode cX11_commonDivisor 29 = .ok (.lstore 9, 2) := by decide +kernel
theorem dX11_commonDivisor_31 : decode cX11_commonDivisor 31 = .ok (.lload 6, 2) := by decide +kernel
theorem dX11_commonDivisor_33 : decode cX11_commonDivisor 33 = .ok (.lstore 4, 2) := by decide +kernel
theorem dX11_commonDivisor_35 : decode cX11_commonDivisor 35 = .ok (.lload 9, 2) := by decide +kernel
theorem dX11_commonDivisor_37 : decode cX11_commonDivisor 37 = .ok (.lstore 6, 2) := by decide +kernel
theorem dX11_commonDivisor_39 : decode cX11_commonDivisor 39 = .ok (.iinc 8 1, 3) := by decide +kernel
theorem dX11_commonDivisor_42 : decode cX11_commonDivisor 42 = .ok (.goto (-33), 3) := by decide +kernel
theorem dX11_commonDivisor_45 : decode cX11_commonDivisor 45 = .ok (.lload 4, 2) := by decide +kernel
theorem dX11_commonDivisor_47 : decode cX11_commonDivisor 47 = .ok (.lreturn, 1) := by decide +kernel
