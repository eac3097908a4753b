theorem dX3_init_0 : decode cX3_init 0 = .ok (.aload_n 0, 1) := by decide +kernel
theorem dX3_init_1 : decode cX3_init 1 = .ok (.invokespecial 3, 3) := by decide +kernel
theorem dX3_init_4 : decode cX3_init 4 = .ok (.aload_n 0, 1) := by decide +kernel
theorem dX3_init_5 : decode cX3_init 5 = .ok (.sipush 200, 3) := by decide +kernel
theorem dX3_init_8 : decode cX3_init 8 = .ok (.newarray .int, 2) := by decide +kernel
theorem dX3_init_10 : decode cX3_init 10 = .ok (.putfield 11, 3) := by decide +kernel
theorem dX3_init_13 : decode cX3_init 13 = .ok (.aload_n 0, 1) := by decide +kernel
theorem dX3_init_14 : decode cX3_init 14 = .ok (.iconst 0, 1) := by decide +kernel
theorem dX3_init_15 : decode cX3_init 15 = .ok (.putfield 15, 3) := by decide +kernel
theorem dX3_init_18 : decode cX3_init 18 = .ok (.aload_n 0, 1) := by decide +kernel
theorem dX3_init_19 : decode cX3_init 19 = .ok (.iconst 0, 1) := by decide +kernel
theorem dX3_init_20 : decode cX3_init 20 = .ok (.putfield 19, 3) := by decide +kernel
theorem dX3_init_23 : decode cX3_init 23 = .ok (.aload_n 0, 1) := by decide +kernel
theorem dX3_init_24 : decode cX3_init 24 = .ok (.iconst 0, 1) := by decide +kernel
theorem dX3_init_25 : decode cX3_init 25 = .ok (.putfield 22, 3) := by decide +kernel
theorem dX3_init_28 : decode cX3_init 28 = .ok (.aload_n 0, 1) := by decide +kernel
theorem dX3_init_29 : decode cX3_init 29 = .ok (.iconst 0, 1) := by decide +kernel
theorem dX3_init_30 : decode cX3_init 30 = .ok (.putfield 25, 3) := by decide +kernel
theorem dX3_init_33 : decode cX3_init 33 = .ok (.aload_n 0, 1) := by decide +kernel
theorem dX3_init_34 : decode cX3_init 34 = .ok (.iconst 0, 1) := by decide +kernel
theorem dX3_init_35 : decode cX3_init 35 = .ok (.putfield 28, 3) := by decide +kernel
theorem dX3_init_38 : decode cX3_init 38 = .ok (.aload_n 0, 1) := by decide +kernel
theorem dX3_init_39 : decode cX3_init 39 = .ok (.iconst (-1), 1) := by decide +kernel
theorem dX3_init_40 : decode cX3_init 40 = .ok (.putfield 31, 3) := by decide +kernel
theorem dX3_init_43 : decode cX3_init 43 = .ok (.aload_n 0, 1) := by decide +kernel
theorem dX3_init_44 : decode cX3_init 44 = .ok (.iconst 0, 1) := by decide +kernel
theorem dX3_init_45 : decode cX3_init 45 = .ok (.putfield 34, 3) := by decide +kernel
theorem dX3_init_48 : decode cX3_init 48 = .ok (.aload_n 0, 1) := by decide +kernel
theorem dX3_init_49 : decode cX3_init 49 = .ok (.iconst 0, 1) := by decide +kernel
theorem dX3_init_50 : decode cX3_init 50 = .ok (.putfield 37, 3) := by decide +kernel
theorem dX3_init_53 : decode cX3_init 53 = .ok (.aload_n 0, 1) := by decide +kernel
theorem dX3_init_54 : decode cX3_init 54 = .ok (.iconst 0, 1) := by decide +kernel
theorem dX3_init_55 : decode cX3_init 55 = .ok (.putfield 40, 3) := by decide +kernel
theorem dX3_init_58 : decode cX3_init 58 = .ok (.aload_n 0, 1) := by decide +kernel
theorem dX3_init_59 : decode cX3_init 59 = .ok (.iconst 0, 1) := by decide +kernel
theorem dX3_init_60 : decode cX3_init 60 = .ok (.putfield 43, 3) := by decide +kernel
theorem dX3_init_63 : decode cX3_init 63 = .ok (.aload_n 0, 1) := by decide +kernel
theorem dX3_init_64 : decode cX3_init 64 = .ok (.iconst 0, 1) := by decide +kernel
theorem dX3_init_65 : decode cX3_init 65 = .ok (.putfield 46, 3) := by decide +kernel
theorem dX3_init_68 : decode cX3_init 68 = .ok (.return_, 1) := by decide +kernel
theorem dX3_addBytes_0 : decode cX3_addBytes 0 = .ok (.iload_n 3, 1) := by decide +kernel
theorem dX3_addBytes_1 : decode cX3_addBytes 1 = .ok (.iconst 1, 1) := by decide +kernel
theorem dX3_addBytes_2 : decode cX3_addBytes 2 = .ok (.if_icmp .lt 9, 3) := by decide +kernel
theorem dX3_addBytes_5 : decode cX3_addBytes 5 = .ok (.iload_n 3, 1) := by decide +kernel
theorem dX3_addBytes_6 : decode cX3_addBytes 6 = .ok (.bipush 8, 2) := by decide +kernel
theorem dX3_addBytes_8 : decode cX3_addBytes 8 = .ok (.if_icmp .le 6, 3) := by decide +kernel
theorem dX3_addBytes_11 : decode cX3_addBytes 11 = .ok (.bipush (-2), 2) := by decide +kernel
theorem dX3_addBytes_13 : decode cX3_addBytes 13 = .ok (.ireturn, 1) := by decide +kernel
theorem dX3_addBytes_14 : decode cX3_addBytes 14 = .ok (.aload_n 0, 1) := by decide +kernel
theorem dX3_addBytes_15 : decode cX3_addBytes 15 = .ok (.getfield 15, 3) := by decide +kernel
theorem dX3_addBytes_18 : decode cX3_addBytes 18 = .ok (.iload_n 3, 1) := by decide +kernel
theorem dX3_addBytes_19 : decode cX3_addBytes 19 = .ok (.iadd, 1) := by decide +kernel
theorem dX3_addBytes_20 : decode cX3_addBytes 20 = .ok (.sipush 200, 3) := by decide +kernel
theorem dX3_addBytes_23 : decode cX3_addBytes 23 = .ok (.if_icmp .le 6, 3) := by decide +kernel
theorem dX3_addBytes_26 : decode cX3_addBytes 26 = .ok (.bipush (-4), 2) := by decide +kernel
theorem dX3_addBytes_28 : decode cX3_addBytes 28 = .ok (.ireturn, 1) := by decide +kernel
theorem dX3_addBytes_29 : decode cX3_addBytes 29 = .ok (.iload_n 3, 1) := by decide +kernel
theorem dX3_addBytes_30 : decode cX3_addBytes 30 = .ok (.iconst 1, 1) := by decide +kernel
theorem dX3_addBytes_31 : decode cX3_addBytes 31 = .ok (.isub, 1) := by decide +kernel
theorem dX3_addBytes_32 : decode cX3_addBytes 32 = .ok (.istore 4, 2) := by decide +kernel
theorem dX3_addBytes_34 : decode cX3_addBytes 34 = .ok (.iload 4, 2) := by decide +kernel
theorem dX3_addBytes_36 : decode cX3_addBytes 36 = .ok (.ifCond .lt 40, 3) := by decide +kernel
theorem dX3_addBytes_39 : decode cX3_addBytes 39 = .ok (.aload_n 0, 1) := by decide +kernel
theorem dX3_addBytes_40 : decode cX3_addBytes 40 = .ok (.getfield 11, 3) := by decide +kernel
theorem dX3_addBytes_43 : decode cX3_addBytes 43 = .ok (.aload_n 0, 1) := by decide +kernel
theorem dX3_addBytes_44 : decode cX3_addBytes 44 = .ok (.getfield 15, 3) := by decide +kernel
theorem dX3_addBytes_47 : decode cX3_addBytes 47 = .ok (.lload_n 1, 1) := by decide +kernel
theorem dX3_addBytes_48 : decode cX3_addBytes 48 = .ok (.bipush 8, 2) := by decide +kernel
theorem dX3_addBytes_50 : decode cX3_addBytes 50 = .ok (.iload 4, 2) := by decide +kernel
theorem dX3_addBytes_52 : decode cX3_addBytes 52 = .ok (.imul, 1) := by decide +kernel
theorem dX3_addBytes_53 : decode cX3_addBytes 53 = .ok (.lshr, 1) := by decide +kernel
theorem dX3_addBytes_54 : decode cX3_addBytes 54 = .ok (.ldc2_w 49, 3) := by decide +kernel
theorem dX3_addBytes_57 : decode cX3_addBytes 57 = .ok (.land, 1) := by decide +kernel
theorem dX3_addBytes_58 : decode cX3_addBytes 58 = .ok (.l2i, 1) := by decide +kernel
theorem dX3_addBytes_59 : decode cX3_addBytes 59 = .ok (.iastore, 1) := by decide +kernel
theorem dX3_addBytes_60 : decode cX3_addBytes 60 = .ok (.aload_n 0, 1) := by decide +kernel
theorem dX3_addBytes_61 : decode cX3_addBytes 61 = .ok (.dup, 1) := by decide +kernel
theorem dX3_addBytes_62 : decode cX3_addBytes 62 = .ok (.getfield 15, 3) := by decide +kernel
theorem dX3_addBytes_65 : decode cX3_addBytes 65 = .ok (.iconst 1, 1) := by decide +kernel
theorem dX3_addBytes_66 : decode cX3_addBytes 66 = .ok (.iadd, 1) := by decide +kernel
theorem dX3_addBytes_67 : decode cX3_addBytes 67 = .ok (.putfield 15, 3) := by decide +kernel
theorem dX3_addBytes_70 : decode cX3_addBytes 70 = .ok (.iinc 4 (-1), 3) := by decide +kernel
theorem dX3_addBytes_73 : decode cX3_addBytes 73 = .ok (.goto (-39), 3) := by decide +kernel
theorem dX3_addBytes_76 : decode cX3_addBytes 76 = .ok (.aload_n 0, 1) := by decide +kernel
theorem dX3_addBytes_77 : decode cX3_addBytes 77 = .ok (.getfield 15, 3) := by decide +kernel
theorem dX3_addBytes_80 : decode cX3_addBytes 80 = .ok (.ireturn, 1) := by decide +kernel
theorem dX3_forget_0 : decode cX3_forget 0 = .ok (.aload_n 0, 1) := by decide +kernel
theorem dX3_forget_1 : decode cX3_forget 1 = .ok (.getfield 15, 3) := by decide +kernel
theorem dX3_forget_4 : decode cX3_forget 4 = .ok (.istore_n 1, 1) := by decide +kernel
theorem dX3_forget_5 : decode cX3_forget 5 = .ok (.aload_n 0, 1) := by decide +kernel
theorem dX3_forget_6 : decode cX3_forget 6 = .ok (.iconst 0, 1) := by decide +kernel
theorem dX3_forget_7 : decode cX3_forget 7 = .ok (.putfield 15, 3) := by decide +kernel
theorem dX3_forget_10 : decode cX3_forget 10 = .ok (.iload_n 1, 1) := by decide +kernel
theorem dX3_forget_11 : decode cX3_forget 11 = .ok (.ireturn, 1) := by decide +kernel
theorem dX3_items_0 : decode cX3_items 0 = .ok (.aload_n 0, 1) := by decide +kernel
theorem dX3_items_1 : decode cX3_items 1 = .ok (.getfield 46, 3) := by decide +kernel
theorem dX3_items_4 : decode cX3_items 4 = .ok (.ireturn, 1) := by decide +kernel
theorem dX3_fault_0 : decode cX3_fault 0 = .ok (.aload_n 0, 1) := by decide +kernel
theorem dX3_fault_1 : decode cX3_fault 1 = .ok (.iconst 0, 1) := by decide +kernel
theorem dX3_fault_2 : decode cX3_fault 2 = .ok (.putfield 19, 3) := by decide +kernel
theorem dX3_fault_5 : decode cX3_fault 5 = .ok (.iconst 0, 1) := by decide +kernel
theorem dX3_fault_6 : decode cX3_fault 6 = .ok (.istore_n 1, 1) := by decide +kernel
theorem dX3_fault_7 : decode cX3_fault 7 = .ok (.iload_n 1, 1) := by decide +kernel
theorem dX3_fault_8 : decode cX3_fault 8 = .ok (.aload_n 0, 1) := by decide +kernel
theorem dX3_fault_9 : decode cX3_fault 9 = .ok (.getfield 15, 3) := by decide +kernel
theorem dX3_fault_12 : decode cX3_fault 12 = .ok (.if_icmp .gt 34, 3) := by decide +kernel
theorem dX3_fault_15 : decode cX3_fault 15 = .ok (.aload_n 0, 1) := by decide +kernel
theorem dX3_fault_16 : decode cX3_fault 16 = .ok (.invokevirtual 51, 3) := by decide +kernel
theorem dX3_fault_19 : decode cX3_fault 19 = .ok (.aload_n 0, 1) := by decide +kernel
theorem dX3_fault_20 : decode cX3_fault 20 = .ok (.getfield 25, 3) := by decide +kernel
theorem dX3_fault_23 : decode cX3_fault 23 = .ok (.ifCond .ne 5, 3) := by decide +kernel
theorem dX3_fault_26 : decode cX3_fault 26 = .ok (.iconst (-1), 1) := by decide +kernel
theorem dX3_fault_27 : decode cX3_fault 27 = .ok (.ireturn, 1) := by decide +kernel
theorem dX3_fault_28 : decode cX3_fault 28 = .ok (.aload_n 0, 1) := by decide +kernel
theorem dX3_fault_29 : decode cX3_fault 29 = .ok (.invokevirtual 54, 3) := by decide +kernel
theorem dX3_fault_32 : decode cX3_fault 32 = .ok (.ifCond .ne 8, 3) := by decide +kernel
theorem dX3_fault_35 : decode cX3_fault 35 = .ok (.aload_n 0, 1) := by decide +kernel
theorem dX3_fault_36 : decode cX3_fault 36 = .ok (.getfield 22, 3) := by decide +kernel
theorem dX3_fault_39 : decode cX3_fault 39 = .ok (.ireturn, 1) := by decide +kernel
theorem dX3_fault_40 : decode cX3_fault 40 = .ok (.iinc 1 1, 3) := by decide +kernel
theorem dX3_fault_43 : decode cX3_fault 43 = .ok (.goto (-36), 3) := by decide +kernel
theorem dX3_fault_46 : decode cX3_fault 46 = .ok (.iconst (-1), 1) := by decide +kernel
theorem dX3_fault_47 : decode cX3_fault 47 = .ok (.ireturn, 1) := by decide +kernel
theorem dX3_tell_0 : decode cX3_tell 0 = .ok (.aload_n 0, 1) := by decide +kernel
theorem dX3_tell_1 : decode cX3_tell 1 = .ok (.iconst 0, 1) := by decide +kernel
theorem dX3_tell_2 : decode cX3_tell 2 = .ok (.putfield 19, 3) := by decide +kernel
theorem dX3_tell_5 : decode cX3_tell 5 = .ok (.aload_n 0, 1) := by decide +kernel
theorem dX3_tell_6 : decode cX3_tell 6 = .ok (.iconst 0, 1) := by decide +kernel
theorem dX3_tell_7 : decode cX3_tell 7 = .ok (.putfield 46, 3) := by decide +kernel
theorem dX3_tell_10 : decode cX3_tell 10 = .ok (.iconst 0, 1) := by decide +kernel
theorem dX3_tell_11 : decode cX3_tell 11 = .ok (.istore_n 2, 1) := by decide +kernel
theorem dX3_tell_12 : decode cX3_tell 12 = .ok (.iload_n 2, 1) := by decide +kernel
theorem dX3_tell_13 : decode cX3_tell 13 = .ok (.aload_n 0, 1) := by decide +kernel
theorem dX3_tell_14 : decode cX3_tell 14 = .ok (.getfield 15, 3) := by decide +kernel
theorem dX3_tell_17 : decode cX3_tell 17 = .ok (.if_icmp .gt 52, 3) := by decide +kernel
theorem dX3_tell_20 : decode cX3_tell 20 = .ok (.aload_n 0, 1) := by decide +kernel
theorem dX3_tell_21 : decode cX3_tell 21 = .ok (.invokevirtual 51, 3) := by decide +kernel
theorem dX3_tell_24 : decode cX3_tell 24 = .ok (.aload_n 0, 1) := by decide +kernel
theorem dX3_tell_25 : decode cX3_tell 25 = .ok (.getfield 25, 3) := by decide +kernel
theorem dX3_tell_28 : decode cX3_tell 28 = .ok (.ifCond .eq 10, 3) := by decide +kernel
theorem dX3_tell_31 : decode cX3_tell 31 = .ok (.aload_n 0, 1) := by decide +kernel
theorem dX3_tell_32 : decode cX3_tell 32 = .ok (.invokevirtual 54, 3) := by decide +kernel
theorem dX3_tell_35 : decode cX3_tell 35 = .ok (.ifCond .ne 5, 3) := by decide +kernel
theorem dX3_tell_38 : decode cX3_tell 38 = .ok (.iconst (-1), 1) := by decide +kernel
theorem dX3_tell_39 : decode cX3_tell 39 = .ok (.ireturn, 1) := by decide +kernel
theorem dX3_tell_40 : decode cX3_tell 40 = .ok (.aload_n 0, 1) := by decide +kernel
theorem dX3_tell_41 : decode cX3_tell 41 = .ok (.aload_n 1, 1) := by decide +kernel
theorem dX3_tell_42 : decode cX3_tell 42 = .ok (.invokevirtual 58, 3) := by decide +kernel
theorem dX3_tell_45 : decode cX3_tell 45 = .ok (.ifCond .ge 8, 3) := by decide +kernel
theorem dX3_tell_48 : decode cX3_tell 48 = .ok (.aload_n 0, 1) := by decide +kernel
theorem dX3_tell_49 : decode cX3_tell 49 = .ok (.getfield 46, 3) := by decide +kernel
theorem dX3_tell_52 : decode cX3_tell 52 = .ok (.ireturn, 1) := by decide +kernel
theorem dX3_tell_53 : decode cX3_tell 53 = .ok (.aload_n 0, 1) := by decide +kernel
theorem dX3_tell_54 : decode cX3_tell 54 = .ok (.dup, 1) := by decide +kernel
theorem dX3_tell_55 : decode cX3_tell 55 = .ok (.getfield 46, 3) := by decide +kernel
theorem dX3_tell_58 : decode cX3_tell 58 = .ok (.iconst 1, 1) := by decide +kernel
theorem dX3_tell_59 : decode cX3_tell 59 = .ok (.iadd, 1) := by decide +kernel
theorem dX3_tell_60 : decode cX3_tell 60 = .ok (.putfield 46, 3) := by decide +kernel
theorem dX3_tell_63 : decode cX3_tell 63 = .ok (.iinc 2 1, 3) := by decide +kernel
theorem dX3_tell_66 : decode cX3_tell 66 = .ok (.goto (-54), 3) := by decide +kernel
theorem dX3_tell_69 : decode cX3_tell 69 = .ok (.iconst (-1), 1) := by decide +kernel
theorem dX3_tell_70 : decode cX3_tell 70 = .ok (.ireturn, 1) := by decide +kernel
theorem dX3_tellItem_0 : decode cX3_tellItem 0 = .ok (.aload_n 0, 1) := by decide +kernel
theorem dX3_tellItem_1 : decode cX3_tellItem 1 = .ok (.getfield 31, 3) := by decide +kernel
theorem dX3_tellItem_4 : decode cX3_tellItem 4 = .ok (.tableswitch 80 0 3 #[32, 45, 54, 67], 32) := by decide +kernel
theorem dX3_tellItem_36 : decode cX3_tellItem 36 = .ok (.aload_n 1, 1) := by decide +kernel
theorem dX3_tellItem_37 : decode cX3_tellItem 37 = .ok (.aload_n 0, 1) := by decide +kernel
theorem dX3_tellItem_38 : decode cX3_tellItem 38 = .ok (.getfield 34, 3) := by decide +kernel
theorem dX3_tellItem_41 : decode cX3_tellItem 41 = .ok (.aload_n 0, 1) := by decide +kernel
theorem dX3_tellItem_42 : decode cX3_tellItem 42 = .ok (.getfield 37, 3) := by decide +kernel
theorem dX3_tellItem_45 : decode cX3_tellItem 45 = .ok (.invokevirtual 62, 3) := by decide +kernel
theorem dX3_tellItem_48 : decode cX3_tellItem 48 = .ok (.ireturn, 1) := by decide +kernel
theorem dX3_tellItem_49 : decode cX3_tellItem 49 = .ok (.aload_n 1, 1) := by decide +kernel
theorem dX3_tellItem_50 : decode cX3_tellItem 50 = .ok (.aload_n 0, 1) := by decide +kernel
theorem dX3_tellItem_51 : decode cX3_tellItem 51 = .ok (.getfield 34, 3) := by decide +kernel
theorem dX3_tellItem_54 : decode cX3_tellItem 54 = .ok (.invokevirtual 68, 3) := by decide +kernel
theorem dX3_tellItem_57 : decode cX3_tellItem 57 = .ok (.ireturn, 1) := by decide +kernel
theorem dX3_tellItem_58 : decode cX3_tellItem 58 = .ok (.aload_n 1, 1) := by decide +kernel
theorem dX3_tellItem_59 : decode cX3_tellItem 59 = .ok (.getfield 72, 3) := by decide +kernel
theorem dX3_tellItem_62 : decode cX3_tellItem 62 = .ok (.iconst 0, 1) := by decide +kernel
theorem dX3_tellItem_63 : decode cX3_tellItem 63 = .ok (.aload_n 0, 1) := by decide +kernel
theorem dX3_tellItem_64 : decode cX3_tellItem 64 = .ok (.getfield 34, 3) := by decide +kernel
theorem dX3_tellItem_67 : decode cX3_tellItem 67 = .ok (.invokevirtual 78, 3) := by decide +kernel
theorem dX3_tellItem_70 : decode cX3_tellItem 70 = .ok (.ireturn, 1) := by decide +kernel
theorem dX3_tellItem_71 : decode cX3_tellItem 71 = .ok (.aload_n 1, 1) := by decide +kernel
theorem dX3_tellItem_72 : decode cX3_tellItem 72 = .ok (.getfield 72, 3) := by decide +kernel
theorem dX3_tellItem_75 : decode cX3_tellItem 75 = .ok (.iconst 1, 1) := by decide +kernel
theorem dX3_tellItem_76 : decode cX3_tellItem 76 = .ok (.aload_n 0, 1) := by decide +kernel
theorem dX3_tellItem_77 : decode cX3_tellItem 77 = .ok (.getfield 34, 3) := by decide +kernel
theorem dX3_tellItem_80 : decode cX3_tellItem 80 = .ok (.invokevirtual 78, 3) := by decide +kernel
theorem dX3_tellItem_83 : decode cX3_tellItem 83 = .ok (.ireturn, 1) := by decide +kernel
theorem dX3_tellItem_84 : decode cX3_tellItem 84 = .ok (.aload_n 0, 1) := by decide +kernel
theorem dX3_tellItem_85 : decode cX3_tellItem 85 = .ok (.aload_n 1, 1) := by decide +kernel
theorem dX3_tellItem_86 : decode cX3_tellItem 86 = .ok (.getfield 81, 3) := by decide +kernel
theorem dX3_tellItem_89 : decode cX3_tellItem 89 = .ok (.invokevirtual 85, 3) := by decide +kernel
theorem dX3_tellItem_92 : decode cX3_tellItem 92 = .ok (.ireturn, 1) := by decide +kernel
theorem dX3_tellSigns_0 : decode cX3_tellSigns 0 = .ok (.iconst 0, 1) := by decide +kernel
theorem dX3_tellSigns_1 : decode cX3_tellSigns 1 = .ok (.istore_n 2, 1) := by decide +kernel
theorem dX3_tellSigns_2 : decode cX3_tellSigns 2 = .ok (.aload_n 0, 1) := by decide +kernel
theorem dX3_tellSigns_3 : decode cX3_tellSigns 3 = .ok (.getfield 40, 3) := by decide +kernel
theorem dX3_tellSigns_6 : decode cX3_tellSigns 6 = .ok (.istore_n 3, 1) := by decide +kernel
theorem dX3_tellSigns_7 : decode cX3_tellSigns 7 = .ok (.iload_n 3, 1) := by decide +kernel
theorem dX3_tellSigns_8 : decode cX3_tellSigns 8 = .ok (.aload_n 0, 1) := by decide +kernel
theorem dX3_tellSigns_9 : decode cX3_tellSigns 9 = .ok (.getfield 43, 3) := by decide +kernel
theorem dX3_tellSigns_12 : decode cX3_tellSigns 12 = .ok (.if_icmp .ge 52, 3) := by decide +kernel
theorem dX3_tellSigns_15 : decode cX3_tellSigns 15 = .ok (.iload_n 2, 1) := by decide +kernel
theorem dX3_tellSigns_16 : decode cX3_tellSigns 16 = .ok (.ifCond .lt 48, 3) := by decide +kernel
theorem dX3_tellSigns_19 : decode cX3_tellSigns 19 = .ok (.aload_n 0, 1) := by decide +kernel
theorem dX3_tellSigns_20 : decode cX3_tellSigns 20 = .ok (.getfield 11, 3) := by decide +kernel
theorem dX3_tellSigns_23 : decode cX3_tellSigns 23 = .ok (.iload_n 3, 1) := by decide +kernel
theorem dX3_tellSigns_24 : decode cX3_tellSigns 24 = .ok (.iaload, 1) := by decide +kernel
theorem dX3_tellSigns_25 : decode cX3_tellSigns 25 = .ok (.invokestatic 89, 3) := by decide +kernel
theorem dX3_tellSigns_28 : decode cX3_tellSigns 28 = .ok (.istore 4, 2) := by decide +kernel
theorem dX3_tellSigns_30 : decode cX3_tellSigns 30 = .ok (.aload_n 0, 1) := by decide +kernel
theorem dX3_tellSigns_31 : decode cX3_tellSigns 31 = .ok (.getfield 31, 3) := by decide +kernel
theorem dX3_tellSigns_34 : decode cX3_tellSigns 34 = .ok (.iconst 4, 1) := by decide +kernel
theorem dX3_tellSigns_35 : decode cX3_tellSigns 35 = .ok (.if_icmp .ne 16, 3) := by decide +kernel
theorem dX3_tellSigns_38 : decode cX3_tellSigns 38 = .ok (.aload_n 1, 1) := by decide +kernel
theorem dX3_tellSigns_39 : decode cX3_tellSigns 39 = .ok (.aload_n 0, 1) := by decide +kernel
theorem dX3_tellSigns_40 : decode cX3_tellSigns 40 = .ok (.getfield 34, 3) := by decide +kernel
theorem dX3_tellSigns_43 : decode cX3_tellSigns 43 = .ok (.iload 4, 2) := by decide +kernel
theorem dX3_tellSigns_45 : decode cX3_tellSigns 45 = .ok (.invokevirtual 92, 3) := by decide +kernel
theorem dX3_tellSigns_48 : decode cX3_tellSigns 48 = .ok (.goto 9, 3) := by decide +kernel
theorem dX3_tellSigns_51 : decode cX3_tellSigns 51 = .ok (.aload_n 1, 1) := by decide +kernel
theorem dX3_tellSigns_52 : decode cX3_tellSigns 52 = .ok (.iload 4, 2) := by decide +kernel
theorem dX3_tellSigns_54 : decode cX3_tellSigns 54 = .ok (.invokevirtual 97, 3) := by decide +kernel
theorem dX3_tellSigns_57 : decode cX3_tellSigns 57 = .ok (.istore_n 2, 1) := by decide +kernel
theorem dX3_tellSigns_58 : decode cX3_tellSigns 58 = .ok (.iinc 3 1, 3) := by decide +kernel
theorem dX3_tellSigns_61 : decode cX3_tellSigns 61 = .ok (.goto (-54), 3) := by decide +kernel
theorem dX3_tellSigns_64 : decode cX3_tellSigns 64 = .ok (.iload_n 2, 1) := by decide +kernel
theorem dX3_tellSigns_65 : decode cX3_tellSigns 65 = .ok (.ireturn, 1) := by decide +kernel
theorem dX3_takeItem_0 : decode cX3_takeItem 0 = .ok (.aload_n 0, 1) := by decide +kernel
theorem dX3_takeItem_1 : decode cX3_takeItem 1 = .ok (.aload_n 0, 1) := by decide +kernel
theorem dX3_takeItem_2 : decode cX3_takeItem 2 = .ok (.getfield 25, 3) := by decide +kernel
theorem dX3_takeItem_5 : decode cX3_takeItem 5 = .ok (.iconst 1, 1) := by decide +kernel
theorem dX3_takeItem_6 : decode cX3_takeItem 6 = .ok (.if_icmp .ne 10, 3) := by decide +kernel
theorem dX3_takeItem_9 : decode cX3_takeItem 9 = .ok (.aload_n 0, 1) := by decide +kernel
theorem dX3_takeItem_10 : decode cX3_takeItem 10 = .ok (.invokevirtual 100, 3) := by decide +kernel
theorem dX3_takeItem_13 : decode cX3_takeItem 13 = .ok (.goto 4, 3) := by decide +kernel
theorem dX3_takeItem_16 : decode cX3_takeItem 16 = .ok (.iconst (-1), 1) := by decide +kernel
theorem dX3_takeItem_17 : decode cX3_takeItem 17 = .ok (.putfield 31, 3) := by decide +kernel
theorem dX3_takeItem_20 : decode cX3_takeItem 20 = .ok (.aload_n 0, 1) := by decide +kernel
theorem dX3_takeItem_21 : decode cX3_takeItem 21 = .ok (.getfield 31, 3) := by decide +kernel
theorem dX3_takeItem_24 : decode cX3_takeItem 24 = .ok (.iconst (-1), 1) := by decide +kernel
theorem dX3_takeItem_25 : decode cX3_takeItem 25 = .ok (.if_icmp .ne 5, 3) := by decide +kernel
theorem dX3_takeItem_28 : decode cX3_takeItem 28 = .ok (.iconst 0, 1) := by decide +kernel
theorem dX3_takeItem_29 : decode cX3_takeItem 29 = .ok (.ireturn, 1) := by decide +kernel
theorem dX3_takeItem_30 : decode cX3_takeItem 30 = .ok (.aload_n 0, 1) := by decide +kernel
theorem dX3_takeItem_31 : decode cX3_takeItem 31 = .ok (.getfield 31, 3) := by decide +kernel
theorem dX3_takeItem_34 : decode cX3_takeItem 34 = .ok (.invokestatic 104, 3) := by decide +kernel
theorem dX3_takeItem_37 : decode cX3_takeItem 37 = .ok (.astore_n 1, 1) := by decide +kernel
theorem dX3_takeItem_38 : decode cX3_takeItem 38 = .ok (.iconst 0, 1) := by decide +kernel
theorem dX3_takeItem_39 : decode cX3_takeItem 39 = .ok (.istore_n 2, 1) := by decide +kernel
theorem dX3_takeItem_40 : decode cX3_takeItem 40 = .ok (.iload_n 2, 1) := by decide +kernel
theorem dX3_takeItem_41 : decode cX3_takeItem 41 = .ok (.aload_n 1, 1) := by decide +kernel
theorem dX3_takeItem_42 : decode cX3_takeItem 42 = .ok (.invokevirtual 108, 3) := by decide +kernel
theorem dX3_takeItem_45 : decode cX3_takeItem 45 = .ok (.if_icmp .ge 27, 3) := by decide +kernel
theorem dX3_takeItem_48 : decode cX3_takeItem 48 = .ok (.aload_n 0, 1) := by decide +kernel
theorem dX3_takeItem_49 : decode cX3_takeItem 49 = .ok (.invokevirtual 51, 3) := by decide +kernel
theorem dX3_takeItem_52 : decode cX3_takeItem 52 = .ok (.aload_n 0, 1) := by decide +kernel
theorem dX3_takeItem_53 : decode cX3_takeItem 53 = .ok (.aload_n 1, 1) := by decide +kernel
theorem dX3_takeItem_54 : decode cX3_takeItem 54 = .ok (.iload_n 2, 1) := by decide +kernel
theorem dX3_takeItem_55 : decode cX3_takeItem 55 = .ok (.invokevirtual 113, 3) := by decide +kernel
theorem dX3_takeItem_58 : decode cX3_takeItem 58 = .ok (.invokevirtual 117, 3) := by decide +kernel
theorem dX3_takeItem_61 : decode cX3_takeItem 61 = .ok (.ifCond .ne 5, 3) := by decide +kernel
theorem dX3_takeItem_64 : decode cX3_takeItem 64 = .ok (.iconst 0, 1) := by decide +kernel
theorem dX3_takeItem_65 : decode cX3_takeItem 65 = .ok (.ireturn, 1) := by decide +kernel
theorem dX3_takeItem_66 : decode cX3_takeItem 66 = .ok (.iinc 2 1, 3) := by decide +kernel
theorem dX3_takeItem_69 : decode cX3_takeItem 69 = .ok (.goto (-29), 3) := by decide +kernel
theorem dX3_takeItem_72 : decode cX3_takeItem 72 = .ok (.iconst 1, 1) := by decide +kernel
theorem dX3_takeItem_73 : decode cX3_takeItem 73 = .ok (.ireturn, 1) := by decide +kernel
theorem dX3_itemNamed_0 : decode cX3_itemNamed 0 = .ok (.iconst 0, 1) := by decide +kernel
theorem dX3_itemNamed_1 : decode cX3_itemNamed 1 = .ok (.istore_n 1, 1) := by decide +kernel
theorem dX3_itemNamed_2 : decode cX3_itemNamed 2 = .ok (.iload_n 1, 1) := by decide +kernel
theorem dX3_itemNamed_3 : decode cX3_itemNamed 3 = .ok (.bipush 6, 2) := by decide +kernel
theorem dX3_itemNamed_5 : decode cX3_itemNamed 5 = .ok (.if_icmp .ge 22, 3) := by decide +kernel
theorem dX3_itemNamed_8 : decode cX3_itemNamed 8 = .ok (.aload_n 0, 1) := by decide +kernel
theorem dX3_itemNamed_9 : decode cX3_itemNamed 9 = .ok (.iload_n 1, 1) := by decide +kernel
theorem dX3_itemNamed_10 : decode cX3_itemNamed 10 = .ok (.invokestatic 121, 3) := by decide +kernel
theorem dX3_itemNamed_13 : decode cX3_itemNamed 13 = .ok (.invokevirtual 124, 3) := by decide +kernel
theorem dX3_itemNamed_16 : decode cX3_itemNamed 16 = .ok (.ifCond .eq 5, 3) := by decide +kernel
theorem dX3_itemNamed_19 : decode cX3_itemNamed 19 = .ok (.iload_n 1, 1) := by decide +kernel
theorem dX3_itemNamed_20 : decode cX3_itemNamed 20 = .ok (.ireturn, 1) := by decide +kernel
theorem dX3_itemNamed_21 : decode cX3_itemNamed 21 = .ok (.iinc 1 1, 3) := by decide +kernel
theorem dX3_itemNamed_24 : decode cX3_itemNamed 24 = .ok (.goto (-22), 3) := by decide +kernel
theorem dX3_itemNamed_27 : decode cX3_itemNamed 27 = .ok (.iconst (-1), 1) := by decide +kernel
theorem dX3_itemNamed_28 : decode cX3_itemNamed 28 = .ok (.ireturn, 1) := by decide +kernel
theorem dX3_isTaken_0 : decode cX3_isTaken 0 = .ok (.aload_n 0, 1) := by decide +kernel
theorem dX3_isTaken_1 : decode cX3_isTaken 1 = .ok (.getfield 19, 3) := by decide +kernel
theorem dX3_isTaken_4 : decode cX3_isTaken 4 = .ok (.aload_n 0, 1) := by decide +kernel
theorem dX3_isTaken_5 : decode cX3_isTaken 5 = .ok (.getfield 22, 3) := by decide +kernel
theorem dX3_isTaken_8 : decode cX3_isTaken 8 = .ok (.isub, 1) := by decide +kernel
theorem dX3_isTaken_9 : decode cX3_isTaken 9 = .ok (.aload_n 1, 1) := by decide +kernel
theorem dX3_isTaken_10 : decode cX3_isTaken 10 = .ok (.invokevirtual 108, 3) := by decide +kernel
theorem dX3_isTaken_13 : decode cX3_isTaken 13 = .ok (.if_icmp .eq 5, 3) := by decide +kernel
theorem dX3_isTaken_16 : decode cX3_isTaken 16 = .ok (.iconst 0, 1) := by decide +kernel
theorem dX3_isTaken_17 : decode cX3_isTaken 17 = .ok (.ireturn, 1) := by decide +kernel
theorem dX3_isTaken_18 : decode cX3_isTaken 18 = .ok (.iconst 0, 1) := by decide +kernel
theorem dX3_isTaken_19 : decode cX3_isTaken 19 = .ok (.istore_n 2, 1) := by decide +kernel
theorem dX3_isTaken_20 : decode cX3_isTaken 20 = .ok (.iload_n 2, 1) := by decide +kernel
theorem dX3_isTaken_21 : decode cX3_isTaken 21 = .ok (.aload_n 1, 1) := by decide +kernel
theorem dX3_isTaken_22 : decode cX3_isTaken 22 = .ok (.invokevirtual 108, 3) := by decide +kernel
theorem dX3_isTaken_25 : decode cX3_isTaken 25 = .ok (.if_icmp .ge 30, 3) := by decide +kernel
theorem dX3_isTaken_28 : decode cX3_isTaken 28 = .ok (.aload_n 0, 1) := by decide +kernel
theorem dX3_isTaken_29 : decode cX3_isTaken 29 = .ok (.getfield 11, 3) := by decide +kernel
theorem dX3_isTaken_32 : decode cX3_isTaken 32 = .ok (.aload_n 0, 1) := by decide +kernel
theorem dX3_isTaken_33 : decode cX3_isTaken 33 = .ok (.getfield 22, 3) := by decide +kernel
theorem dX3_isTaken_36 : decode cX3_isTaken 36 = .ok (.iload_n 2, 1) := by decide +kernel
theorem dX3_isTaken_37 : decode cX3_isTaken 37 = .ok (.iadd, 1) := by decide +kernel
theorem dX3_isTaken_38 : decode cX3_isTaken 38 = .ok (.iaload, 1) := by decide +kernel
theorem dX3_isTaken_39 : decode cX3_isTaken 39 = .ok (.aload_n 1, 1) := by decide +kernel
theorem dX3_isTaken_40 : decode cX3_isTaken 40 = .ok (.iload_n 2, 1) := by decide +kernel
theorem dX3_isTaken_41 : decode cX3_isTaken 41 = .ok (.invokevirtual 113, 3) := by decide +kernel
theorem dX3_isTaken_44 : decode cX3_isTaken 44 = .ok (.if_icmp .eq 5, 3) := by decide +kernel
theorem dX3_isTaken_47 : decode cX3_isTaken 47 = .ok (.iconst 0, 1) := by decide +kernel
theorem dX3_isTaken_48 : decode cX3_isTaken 48 = .ok (.ireturn, 1) := by decide +kernel
theorem dX3_isTaken_49 : decode cX3_isTaken 49 = .ok (.iinc 2 1, 3) := by decide +kernel
theorem dX3_isTaken_52 : decode cX3_isTaken 52 = .ok (.goto (-32), 3) := by decide +kernel
theorem dX3_isTaken_55 : decode cX3_isTaken 55 = .ok (.iconst 1, 1) := by decide +kernel
theorem dX3_isTaken_56 : decode cX3_isTaken 56 = .ok (.ireturn, 1) := by decide +kernel
theorem dX3_name_0 : decode cX3_name 0 = .ok (.iload_n 0, 1) := by decide +kernel
theorem dX3_name_1 : decode cX3_name 1 = .ok (.tableswitch 50 0 4 #[35, 38, 41, 44, 47], 35) := by decide +kernel
theorem dX3_name_36 : decode cX3_name 36 = .ok (.ldc 128, 2) := by decide +kernel
theorem dX3_name_38 : decode cX3_name 38 = .ok (.areturn, 1) := by decide +kernel
theorem dX3_name_39 : decode cX3_name 39 = .ok (.ldc 130, 2) := by decide +kernel
theorem dX3_name_41 : decode cX3_name 41 = .ok (.areturn, 1) := by decide +kernel
theorem dX3_name_42 : decode cX3_name 42 = .ok (.ldc 132, 2) := by decide +kernel
theorem dX3_name_44 : decode cX3_name 44 = .ok (.areturn, 1) := by decide +kernel
theorem dX3_name_45 : decode cX3_name 45 = .ok (.ldc 134, 2) := by decide +kernel
theorem dX3_name_47 : decode cX3_name 47 = .ok (.areturn, 1) := by decide +kernel
theorem dX3_name_48 : decode cX3_name 48 = .ok (.ldc 136, 2) := by decide +kernel
theorem dX3_name_50 : decode cX3_name 50 = .ok (.areturn, 1) := by decide +kernel
theorem dX3_name_51 : decode cX3_name 51 = .ok (.ldc 138, 2) := by decide +kernel
theorem dX3_name_53 : decode cX3_name 53 = .ok (.areturn, 1) := by decide +kernel
theorem dX3_form_0 : decode cX3_form 0 = .ok (.iload_n 0, 1) := by decide +kernel
theorem dX3_form_1 : decode cX3_form 1 = .ok (.lookupswitch 44 #[(0, 35), (4, 38), (5, 41)], 35) := by decide +kernel
theorem dX3_form_36 : decode cX3_form 36 = .ok (.ldc 139, 2) := by decide +kernel
theorem dX3_form_38 : decode cX3_form 38 = .ok (.areturn, 1) := by decide +kernel
theorem dX3_form_39 : decode cX3_form 39 = .ok (.ldc 141, 2) := by decide +kernel
theorem dX3_form_41 : decode cX3_form 41 = .ok (.areturn, 1) := by decide +kernel
theorem dX3_form_42 : decode cX3_form 42 = .ok (.ldc 143, 2) := by decide +kernel
theorem dX3_form_44 : decode cX3_form 44 = .ok (.areturn, 1) := by decide +kernel
theorem dX3_form_45 : decode cX3_form 45 = .ok (.ldc 145, 2) := by decide +kernel
theorem dX3_form_47 : decode cX3_form 47 = .ok (.areturn, 1) := by decide +kernel
theorem dX3_stands_0 : decode cX3_stands 0 = .ok (.iload_n 1, 1) := by decide +kernel
theorem dX3_stands_1 : decode cX3_stands 1 = .ok (.bipush 59, 2) := by decide +kernel
theorem dX3_stands_3 : decode cX3_stands 3 = .ok (.if_icmp .ne 17, 3) := by decide +kernel
theorem dX3_stands_6 : decode cX3_stands 6 = .ok (.aload_n 0, 1) := by decide +kernel
theorem dX3_stands_7 : decode cX3_stands 7 = .ok (.getfield 25, 3) := by decide +kernel
theorem dX3_stands_10 : decode cX3_stands 10 = .ok (.iconst 3, 1) := by decide +kernel
theorem dX3_stands_11 : decode cX3_stands 11 = .ok (.if_icmp .ne 7, 3) := by decide +kernel
theorem dX3_stands_14 : decode cX3_stands 14 = .ok (.iconst 1, 1) := by decide +kernel
theorem dX3_stands_15 : decode cX3_stands 15 = .ok (.goto 4, 3) := by decide +kernel
theorem dX3_stands_18 : decode cX3_stands 18 = .ok (.iconst 0, 1) := by decide +kernel
theorem dX3_stands_19 : decode cX3_stands 19 = .ok (.ireturn, 1) := by decide +kernel
theorem dX3_stands_20 : decode cX3_stands 20 = .ok (.iload_n 1, 1) := by decide +kernel
theorem dX3_stands_21 : decode cX3_stands 21 = .ok (.bipush 108, 2) := by decide +kernel
theorem dX3_stands_23 : decode cX3_stands 23 = .ok (.if_icmp .ne 12, 3) := by decide +kernel
theorem dX3_stands_26 : decode cX3_stands 26 = .ok (.aload_n 0, 1) := by decide +kernel
theorem dX3_stands_27 : decode cX3_stands 27 = .ok (.bipush 8, 2) := by decide +kernel
theorem dX3_stands_29 : decode cX3_stands 29 = .ok (.bipush 27, 2) := by decide +kernel
theorem dX3_stands_31 : decode cX3_stands 31 = .ok (.invokevirtual 147, 3) := by decide +kernel
theorem dX3_stands_34 : decode cX3_stands 34 = .ok (.ireturn, 1) := by decide +kernel
theorem dX3_stands_35 : decode cX3_stands 35 = .ok (.iload_n 1, 1) := by decide +kernel
theorem dX3_stands_36 : decode cX3_stands 36 = .ok (.bipush 100, 2) := by decide +kernel
theorem dX3_stands_38 : decode cX3_stands 38 = .ok (.if_icmp .ne 12, 3) := by decide +kernel
theorem dX3_stands_41 : decode cX3_stands 41 = .ok (.aload_n 0, 1) := by decide +kernel
theorem dX3_stands_42 : decode cX3_stands 42 = .ok (.bipush 60, 2) := by decide +kernel
theorem dX3_stands_44 : decode cX3_stands 44 = .ok (.bipush 25, 2) := by decide +kernel
theorem dX3_stands_46 : decode cX3_stands 46 = .ok (.invokevirtual 147, 3) := by decide +kernel
theorem dX3_stands_49 : decode cX3_stands 49 = .ok (.ireturn, 1) := by decide +kernel
theorem dX3_stands_50 : decode cX3_stands 50 = .ok (.iload_n 1, 1) := by decide +kernel
theorem dX3_stands_51 : decode cX3_stands 51 = .ok (.bipush 49, 2) := by decide +kernel
theorem dX3_stands_53 : decode cX3_stands 53 = .ok (.if_icmp .ne 14, 3) := by decide +kernel
theorem dX3_stands_56 : decode cX3_stands 56 = .ok (.aload_n 0, 1) := by decide +kernel
theorem dX3_stands_57 : decode cX3_stands 57 = .ok (.aload_n 0, 1) := by decide +kernel
theorem dX3_stands_58 : decode cX3_stands 58 = .ok (.getfield 28, 3) := by decide +kernel
theorem dX3_stands_61 : decode cX3_stands 61 = .ok (.putfield 34, 3) := by decide +kernel
theorem dX3_stands_64 : decode cX3_stands 64 = .ok (.goto 11, 3) := by decide +kernel
theorem dX3_stands_67 : decode cX3_stands 67 = .ok (.aload_n 0, 1) := by decide +kernel
theorem dX3_stands_68 : decode cX3_stands 68 = .ok (.aload_n 0, 1) := by decide +kernel
theorem dX3_stands_69 : decode cX3_stands 69 = .ok (.getfield 28, 3) := by decide +kernel
theorem dX3_stands_72 : decode cX3_stands 72 = .ok (.putfield 37, 3) := by decide +kernel
theorem dX3_stands_75 : decode cX3_stands 75 = .ok (.aload_n 0, 1) := by decide +kernel
theorem dX3_stands_76 : decode cX3_stands 76 = .ok (.getfield 25, 3) := by decide +kernel
theorem dX3_stands_79 : decode cX3_stands 79 = .ok (.iconst 2, 1) := by decide +kernel
theorem dX3_stands_80 : decode cX3_stands 80 = .ok (.if_icmp .ne 7, 3) := by decide +kernel
theorem dX3_stands_83 : decode cX3_stands 83 = .ok (.iconst 1, 1) := by decide +kernel
theorem dX3_stands_84 : decode cX3_stands 84 = .ok (.goto 4, 3) := by decide +kernel
theorem dX3_stands_87 : decode cX3_stands 87 = .ok (.iconst 0, 1) := by decide +kernel
theorem dX3_stands_88 : decode cX3_stands 88 = .ok (.ireturn, 1) := by decide +kernel
theorem dX3_standsWord_0 : decode cX3_standsWord 0 = .ok (.aload_n 0, 1) := by decide +kernel
theorem dX3_standsWord_1 : decode cX3_standsWord 1 = .ok (.aload_n 0, 1) := by decide +kernel
theorem dX3_standsWord_2 : decode cX3_standsWord 2 = .ok (.getfield 22, 3) := by decide +kernel
theorem dX3_standsWord_5 : decode cX3_standsWord 5 = .ok (.putfield 40, 3) := by decide +kernel
theorem dX3_standsWord_8 : decode cX3_standsWord 8 = .ok (.aload_n 0, 1) := by decide +kernel
theorem dX3_standsWord_9 : decode cX3_standsWord 9 = .ok (.aload_n 0, 1) := by decide +kernel
theorem dX3_standsWord_10 : decode cX3_standsWord 10 = .ok (.getfield 19, 3) := by decide +kernel
theorem dX3_standsWord_13 : decode cX3_standsWord 13 = .ok (.putfield 43, 3) := by decide +kernel
theorem dX3_standsWord_16 : decode cX3_standsWord 16 = .ok (.aload_n 0, 1) := by decide +kernel
theorem dX3_standsWord_17 : decode cX3_standsWord 17 = .ok (.getfield 25, 3) := by decide +kernel
theorem dX3_standsWord_20 : decode cX3_standsWord 20 = .ok (.iconst 1, 1) := by decide +kernel
theorem dX3_standsWord_21 : decode cX3_standsWord 21 = .ok (.if_icmp .ne 16, 3) := by decide +kernel
theorem dX3_standsWord_24 : decode cX3_standsWord 24 = .ok (.aload_n 0, 1) := by decide +kernel
theorem dX3_standsWord_25 : decode cX3_standsWord 25 = .ok (.getfield 19, 3) := by decide +kernel
theorem dX3_standsWord_28 : decode cX3_standsWord 28 = .ok (.aload_n 0, 1) := by decide +kernel
theorem dX3_standsWord_29 : decode cX3_standsWord 29 = .ok (.getfield 22, 3) := by decide +kernel
theorem dX3_standsWord_32 : decode cX3_standsWord 32 = .ok (.isub, 1) := by decide +kernel
theorem dX3_standsWord_33 : decode cX3_standsWord 33 = .ok (.iload_n 1, 1) := by decide +kernel
theorem dX3_standsWord_34 : decode cX3_standsWord 34 = .ok (.if_icmp .le 5, 3) := by decide +kernel
theorem dX3_standsWord_37 : decode cX3_standsWord 37 = .ok (.iconst 0, 1) := by decide +kernel
theorem dX3_standsWord_38 : decode cX3_standsWord 38 = .ok (.ireturn, 1) := by decide +kernel
theorem dX3_standsWord_39 : decode cX3_standsWord 39 = .ok (.aload_n 0, 1) := by decide +kernel
theorem dX3_standsWord_40 : decode cX3_standsWord 40 = .ok (.getfield 22, 3) := by decide +kernel
theorem dX3_standsWord_43 : decode cX3_standsWord 43 = .ok (.istore_n 3, 1) := by decide +kernel
theorem dX3_standsWord_44 : decode cX3_standsWord 44 = .ok (.iload_n 3, 1) := by decide +kernel
theorem dX3_standsWord_45 : decode cX3_standsWord 45 = .ok (.aload_n 0, 1) := by decide +kernel
theorem dX3_standsWord_46 : decode cX3_standsWord 46 = .ok (.getfield 19, 3) := by decide +kernel
theorem dX3_standsWord_49 : decode cX3_standsWord 49 = .ok (.if_icmp .ge 24, 3) := by decide +kernel
theorem dX3_standsWord_52 : decode cX3_standsWord 52 = .ok (.aload_n 0, 1) := by decide +kernel
theorem dX3_standsWord_53 : decode cX3_standsWord 53 = .ok (.getfield 11, 3) := by decide +kernel
theorem dX3_standsWord_56 : decode cX3_standsWord 56 = .ok (.iload_n 3, 1) := by decide +kernel
theorem dX3_standsWord_57 : decode cX3_standsWord 57 = .ok (.iaload, 1) := by decide +kernel
theorem dX3_standsWord_58 : decode cX3_standsWord 58 = .ok (.invokestatic 89, 3) := by decide +kernel
theorem dX3_standsWord_61 : decode cX3_standsWord 61 = .ok (.iload_n 2, 1) := by decide +kernel
theorem dX3_standsWord_62 : decode cX3_standsWord 62 = .ok (.if_icmp .le 5, 3) := by decide +kernel
theorem dX3_standsWord_65 : decode cX3_standsWord 65 = .ok (.iconst 0, 1) := by decide +kernel
theorem dX3_standsWord_66 : decode cX3_standsWord 66 = .ok (.ireturn, 1) := by decide +kernel
theorem dX3_standsWord_67 : decode cX3_standsWord 67 = .ok (.iinc 3 1, 3) := by decide +kernel
theorem dX3_standsWord_70 : decode cX3_standsWord 70 = .ok (.goto (-26), 3) := by decide +kernel
theorem dX3_standsWord_73 : decode cX3_standsWord 73 = .ok (.iconst 1, 1) := by decide +kernel
theorem dX3_standsWord_74 : decode cX3_standsWord 74 = .ok (.ireturn, 1) := by decide +kernel
theorem dX3_takeToken_0 : decode cX3_takeToken 0 = .ok (.aload_n 0, 1) := by decide +kernel
theorem dX3_takeToken_1 : decode cX3_takeToken 1 = .ok (.getfield 19, 3) := by decide +kernel
theorem dX3_takeToken_4 : decode cX3_takeToken 4 = .ok (.aload_n 0, 1) := by decide +kernel
theorem dX3_takeToken_5 : decode cX3_takeToken 5 = .ok (.getfield 15, 3) := by decide +kernel
theorem dX3_takeToken_8 : decode cX3_takeToken 8 = .ok (.if_icmp .ge 30, 3) := by decide +kernel
theorem dX3_takeToken_11 : decode cX3_takeToken 11 = .ok (.aload_n 0, 1) := by decide +kernel
theorem dX3_takeToken_12 : decode cX3_takeToken 12 = .ok (.getfield 11, 3) := by decide +kernel
theorem dX3_takeToken_15 : decode cX3_takeToken 15 = .ok (.aload_n 0, 1) := by decide +kernel
theorem dX3_takeToken_16 : decode cX3_takeToken 16 = .ok (.getfield 19, 3) := by decide +kernel
theorem dX3_takeToken_19 : decode cX3_takeToken 19 = .ok (.iaload, 1) := by decide +kernel
theorem dX3_takeToken_20 : decode cX3_takeToken 20 = .ok (.bipush 32, 2) := by decide +kernel
theorem dX3_takeToken_22 : decode cX3_takeToken 22 = .ok (.if_icmp .ne 16, 3) := by decide +kernel
theorem dX3_takeToken_25 : decode cX3_takeToken 25 = .ok (.aload_n 0, 1) := by decide +kernel
theorem dX3_takeToken_26 : decode cX3_takeToken 26 = .ok (.dup, 1) := by decide +kernel
theorem dX3_takeToken_27 : decode cX3_takeToken 27 = .ok (.getfield 19, 3) := by decide +kernel
theorem dX3_takeToken_30 : decode cX3_takeToken 30 = .ok (.iconst 1, 1) := by decide +kernel
theorem dX3_takeToken_31 : decode cX3_takeToken 31 = .ok (.iadd, 1) := by decide +kernel
theorem dX3_takeToken_32 : decode cX3_takeToken 32 = .ok (.putfield 19, 3) := by decide +kernel
theorem dX3_takeToken_35 : decode cX3_takeToken 35 = .ok (.goto (-35), 3) := by decide +kernel
theorem dX3_takeToken_38 : decode cX3_takeToken 38 = .ok (.aload_n 0, 1) := by decide +kernel
theorem dX3_takeToken_39 : decode cX3_takeToken 39 = .ok (.aload_n 0, 1) := by decide +kernel
theorem dX3_takeToken_40 : decode cX3_takeToken 40 = .ok (.getfield 19, 3) := by decide +kernel
theorem dX3_takeToken_43 : decode cX3_takeToken 43 = .ok (.putfield 22, 3) := by decide +kernel
theorem dX3_takeToken_46 : decode cX3_takeToken 46 = .ok (.aload_n 0, 1) := by decide +kernel
theorem dX3_takeToken_47 : decode cX3_takeToken 47 = .ok (.getfield 19, 3) := by decide +kernel
theorem dX3_takeToken_50 : decode cX3_takeToken 50 = .ok (.aload_n 0, 1) := by decide +kernel
theorem dX3_takeToken_51 : decode cX3_takeToken 51 = .ok (.getfield 15, 3) := by decide +kernel
theorem dX3_takeToken_54 : decode cX3_takeToken 54 = .ok (.if_icmp .lt 11, 3) := by decide +kernel
theorem dX3_takeToken_57 : decode cX3_takeToken 57 = .ok (.aload_n 0, 1) := by decide +kernel
theorem dX3_takeToken_58 : decode cX3_takeToken 58 = .ok (.iconst 0, 1) := by decide +kernel
theorem dX3_takeToken_59 : decode cX3_takeToken 59 = .ok (.putfield 25, 3) := by decide +kernel
theorem dX3_takeToken_62 : decode cX3_takeToken 62 = .ok (.goto 81, 3) := by decide +kernel
theorem dX3_takeToken_65 : decode cX3_takeToken 65 = .ok (.aload_n 0, 1) := by decide +kernel
theorem dX3_takeToken_66 : decode cX3_takeToken 66 = .ok (.getfield 11, 3) := by decide +kernel
theorem dX3_takeToken_69 : decode cX3_takeToken 69 = .ok (.aload_n 0, 1) := by decide +kernel
theorem dX3_takeToken_70 : decode cX3_takeToken 70 = .ok (.getfield 19, 3) := by decide +kernel
theorem dX3_takeToken_73 : decode cX3_takeToken 73 = .ok (.iaload, 1) := by decide +kernel
theorem dX3_takeToken_74 : decode cX3_takeToken 74 = .ok (.invokestatic 89, 3) := by decide +kernel
theorem dX3_takeToken_77 : decode cX3_takeToken 77 = .ok (.iconst (-1), 1) := by decide +kernel
theorem dX3_takeToken_78 : decode cX3_takeToken 78 = .ok (.if_icmp .eq 10, 3) := by decide +kernel
theorem dX3_takeToken_81 : decode cX3_takeToken 81 = .ok (.aload_n 0, 1) := by decide +kernel
theorem dX3_takeToken_82 : decode cX3_takeToken 82 = .ok (.invokevirtual 151, 3) := by decide +kernel
theorem dX3_takeToken_85 : decode cX3_takeToken 85 = .ok (.goto 58, 3) := by decide +kernel
theorem dX3_takeToken_88 : decode cX3_takeToken 88 = .ok (.aload_n 0, 1) := by decide +kernel
theorem dX3_takeToken_89 : decode cX3_takeToken 89 = .ok (.getfield 11, 3) := by decide +kernel
theorem dX3_takeToken_92 : decode cX3_takeToken 92 = .ok (.aload_n 0, 1) := by decide +kernel
theorem dX3_takeToken_93 : decode cX3_takeToken 93 = .ok (.getfield 19, 3) := by decide +kernel
theorem dX3_takeToken_96 : decode cX3_takeToken 96 = .ok (.iaload, 1) := by decide +kernel
theorem dX3_takeToken_97 : decode cX3_takeToken 97 = .ok (.invokestatic 154, 3) := by decide +kernel
theorem dX3_takeToken_100 : decode cX3_takeToken 100 = .ok (.ifCond .eq 10, 3) := by decide +kernel
theorem dX3_takeToken_103 : decode cX3_takeToken 103 = .ok (.aload_n 0, 1) := by decide +kernel
theorem dX3_takeToken_104 : decode cX3_takeToken 104 = .ok (.invokevirtual 158, 3) := by decide +kernel
theorem dX3_takeToken_107 : decode cX3_takeToken 107 = .ok (.goto 36, 3) := by decide +kernel
theorem dX3_takeToken_110 : decode cX3_takeToken 110 = .ok (.aload_n 0, 1) := by decide +kernel
theorem dX3_takeToken_111 : decode cX3_takeToken 111 = .ok (.aload_n 0, 1) := by decide +kernel
theorem dX3_takeToken_112 : decode cX3_takeToken 112 = .ok (.getfield 11, 3) := by decide +kernel
theorem dX3_takeToken_115 : decode cX3_takeToken 115 = .ok (.aload_n 0, 1) := by decide +kernel
theorem dX3_takeToken_116 : decode cX3_takeToken 116 = .ok (.getfield 19, 3) := by decide +kernel
theorem dX3_takeToken_119 : decode cX3_takeToken 119 = .ok (.iaload, 1) := by decide +kernel
theorem dX3_takeToken_120 : decode cX3_takeToken 120 = .ok (.bipush 59, 2) := by decide +kernel
theorem dX3_takeToken_122 : decode cX3_takeToken 122 = .ok (.if_icmp .ne 7, 3) := by decide +kernel
theorem dX3_takeToken_125 : decode cX3_takeToken 125 = .ok (.iconst 3, 1) := by decide +kernel
theorem dX3_takeToken_126 : decode cX3_takeToken 126 = .ok (.goto 4, 3) := by decide +kernel
theorem dX3_takeToken_129 : decode cX3_takeToken 129 = .ok (.iconst 4, 1) := by decide +kernel
theorem dX3_takeToken_130 : decode cX3_takeToken 130 = .ok (.putfield 25, 3) := by decide +kernel
theorem dX3_takeToken_133 : decode cX3_takeToken 133 = .ok (.aload_n 0, 1) := by decide +kernel
theorem dX3_takeToken_134 : decode cX3_takeToken 134 = .ok (.dup, 1) := by decide +kernel
theorem dX3_takeToken_135 : decode cX3_takeToken 135 = .ok (.getfield 19, 3) := by decide +kernel
theorem dX3_takeToken_138 : decode cX3_takeToken 138 = .ok (.iconst 1, 1) := by decide +kernel
theorem dX3_takeToken_139 : decode cX3_takeToken 139 = .ok (.iadd, 1) := by decide +kernel
theorem dX3_takeToken_140 : decode cX3_takeToken 140 = .ok (.putfield 19, 3) := by decide +kernel
theorem dX3_takeToken_143 : decode cX3_takeToken 143 = .ok (.return_, 1) := by decide +kernel
theorem dX3_takeWord_0 : decode cX3_takeWord 0 = .ok (.aload_n 0, 1) := by decide +kernel
theorem dX3_takeWord_1 : decode cX3_takeWord 1 = .ok (.iconst 1, 1) := by decide +kernel
theorem dX3_takeWord_2 : decode cX3_takeWord 2 = .ok (.putfield 25, 3) := by decide +kernel
theorem dX3_takeWord_5 : decode cX3_takeWord 5 = .ok (.aload_n 0, 1) := by decide +kernel
theorem dX3_takeWord_6 : decode cX3_takeWord 6 = .ok (.getfield 19, 3) := by decide +kernel
theorem dX3_takeWord_9 : decode cX3_takeWord 9 = .ok (.aload_n 0, 1) := by decide +kernel
theorem dX3_takeWord_10 : decode cX3_takeWord 10 = .ok (.getfield 15, 3) := by decide +kernel
theorem dX3_takeWord_13 : decode cX3_takeWord 13 = .ok (.if_icmp .ge 32, 3) := by decide +kernel
theorem dX3_takeWord_16 : decode cX3_takeWord 16 = .ok (.aload_n 0, 1) := by decide +kernel
theorem dX3_takeWord_17 : decode cX3_takeWord 17 = .ok (.getfield 11, 3) := by decide +kernel
theorem dX3_takeWord_20 : decode cX3_takeWord 20 = .ok (.aload_n 0, 1) := by decide +kernel
theorem dX3_takeWord_21 : decode cX3_takeWord 21 = .ok (.getfield 19, 3) := by decide +kernel
theorem dX3_takeWord_24 : decode cX3_takeWord 24 = .ok (.iaload, 1) := by decide +kernel
theorem dX3_takeWord_25 : decode cX3_takeWord 25 = .ok (.invokestatic 89, 3) := by decide +kernel
theorem dX3_takeWord_28 : decode cX3_takeWord 28 = .ok (.iconst (-1), 1) := by decide +kernel
theorem dX3_takeWord_29 : decode cX3_takeWord 29 = .ok (.if_icmp .eq 16, 3) := by decide +kernel
theorem dX3_takeWord_32 : decode cX3_takeWord 32 = .ok (.aload_n 0, 1) := by decide +kernel
theorem dX3_takeWord_33 : decode cX3_takeWord 33 = .ok (.dup, 1) := by decide +kernel
theorem dX3_takeWord_34 : decode cX3_takeWord 34 = .ok (.getfield 19, 3) := by decide +kernel
theorem dX3_takeWord_37 : decode cX3_takeWord 37 = .ok (.iconst 1, 1) := by decide +kernel
theorem dX3_takeWord_38 : decode cX3_takeWord 38 = .ok (.iadd, 1) := by decide +kernel
theorem dX3_takeWord_39 : decode cX3_takeWord 39 = .ok (.putfield 19, 3) := by decide +kernel
theorem dX3_takeWord_42 : decode cX3_takeWord 42 = .ok (.goto (-37), 3) := by decide +kernel
theorem dX3_takeWord_45 : decode cX3_takeWord 45 = .ok (.return_, 1) := by decide +kernel
theorem dX3_takeNumber_0 : decode cX3_takeNumber 0 = .ok (.aload_n 0, 1) := by decide +kernel
theorem dX3_takeNumber_1 : decode cX3_takeNumber 1 = .ok (.iconst 0, 1) := by decide +kernel
theorem dX3_takeNumber_2 : decode cX3_takeNumber 2 = .ok (.putfield 28, 3) := by decide +kernel
theorem dX3_takeNumber_5 : decode cX3_takeNumber 5 = .ok (.aload_n 0, 1) := by decide +kernel
theorem dX3_takeNumber_6 : decode cX3_takeNumber 6 = .ok (.getfield 19, 3) := by decide +kernel
theorem dX3_takeNumber_9 : decode cX3_takeNumber 9 = .ok (.aload_n 0, 1) := by decide +kernel
theorem dX3_takeNumber_10 : decode cX3_takeNumber 10 = .ok (.getfield 15, 3) := by decide +kernel
theorem dX3_takeNumber_13 : decode cX3_takeNumber 13 = .ok (.if_icmp .ge 55, 3) := by decide +kernel
theorem dX3_takeNumber_16 : decode cX3_takeNumber 16 = .ok (.aload_n 0, 1) := by decide +kernel
theorem dX3_takeNumber_17 : decode cX3_takeNumber 17 = .ok (.getfield 11, 3) := by decide +kernel
theorem dX3_takeNumber_20 : decode cX3_takeNumber 20 = .ok (.aload_n 0, 1) := by decide +kernel
theorem dX3_takeNumber_21 : decode cX3_takeNumber 21 = .ok (.getfield 19, 3) := by decide +kernel
theorem dX3_takeNumber_24 : decode cX3_takeNumber 24 = .ok (.iaload, 1) := by decide +kernel
theorem dX3_takeNumber_25 : decode cX3_takeNumber 25 = .ok (.invokestatic 154, 3) := by decide +kernel
theorem dX3_takeNumber_28 : decode cX3_takeNumber 28 = .ok (.ifCond .eq 40, 3) := by decide +kernel
theorem dX3_takeNumber_31 : decode cX3_takeNumber 31 = .ok (.aload_n 0, 1) := by decide +kernel
theorem dX3_takeNumber_32 : decode cX3_takeNumber 32 = .ok (.aload_n 0, 1) := by decide +kernel
theorem dX3_takeNumber_33 : decode cX3_takeNumber 33 = .ok (.getfield 28, 3) := by decide +kernel
theorem dX3_takeNumber_36 : decode cX3_takeNumber 36 = .ok (.bipush 10, 2) := by decide +kernel
theorem dX3_takeNumber_38 : decode cX3_takeNumber 38 = .ok (.imul, 1) := by decide +kernel
theorem dX3_takeNumber_39 : decode cX3_takeNumber 39 = .ok (.aload_n 0, 1) := by decide +kernel
theorem dX3_takeNumber_40 : decode cX3_takeNumber 40 = .ok (.getfield 11, 3) := by decide +kernel
theorem dX3_takeNumber_43 : decode cX3_takeNumber 43 = .ok (.aload_n 0, 1) := by decide +kernel
theorem dX3_takeNumber_44 : decode cX3_takeNumber 44 = .ok (.getfield 19, 3) := by decide +kernel
theorem dX3_takeNumber_47 : decode cX3_takeNumber 47 = .ok (.iaload, 1) := by decide +kernel
theorem dX3_takeNumber_48 : decode cX3_takeNumber 48 = .ok (.iadd, 1) := by decide +kernel
theorem dX3_takeNumber_49 : decode cX3_takeNumber 49 = .ok (.bipush 48, 2) := by decide +kernel
theorem dX3_takeNumber_51 : decode cX3_takeNumber 51 = .ok (.isub, 1) := by decide +kernel
theorem dX3_takeNumber_52 : decode cX3_takeNumber 52 = .ok (.putfield 28, 3) := by decide +kernel
theorem dX3_takeNumber_55 : decode cX3_takeNumber 55 = .ok (.aload_n 0, 1) := by decide +kernel
theorem dX3_takeNumber_56 : decode cX3_takeNumber 56 = .ok (.dup, 1) := by decide +kernel
theorem dX3_takeNumber_57 : decode cX3_takeNumber 57 = .ok (.getfield 19, 3) := by decide +kernel
theorem dX3_takeNumber_60 : decode cX3_takeNumber 60 = .ok (.iconst 1, 1) := by decide +kernel
theorem dX3_takeNumber_61 : decode cX3_takeNumber 61 = .ok (.iadd, 1) := by decide +kernel
theorem dX3_takeNumber_62 : decode cX3_takeNumber 62 = .ok (.putfield 19, 3) := by decide +kernel
theorem dX3_takeNumber_65 : decode cX3_takeNumber 65 = .ok (.goto (-60), 3) := by decide +kernel
theorem dX3_takeNumber_68 : decode cX3_takeNumber 68 = .ok (.aload_n 0, 1) := by decide +kernel
theorem dX3_takeNumber_69 : decode cX3_takeNumber 69 = .ok (.aload_n 0, 1) := by decide +kernel
theorem dX3_takeNumber_70 : decode cX3_takeNumber 70 = .ok (.getfield 19, 3) := by decide +kernel
theorem dX3_takeNumber_73 : decode cX3_takeNumber 73 = .ok (.aload_n 0, 1) := by decide +kernel
theorem dX3_takeNumber_74 : decode cX3_takeNumber 74 = .ok (.getfield 22, 3) := by decide +kernel
theorem dX3_takeNumber_77 : decode cX3_takeNumber 77 = .ok (.isub, 1) := by decide +kernel
theorem dX3_takeNumber_78 : decode cX3_takeNumber 78 = .ok (.iconst 2, 1) := by decide +kernel
theorem dX3_takeNumber_79 : decode cX3_takeNumber 79 = .ok (.if_icmp .le 7, 3) := by decide +kernel
theorem dX3_takeNumber_82 : decode cX3_takeNumber 82 = .ok (.iconst 4, 1) := by decide +kernel
theorem dX3_takeNumber_83 : decode cX3_takeNumber 83 = .ok (.goto 4, 3) := by decide +kernel
theorem dX3_takeNumber_86 : decode cX3_takeNumber 86 = .ok (.iconst 2, 1) := by decide +kernel
theorem dX3_takeNumber_87 : decode cX3_takeNumber 87 = .ok (.putfield 25, 3) := by decide +kernel
theorem dX3_takeNumber_90 : decode cX3_takeNumber 90 = .ok (.return_, 1) := by decide +kernel
theorem dX3_signOf_0 : decode cX3_signOf 0 = .ok (.iload_n 0, 1) := by decide +kernel
theorem dX3_signOf_1 : decode cX3_signOf 1 = .ok (.bipush 97, 2) := by decide +kernel
theorem dX3_signOf_3 : decode cX3_signOf 3 = .ok (.if_icmp .lt 14, 3) := by decide +kernel
theorem dX3_signOf_6 : decode cX3_signOf 6 = .ok (.iload_n 0, 1) := by decide +kernel
theorem dX3_signOf_7 : decode cX3_signOf 7 = .ok (.bipush 122, 2) := by decide +kernel
theorem dX3_signOf_9 : decode cX3_signOf 9 = .ok (.if_icmp .gt 8, 3) := by decide +kernel
theorem dX3_signOf_12 : decode cX3_signOf 12 = .ok (.iload_n 0, 1) := by decide +kernel
theorem dX3_signOf_13 : decode cX3_signOf 13 = .ok (.bipush 97, 2) := by decide +kernel
theorem dX3_signOf_15 : decode cX3_signOf 15 = .ok (.isub, 1) := by decide +kernel
theorem dX3_signOf_16 : decode cX3_signOf 16 = .ok (.ireturn, 1) := by decide +kernel
theorem dX3_signOf_17 : decode cX3_signOf 17 = .ok (.iload_n 0, 1) := by decide +kernel
theorem dX3_signOf_18 : decode cX3_signOf 18 = .ok (.bipush 46, 2) := by decide +kernel
theorem dX3_signOf_20 : decode cX3_signOf 20 = .ok (.if_icmp .ne 8, 3) := by decide +kernel
theorem dX3_signOf_23 : decode cX3_signOf 23 = .ok (.bipush 26, 2) := by decide +kernel
theorem dX3_signOf_25 : decode cX3_signOf 25 = .ok (.goto 15, 3) := by decide +kernel
theorem dX3_signOf_28 : decode cX3_signOf 28 = .ok (.iload_n 0, 1) := by decide +kernel
theorem dX3_signOf_29 : decode cX3_signOf 29 = .ok (.bipush 43, 2) := by decide +kernel
theorem dX3_signOf_31 : decode cX3_signOf 31 = .ok (.if_icmp .ne 8, 3) := by decide +kernel
theorem dX3_signOf_34 : decode cX3_signOf 34 = .ok (.bipush 27, 2) := by decide +kernel
theorem dX3_signOf_36 : decode cX3_signOf 36 = .ok (.goto 4, 3) := by decide +kernel
theorem dX3_signOf_39 : decode cX3_signOf 39 = .ok (.iconst (-1), 1) := by decide +kernel
theorem dX3_signOf_40 : decode cX3_signOf 40 = .ok (.ireturn, 1) := by decide +kernel
theorem dX3_isFigure_0 : decode cX3_isFigure 0 = .ok (.iload_n 0, 1) := by decide +kernel
theorem dX3_isFigure_1 : decode cX3_isFigure 1 = .ok (.bipush 48, 2) := by decide +kernel
theorem dX3_isFigure_3 : decode cX3_isFigure 3 = .ok (.if_icmp .lt 13, 3) := by decide +kernel
theorem dX3_isFigure_6 : decode cX3_isFigure 6 = .ok (.iload_n 0, 1) := by decide +kernel
theorem dX3_isFigure_7 : decode cX3_isFigure 7 = .ok (.bipush 57, 2) := by decide +kernel
theorem dX3_isFigure_9 : decode cX3_isFigure 9 = .ok (.if_icmp .gt 7, 3) := by decide +kernel
theorem dX3_isFigure_12 : decode cX3_isFigure 12 = .ok (.iconst 1, 1) := by decide +kernel
theorem dX3_isFigure_13 : decode cX3_isFigure 13 = .ok (.goto 4, 3) := by decide +kernel
theorem dX3_isFigure_16 : decode cX3_isFigure 16 = .ok (.iconst 0, 1) := by decide +kernel
theorem dX3_isFigure_17 : decode cX3_isFigure 17 = .ok (.ireturn, 1) := by decide +kernel
theorem dX4_init_0 : decode cX4_init 0 = .ok (.aload_n 0, 1) := by decide +kernel
theorem dX4_init_1 : decode cX4_init 1 = .ok (.invokespecial 3, 3) := by decide +kernel
theorem dX4_init_4 : decode cX4_init 4 = .ok (.aload_n 0, 1) := by decide +kernel
theorem dX4_init_5 : decode cX4_init 5 = .ok (.bipush 6, 2) := by decide +kernel
theorem dX4_init_7 : decode cX4_init 7 = .ok (.bipush 10, 2) := by decide +kernel
theorem dX4_init_9 : decode cX4_init 9 = .ok (.multianewarray 11 2, 4) := by decide +kernel
theorem dX4_init_13 : decode cX4_init 13 = .ok (.putfield 13, 3) := by decide +kernel
theorem dX4_init_16 : decode cX4_init 16 = .ok (.aload_n 0, 1) := by decide +kernel
theorem dX4_init_17 : decode cX4_init 17 = .ok (.iconst 5, 1) := by decide +kernel
theorem dX4_init_18 : decode cX4_init 18 = .ok (.newarray .int, 2) := by decide +kernel
theorem dX4_init_20 : decode cX4_init 20 = .ok (.putfield 18, 3) := by decide +kernel
theorem dX4_init_23 : decode cX4_init 23 = .ok (.aload_n 0, 1) := by decide +kernel
theorem dX4_init_24 : decode cX4_init 24 = .ok (.iconst 5, 1) := by decide +kernel
theorem dX4_init_25 : decode cX4_init 25 = .ok (.newarray .int, 2) := by decide +kernel
theorem dX4_init_27 : decode cX4_init 27 = .ok (.putfield 22, 3) := by decide +kernel
theorem dX4_init_30 : decode cX4_init 30 = .ok (.aload_n 0, 1) := by decide +kernel
theorem dX4_init_31 : decode cX4_init 31 = .ok (.iconst 4, 1) := by decide +kernel
theorem dX4_init_32 : decode cX4_init 32 = .ok (.newarray .int, 2) := by decide +kernel
theorem dX4_init_34 : decode cX4_init 34 = .ok (.putfield 25, 3) := by decide +kernel
theorem dX4_init_37 : decode cX4_init 37 = .ok (.aload_n 0, 1) := by decide +kernel
theorem dX4_init_38 : decode cX4_init 38 = .ok (.iconst 0, 1) := by decide +kernel
theorem dX4_init_39 : decode cX4_init 39 = .ok (.putfield 28, 3) := by decide +kernel
theorem dX4_init_42 : decode cX4_init 42 = .ok (.aload_n 0, 1) := by decide +kernel
theorem dX4_init_43 : decode cX4_init 43 = .ok (.iconst 0, 1) := by decide +kernel
theorem dX4_init_44 : decode cX4_init 44 = .ok (.putfield 32, 3) := by decide +kernel
theorem dX4_init_47 : decode cX4_init 47 = .ok (.aload_n 0, 1) := by decide +kernel
theorem dX4_init_48 : decode cX4_init 48 = .ok (.iconst (-1), 1) := by decide +kernel
theorem dX4_init_49 : decode cX4_init 49 = .ok (.putfield 35, 3) := by decide +kernel
theorem dX4_init_52 : decode cX4_init 52 = .ok (.aload_n 0, 1) := by decide +kernel
theorem dX4_init_53 : decode cX4_init 53 = .ok (.iconst 0, 1) := by decide +kernel
theorem dX4_init_54 : decode cX4_init 54 = .ok (.putfield 38, 3) := by decide +kernel
theorem dX4_init_57 : decode cX4_init 57 = .ok (.aload_n 0, 1) := by decide +kernel
theorem dX4_init_58 : decode cX4_init 58 = .ok (.iconst 0, 1) := by decide +kernel
theorem dX4_init_59 : decode cX4_init 59 = .ok (.putfield 41, 3) := by decide +kernel
theorem dX4_init_62 : decode cX4_init 62 = .ok (.aload_n 0, 1) := by decide +kernel
theorem dX4_init_63 : decode cX4_init 63 = .ok (.iconst 0, 1) := by decide +kernel
theorem dX4_init_64 : decode cX4_init 64 = .ok (.putfield 45, 3) := by decide +kernel
theorem dX4_init_67 : decode cX4_init 67 = .ok (.aload_n 0, 1) := by decide +kernel
theorem dX4_init_68 : decode cX4_init 68 = .ok (.iconst 0, 1) := by decide +kernel
theorem dX4_init_69 : decode cX4_init 69 = .ok (.putfield 48, 3) := by decide +kernel
theorem dX4_init_72 : decode cX4_init 72 = .ok (.return_, 1) := by decide +kernel
theorem dX4_search_0 : decode cX4_search 0 = .ok (.aload_n 0, 1) := by decide +kernel
theorem dX4_search_1 : decode cX4_search 1 = .ok (.aload_n 1, 1) := by decide +kernel
theorem dX4_search_2 : decode cX4_search 2 = .ok (.iload_n 2, 1) := by decide +kernel
theorem dX4_search_3 : decode cX4_search 3 = .ok (.invokevirtual 51, 3) := by decide +kernel
theorem dX4_search_6 : decode cX4_search 6 = .ok (.aload_n 0, 1) := by decide +kernel
theorem dX4_search_7 : decode cX4_search 7 = .ok (.iload_n 3, 1) := by decide +kernel
theorem dX4_search_8 : decode cX4_search 8 = .ok (.putfield 32, 3) := by decide +kernel
theorem dX4_search_11 : decode cX4_search 11 = .ok (.aload_n 0, 1) := by decide +kernel
theorem dX4_search_12 : decode cX4_search 12 = .ok (.iload 4, 2) := by decide +kernel
theorem dX4_search_14 : decode cX4_search 14 = .ok (.putfield 41, 3) := by decide +kernel
theorem dX4_search_17 : decode cX4_search 17 = .ok (.aload_n 0, 1) := by decide +kernel
theorem dX4_search_18 : decode cX4_search 18 = .ok (.iconst (-1), 1) := by decide +kernel
theorem dX4_search_19 : decode cX4_search 19 = .ok (.putfield 35, 3) := by decide +kernel
theorem dX4_search_22 : decode cX4_search 22 = .ok (.aload_n 0, 1) := by decide +kernel
theorem dX4_search_23 : decode cX4_search 23 = .ok (.iconst 0, 1) := by decide +kernel
theorem dX4_search_24 : decode cX4_search 24 = .ok (.putfield 38, 3) := by decide +kernel
theorem dX4_search_27 : decode cX4_search 27 = .ok (.iconst 0, 1) := by decide +kernel
theorem dX4_search_28 : decode cX4_search 28 = .ok (.istore 5, 2) := by decide +kernel
theorem dX4_search_30 : decode cX4_search 30 = .ok (.iload 5, 2) := by decide +kernel
theorem dX4_search_32 : decode cX4_search 32 = .ok (.aload_n 1, 1) := by decide +kernel
theorem dX4_search_33 : decode cX4_search 33 = .ok (.getfield 55, 3) := by decide +kernel
theorem dX4_search_36 : decode cX4_search 36 = .ok (.if_icmp .ge 64, 3) := by decide +kernel
theorem dX4_search_39 : decode cX4_search 39 = .ok (.iconst 0, 1) := by decide +kernel
theorem dX4_search_40 : decode cX4_search 40 = .ok (.istore 6, 2) := by decide +kernel
theorem dX4_search_42 : decode cX4_search 42 = .ok (.iload 6, 2) := by decide +kernel
theorem dX4_search_44 : decode cX4_search 44 = .ok (.iload_n 2, 1) := by decide +kernel
theorem dX4_search_45 : decode cX4_search 45 = .ok (.if_icmp .ge 49, 3) := by decide +kernel
theorem dX4_search_48 : decode cX4_search 48 = .ok (.aload_n 1, 1) := by decide +kernel
theorem dX4_search_49 : decode cX4_search 49 = .ok (.getfield 58, 3) := by decide +kernel
theorem dX4_search_52 : decode cX4_search 52 = .ok (.aload_n 1, 1) := by decide +kernel
theorem dX4_search_53 : decode cX4_search 53 = .ok (.getfield 62, 3) := by decide +kernel
theorem dX4_search_56 : decode cX4_search 56 = .ok (.iload 5, 2) := by decide +kernel
theorem dX4_search_58 : decode cX4_search 58 = .ok (.iaload, 1) := by decide +kernel
theorem dX4_search_59 : decode cX4_search 59 = .ok (.aaload, 1) := by decide +kernel
theorem dX4_search_60 : decode cX4_search 60 = .ok (.aload_n 1, 1) := by decide +kernel
theorem dX4_search_61 : decode cX4_search 61 = .ok (.getfield 65, 3) := by decide +kernel
theorem dX4_search_64 : decode cX4_search 64 = .ok (.bipush 9, 2) := by decide +kernel
theorem dX4_search_66 : decode cX4_search 66 = .ok (.iaload, 1) := by decide +kernel
theorem dX4_search_67 : decode cX4_search 67 = .ok (.iload 6, 2) := by decide +kernel
theorem dX4_search_69 : decode cX4_search 69 = .ok (.iadd, 1) := by decide +kernel
theorem dX4_search_70 : decode cX4_search 70 = .ok (.invokevirtual 68, 3) := by decide +kernel
theorem dX4_search_73 : decode cX4_search 73 = .ok (.istore 7, 2) := by decide +kernel
theorem dX4_search_75 : decode cX4_search 75 = .ok (.aload_n 0, 1) := by decide +kernel
theorem dX4_search_76 : decode cX4_search 76 = .ok (.aload_n 0, 1) := by decide +kernel
theorem dX4_search_77 : decode cX4_search 77 = .ok (.getfield 38, 3) := by decide +kernel
theorem dX4_search_80 : decode cX4_search 80 = .ok (.iload 7, 2) := by decide +kernel
theorem dX4_search_82 : decode cX4_search 82 = .ok (.invokestatic 74, 3) := by decide +kernel
theorem dX4_search_85 : decode cX4_search 85 = .ok (.putfield 38, 3) := by decide +kernel
theorem dX4_search_88 : decode cX4_search 88 = .ok (.iinc 6 1, 3) := by decide +kernel
theorem dX4_search_91 : decode cX4_search 91 = .ok (.goto (-49), 3) := by decide +kernel
theorem dX4_search_94 : decode cX4_search 94 = .ok (.iinc 5 1, 3) := by decide +kernel
theorem dX4_search_97 : decode cX4_search 97 = .ok (.goto (-67), 3) := by decide +kernel
theorem dX4_search_100 : decode cX4_search 100 = .ok (.aload_n 0, 1) := by decide +kernel
theorem dX4_search_101 : decode cX4_search 101 = .ok (.aload_n 1, 1) := by decide +kernel
theorem dX4_search_102 : decode cX4_search 102 = .ok (.iconst 0, 1) := by decide +kernel
theorem dX4_search_103 : decode cX4_search 103 = .ok (.iconst 0, 1) := by decide +kernel
theorem dX4_search_104 : decode cX4_search 104 = .ok (.invokevirtual 80, 3) := by decide +kernel
theorem dX4_search_107 : decode cX4_search 107 = .ok (.aload_n 0, 1) := by decide +kernel
theorem dX4_search_108 : decode cX4_search 108 = .ok (.getfield 35, 3) := by decide +kernel
theorem dX4_search_111 : decode cX4_search 111 = .ok (.ireturn, 1) := by decide +kernel
theorem dX4_chosen_0 : decode cX4_chosen 0 = .ok (.iload_n 1, 1) := by decide +kernel
theorem dX4_chosen_1 : decode cX4_chosen 1 = .ok (.ifCond .lt 20, 3) := by decide +kernel
theorem dX4_chosen_4 : decode cX4_chosen 4 = .ok (.iload_n 1, 1) := by decide +kernel
theorem dX4_chosen_5 : decode cX4_chosen 5 = .ok (.aload_n 0, 1) := by decide +kernel
theorem dX4_chosen_6 : decode cX4_chosen 6 = .ok (.getfield 28, 3) := by decide +kernel
theorem dX4_chosen_9 : decode cX4_chosen 9 = .ok (.if_icmp .ge 12, 3) := by decide +kernel
theorem dX4_chosen_12 : decode cX4_chosen 12 = .ok (.aload_n 0, 1) := by decide +kernel
theorem dX4_chosen_13 : decode cX4_chosen 13 = .ok (.getfield 22, 3) := by decide +kernel
theorem dX4_chosen_16 : decode cX4_chosen 16 = .ok (.iload_n 1, 1) := by decide +kernel
theorem dX4_chosen_17 : decode cX4_chosen 17 = .ok (.iaload, 1) := by decide +kernel
theorem dX4_chosen_18 : decode cX4_chosen 18 = .ok (.goto 5, 3) := by decide +kernel
theorem dX4_chosen_21 : decode cX4_chosen 21 = .ok (.bipush (-5), 2) := by decide +kernel
theorem dX4_chosen_23 : decode cX4_chosen 23 = .ok (.ireturn, 1) := by decide +kernel
theorem dX4_behindChosen_0 : decode cX4_behindChosen 0 = .ok (.aload_n 0, 1) := by decide +kernel
theorem dX4_behindChosen_1 : decode cX4_behindChosen 1 = .ok (.aload_n 1, 1) := by decide +kernel
theorem dX4_behindChosen_2 : decode cX4_behindChosen 2 = .ok (.aload_n 0, 1) := by decide +kernel
theorem dX4_behindChosen_3 : decode cX4_behindChosen 3 = .ok (.getfield 28, 3) := by decide +kernel
theorem dX4_behindChosen_6 : decode cX4_behindChosen 6 = .ok (.invokevirtual 51, 3) := by decide +kernel
theorem dX4_behindChosen_9 : decode cX4_behindChosen 9 = .ok (.iconst 0, 1) := by decide +kernel
theorem dX4_behindChosen_10 : decode cX4_behindChosen 10 = .ok (.istore_n 2, 1) := by decide +kernel
theorem dX4_behindChosen_11 : decode cX4_behindChosen 11 = .ok (.iload_n 2, 1) := by decide +kernel
theorem dX4_behindChosen_12 : decode cX4_behindChosen 12 = .ok (.aload_n 0, 1) := by decide +kernel
theorem dX4_behindChosen_13 : decode cX4_behindChosen 13 = .ok (.getfield 28, 3) := by decide +kernel
theorem dX4_behindChosen_16 : decode cX4_behindChosen 16 = .ok (.if_icmp .ge 26, 3) := by decide +kernel
theorem dX4_behindChosen_19 : decode cX4_behindChosen 19 = .ok (.aload_n 1, 1) := by decide +kernel
theorem dX4_behindChosen_20 : decode cX4_behindChosen 20 = .ok (.aload_n 0, 1) := by decide +kernel
theorem dX4_behindChosen_21 : decode cX4_behindChosen 21 = .ok (.getfield 13, 3) := by decide +kernel
theorem dX4_behindChosen_24 : decode cX4_behindChosen 24 = .ok (.iconst 0, 1) := by decide +kernel
theorem dX4_behindChosen_25 : decode cX4_behindChosen 25 = .ok (.aaload, 1) := by decide +kernel
theorem dX4_behindChosen_26 : decode cX4_behindChosen 26 = .ok (.aload_n 0, 1) := by decide +kernel
theorem dX4_behindChosen_27 : decode cX4_behindChosen 27 = .ok (.getfield 22, 3) := by decide +kernel
theorem dX4_behindChosen_30 : decode cX4_behindChosen 30 = .ok (.iload_n 2, 1) := by decide +kernel
theorem dX4_behindChosen_31 : decode cX4_behindChosen 31 = .ok (.iaload, 1) := by decide +kernel
theorem dX4_behindChosen_32 : decode cX4_behindChosen 32 = .ok (.invokevirtual 84, 3) := by decide +kernel
theorem dX4_behindChosen_35 : decode cX4_behindChosen 35 = .ok (.pop, 1) := by decide +kernel
theorem dX4_behindChosen_36 : decode cX4_behindChosen 36 = .ok (.iinc 2 1, 3) := by decide +kernel
theorem dX4_behindChosen_39 : decode cX4_behindChosen 39 = .ok (.goto (-28), 3) := by decide +kernel
theorem dX4_behindChosen_42 : decode cX4_behindChosen 42 = .ok (.aload_n 0, 1) := by decide +kernel
theorem dX4_behindChosen_43 : decode cX4_behindChosen 43 = .ok (.getfield 13, 3) := by decide +kernel
theorem dX4_behindChosen_46 : decode cX4_behindChosen 46 = .ok (.iconst 0, 1) := by decide +kernel
theorem dX4_behindChosen_47 : decode cX4_behindChosen 47 = .ok (.aaload, 1) := by decide +kernel
theorem dX4_behindChosen_48 : decode cX4_behindChosen 48 = .ok (.areturn, 1) := by decide +kernel
theorem dX4_begin_0 : decode cX4_begin 0 = .ok (.aload_n 0, 1) := by decide +kernel
theorem dX4_begin_1 : decode cX4_begin 1 = .ok (.iload_n 2, 1) := by decide +kernel
theorem dX4_begin_2 : decode cX4_begin 2 = .ok (.iconst 5, 1) := by decide +kernel
theorem dX4_begin_3 : decode cX4_begin 3 = .ok (.invokestatic 88, 3) := by decide +kernel
theorem dX4_begin_6 : decode cX4_begin 6 = .ok (.putfield 28, 3) := by decide +kernel
theorem dX4_begin_9 : decode cX4_begin 9 = .ok (.aload_n 1, 1) := by decide +kernel
theorem dX4_begin_10 : decode cX4_begin 10 = .ok (.getfield 65, 3) := by decide +kernel
theorem dX4_begin_13 : decode cX4_begin 13 = .ok (.iconst 0, 1) := by decide +kernel
theorem dX4_begin_14 : decode cX4_begin 14 = .ok (.aload_n 0, 1) := by decide +kernel
theorem dX4_begin_15 : decode cX4_begin 15 = .ok (.getfield 13, 3) := by decide +kernel
theorem dX4_begin_18 : decode cX4_begin 18 = .ok (.iconst 0, 1) := by decide +kernel
theorem dX4_begin_19 : decode cX4_begin 19 = .ok (.aaload, 1) := by decide +kernel
theorem dX4_begin_20 : decode cX4_begin 20 = .ok (.iconst 0, 1) := by decide +kernel
theorem dX4_begin_21 : decode cX4_begin 21 = .ok (.bipush 10, 2) := by decide +kernel
theorem dX4_begin_23 : decode cX4_begin 23 = .ok (.invokestatic 91, 3) := by decide +kernel
theorem dX4_begin_26 : decode cX4_begin 26 = .ok (.return_, 1) := by decide +kernel
theorem dX4_tryFrom_0 : decode cX4_tryFrom 0 = .ok (.iload_n 2, 1) := by decide +kernel
theorem dX4_tryFrom_1 : decode cX4_tryFrom 1 = .ok (.aload_n 0, 1) := by decide +kernel
theorem dX4_tryFrom_2 : decode cX4_tryFrom 2 = .ok (.getfield 28, 3) := by decide +kernel
theorem dX4_tryFrom_5 : decode cX4_tryFrom 5 = .ok (.if_icmp .gt 13, 3) := by decide +kernel
theorem dX4_tryFrom_8 : decode cX4_tryFrom 8 = .ok (.aload_n 0, 1) := by decide +kernel
theorem dX4_tryFrom_9 : decode cX4_tryFrom 9 = .ok (.aload_n 1, 1) := by decide +kernel
theorem dX4_tryFrom_10 : decode cX4_tryFrom 10 = .ok (.iload_n 2, 1) := by decide +kernel
theorem dX4_tryFrom_11 : decode cX4_tryFrom 11 = .ok (.iload_n 3, 1) := by decide +kernel
theorem dX4_tryFrom_12 : decode cX4_tryFrom 12 = .ok (.invokevirtual 97, 3) := by decide +kernel
theorem dX4_tryFrom_15 : decode cX4_tryFrom 15 = .ok (.ifCond .ne 4, 3) := by decide +kernel
theorem dX4_tryFrom_18 : decode cX4_tryFrom 18 = .ok (.return_, 1) := by decide +kernel
theorem dX4_tryFrom_19 : decode cX4_tryFrom 19 = .ok (.iload_n 2, 1) := by decide +kernel
theorem dX4_tryFrom_20 : decode cX4_tryFrom 20 = .ok (.aload_n 0, 1) := by decide +kernel
theorem dX4_tryFrom_21 : decode cX4_tryFrom 21 = .ok (.getfield 28, 3) := by decide +kernel
theorem dX4_tryFrom_24 : decode cX4_tryFrom 24 = .ok (.if_icmp .ne 26, 3) := by decide +kernel
theorem dX4_tryFrom_27 : decode cX4_tryFrom 27 = .ok (.aload_n 0, 1) := by decide +kernel
theorem dX4_tryFrom_28 : decode cX4_tryFrom 28 = .ok (.iload_n 3, 1) := by decide +kernel
theorem dX4_tryFrom_29 : decode cX4_tryFrom 29 = .ok (.putfield 35, 3) := by decide +kernel
theorem dX4_tryFrom_32 : decode cX4_tryFrom 32 = .ok (.aload_n 0, 1) := by decide +kernel
theorem dX4_tryFrom_33 : decode cX4_tryFrom 33 = .ok (.getfield 18, 3) := by decide +kernel
theorem dX4_tryFrom_36 : decode cX4_tryFrom 36 = .ok (.iconst 0, 1) := by decide +kernel
theorem dX4_tryFrom_37 : decode cX4_tryFrom 37 = .ok (.aload_n 0, 1) := by decide +kernel
theorem dX4_tryFrom_38 : decode cX4_tryFrom 38 = .ok (.getfield 22, 3) := by decide +kernel
theorem dX4_tryFrom_41 : decode cX4_tryFrom 41 = .ok (.iconst 0, 1) := by decide +kernel
theorem dX4_tryFrom_42 : decode cX4_tryFrom 42 = .ok (.aload_n 0, 1) := by decide +kernel
theorem dX4_tryFrom_43 : decode cX4_tryFrom 43 = .ok (.getfield 28, 3) := by decide +kernel
theorem dX4_tryFrom_46 : decode cX4_tryFrom 46 = .ok (.invokestatic 91, 3) := by decide +kernel
theorem dX4_tryFrom_49 : decode cX4_tryFrom 49 = .ok (.return_, 1) := by decide +kernel
theorem dX4_tryFrom_50 : decode cX4_tryFrom 50 = .ok (.aload_n 0, 1) := by decide +kernel
theorem dX4_tryFrom_51 : decode cX4_tryFrom 51 = .ok (.getfield 13, 3) := by decide +kernel
theorem dX4_tryFrom_54 : decode cX4_tryFrom 54 = .ok (.iload_n 2, 1) := by decide +kernel
theorem dX4_tryFrom_55 : decode cX4_tryFrom 55 = .ok (.aaload, 1) := by decide +kernel
theorem dX4_tryFrom_56 : decode cX4_tryFrom 56 = .ok (.astore 4, 2) := by decide +kernel
theorem dX4_tryFrom_58 : decode cX4_tryFrom 58 = .ok (.aload_n 0, 1) := by decide +kernel
theorem dX4_tryFrom_59 : decode cX4_tryFrom 59 = .ok (.getfield 13, 3) := by decide +kernel
theorem dX4_tryFrom_62 : decode cX4_tryFrom 62 = .ok (.iload_n 2, 1) := by decide +kernel
theorem dX4_tryFrom_63 : decode cX4_tryFrom 63 = .ok (.iconst 1, 1) := by decide +kernel
theorem dX4_tryFrom_64 : decode cX4_tryFrom 64 = .ok (.iadd, 1) := by decide +kernel
theorem dX4_tryFrom_65 : decode cX4_tryFrom 65 = .ok (.aaload, 1) := by decide +kernel
theorem dX4_tryFrom_66 : decode cX4_tryFrom 66 = .ok (.astore 5, 2) := by decide +kernel
theorem dX4_tryFrom_68 : decode cX4_tryFrom 68 = .ok (.iconst 0, 1) := by decide +kernel
theorem dX4_tryFrom_69 : decode cX4_tryFrom 69 = .ok (.istore 6, 2) := by decide +kernel
theorem dX4_tryFrom_71 : decode cX4_tryFrom 71 = .ok (.iconst 0, 1) := by decide +kernel
theorem dX4_tryFrom_72 : decode cX4_tryFrom 72 = .ok (.istore 7, 2) := by decide +kernel
theorem dX4_tryFrom_74 : decode cX4_tryFrom 74 = .ok (.iload 7, 2) := by decide +kernel
theorem dX4_tryFrom_76 : decode cX4_tryFrom 76 = .ok (.bipush 7, 2) := by decide +kernel
theorem dX4_tryFrom_78 : decode cX4_tryFrom 78 = .ok (.if_icmp .gt 135, 3) := by decide +kernel
theorem dX4_tryFrom_81 : decode cX4_tryFrom 81 = .ok (.aload_n 1, 1) := by decide +kernel
theorem dX4_tryFrom_82 : decode cX4_tryFrom 82 = .ok (.iload 7, 2) := by decide +kernel
theorem dX4_tryFrom_84 : decode cX4_tryFrom 84 = .ok (.invokevirtual 101, 3) := by decide +kernel
theorem dX4_tryFrom_87 : decode cX4_tryFrom 87 = .ok (.ifCond .ne 6, 3) := by decide +kernel
theorem dX4_tryFrom_90 : decode cX4_tryFrom 90 = .ok (.goto 117, 3) := by decide +kernel
theorem dX4_tryFrom_93 : decode cX4_tryFrom 93 = .ok (.aload 4, 2) := by decide +kernel
theorem dX4_tryFrom_95 : decode cX4_tryFrom 95 = .ok (.iconst 0, 1) := by decide +kernel
theorem dX4_tryFrom_96 : decode cX4_tryFrom 96 = .ok (.aload 5, 2) := by decide +kernel
theorem dX4_tryFrom_98 : decode cX4_tryFrom 98 = .ok (.iconst 0, 1) := by decide +kernel
theorem dX4_tryFrom_99 : decode cX4_tryFrom 99 = .ok (.bipush 10, 2) := by decide +kernel
theorem dX4_tryFrom_101 : decode cX4_tryFrom 101 = .ok (.invokestatic 91, 3) := by decide +kernel
theorem dX4_tryFrom_104 : decode cX4_tryFrom 104 = .ok (.aload_n 1, 1) := by decide +kernel
theorem dX4_tryFrom_105 : decode cX4_tryFrom 105 = .ok (.aload 5, 2) := by decide +kernel
theorem dX4_tryFrom_107 : decode cX4_tryFrom 107 = .ok (.iload 7, 2) := by decide +kernel
theorem dX4_tryFrom_109 : decode cX4_tryFrom 109 = .ok (.invokevirtual 84, 3) := by decide +kernel
theorem dX4_tryFrom_112 : decode cX4_tryFrom 112 = .ok (.istore 8, 2) := by decide +kernel
theorem dX4_tryFrom_114 : decode cX4_tryFrom 114 = .ok (.aload 5, 2) := by decide +kernel
theorem dX4_tryFrom_116 : decode cX4_tryFrom 116 = .ok (.bipush 7, 2) := by decide +kernel
theorem dX4_tryFrom_118 : decode cX4_tryFrom 118 = .ok (.iaload, 1) := by decide +kernel
theorem dX4_tryFrom_119 : decode cX4_tryFrom 119 = .ok (.aload 4, 2) := by decide +kernel
theorem dX4_tryFrom_121 : decode cX4_tryFrom 121 = .ok (.bipush 7, 2) := by decide +kernel
theorem dX4_tryFrom_123 : decode cX4_tryFrom 123 = .ok (.iaload, 1) := by decide +kernel
theorem dX4_tryFrom_124 : decode cX4_tryFrom 124 = .ok (.if_icmp .ne 20, 3) := by decide +kernel
theorem dX4_tryFrom_127 : decode cX4_tryFrom 127 = .ok (.aload 5, 2) := by decide +kernel
theorem dX4_tryFrom_129 : decode cX4_tryFrom 129 = .ok (.bipush 8, 2) := by decide +kernel
theorem dX4_tryFrom_131 : decode cX4_tryFrom 131 = .ok (.iaload, 1) := by decide +kernel
theorem dX4_tryFrom_132 : decode cX4_tryFrom 132 = .ok (.aload 4, 2) := by decide +kernel
theorem dX4_tryFrom_134 : decode cX4_tryFrom 134 = .ok (.bipush 8, 2) := by decide +kernel
theorem dX4_tryFrom_136 : decode cX4_tryFrom 136 = .ok (.iaload, 1) := by decide +kernel
theorem dX4_tryFrom_137 : decode cX4_tryFrom 137 = .ok (.if_icmp .ne 7, 3) := by decide +kernel
theorem dX4_tryFrom_140 : decode cX4_tryFrom 140 = .ok (.iconst 1, 1) := by decide +kernel
theorem dX4_tryFrom_141 : decode cX4_tryFrom 141 = .ok (.goto 4, 3) := by decide +kernel
theorem dX4_tryFrom_144 : decode cX4_tryFrom 144 = .ok (.iconst 0, 1) := by decide +kernel
theorem dX4_tryFrom_145 : decode cX4_tryFrom 145 = .ok (.istore 9, 2) := by decide +kernel
theorem dX4_tryFrom_147 : decode cX4_tryFrom 147 = .ok (.iload 9, 2) := by decide +kernel
theorem dX4_tryFrom_149 : decode cX4_tryFrom 149 = .ok (.ifCond .eq 8, 3) := by decide +kernel
theorem dX4_tryFrom_152 : decode cX4_tryFrom 152 = .ok (.iload 6, 2) := by decide +kernel
theorem dX4_tryFrom_154 : decode cX4_tryFrom 154 = .ok (.ifCond .ne 36, 3) := by decide +kernel
theorem dX4_tryFrom_157 : decode cX4_tryFrom 157 = .ok (.aload_n 0, 1) := by decide +kernel
theorem dX4_tryFrom_158 : decode cX4_tryFrom 158 = .ok (.getfield 18, 3) := by decide +kernel
theorem dX4_tryFrom_161 : decode cX4_tryFrom 161 = .ok (.iload_n 2, 1) := by decide +kernel
theorem dX4_tryFrom_162 : decode cX4_tryFrom 162 = .ok (.iload 7, 2) := by decide +kernel
theorem dX4_tryFrom_164 : decode cX4_tryFrom 164 = .ok (.iastore, 1) := by decide +kernel
theorem dX4_tryFrom_165 : decode cX4_tryFrom 165 = .ok (.aload_n 0, 1) := by decide +kernel
theorem dX4_tryFrom_166 : decode cX4_tryFrom 166 = .ok (.aload_n 1, 1) := by decide +kernel
theorem dX4_tryFrom_167 : decode cX4_tryFrom 167 = .ok (.iload_n 2, 1) := by decide +kernel
theorem dX4_tryFrom_168 : decode cX4_tryFrom 168 = .ok (.iconst 1, 1) := by decide +kernel
theorem dX4_tryFrom_169 : decode cX4_tryFrom 169 = .ok (.iadd, 1) := by decide +kernel
theorem dX4_tryFrom_170 : decode cX4_tryFrom 170 = .ok (.aload_n 1, 1) := by decide +kernel
theorem dX4_tryFrom_171 : decode cX4_tryFrom 171 = .ok (.iload 7, 2) := by decide +kernel
theorem dX4_tryFrom_173 : decode cX4_tryFrom 173 = .ok (.invokevirtual 105, 3) := by decide +kernel
theorem dX4_tryFrom_176 : decode cX4_tryFrom 176 = .ok (.ifCond .eq 10, 3) := by decide +kernel
theorem dX4_tryFrom_179 : decode cX4_tryFrom 179 = .ok (.iload_n 3, 1) := by decide +kernel
theorem dX4_tryFrom_180 : decode cX4_tryFrom 180 = .ok (.iload 8, 2) := by decide +kernel
theorem dX4_tryFrom_182 : decode cX4_tryFrom 182 = .ok (.iadd, 1) := by decide +kernel
theorem dX4_tryFrom_183 : decode cX4_tryFrom 183 = .ok (.goto 4, 3) := by decide +kernel
theorem dX4_tryFrom_186 : decode cX4_tryFrom 186 = .ok (.iload_n 3, 1) := by decide +kernel
theorem dX4_tryFrom_187 : decode cX4_tryFrom 187 = .ok (.invokevirtual 80, 3) := by decide +kernel
theorem dX4_tryFrom_190 : decode cX4_tryFrom 190 = .ok (.iload 6, 2) := by decide +kernel
theorem dX4_tryFrom_192 : decode cX4_tryFrom 192 = .ok (.ifCond .ne 8, 3) := by decide +kernel
theorem dX4_tryFrom_195 : decode cX4_tryFrom 195 = .ok (.iload 9, 2) := by decide +kernel
theorem dX4_tryFrom_197 : decode cX4_tryFrom 197 = .ok (.ifCond .eq 7, 3) := by decide +kernel
theorem dX4_tryFrom_200 : decode cX4_tryFrom 200 = .ok (.iconst 1, 1) := by decide +kernel
theorem dX4_tryFrom_201 : decode cX4_tryFrom 201 = .ok (.goto 4, 3) := by decide +kernel
theorem dX4_tryFrom_204 : decode cX4_tryFrom 204 = .ok (.iconst 0, 1) := by decide +kernel
theorem dX4_tryFrom_205 : decode cX4_tryFrom 205 = .ok (.istore 6, 2) := by decide +kernel
theorem dX4_tryFrom_207 : decode cX4_tryFrom 207 = .ok (.iinc 7 1, 3) := by decide +kernel
theorem dX4_tryFrom_210 : decode cX4_tryFrom 210 = .ok (.goto (-136), 3) := by decide +kernel
theorem dX4_tryFrom_213 : decode cX4_tryFrom 213 = .ok (.return_, 1) := by decide +kernel
theorem dX4_isWorth_0 : decode cX4_isWorth 0 = .ok (.aload_n 0, 1) := by decide +kernel
theorem dX4_isWorth_1 : decode cX4_isWorth 1 = .ok (.getfield 41, 3) := by decide +kernel
theorem dX4_isWorth_4 : decode cX4_isWorth 4 = .ok (.ifCond .eq 13, 3) := by decide +kernel
theorem dX4_isWorth_7 : decode cX4_isWorth 7 = .ok (.aload_n 0, 1) := by decide +kernel
theorem dX4_isWorth_8 : decode cX4_isWorth 8 = .ok (.getfield 35, 3) := by decide +kernel
theorem dX4_isWorth_11 : decode cX4_isWorth 11 = .ok (.iconst (-1), 1) := by decide +kernel
theorem dX4_isWorth_12 : decode cX4_isWorth 12 = .ok (.if_icmp .eq 5, 3) := by decide +kernel
theorem dX4_isWorth_15 : decode cX4_isWorth 15 = .ok (.iconst 0, 1) := by decide +kernel
theorem dX4_isWorth_16 : decode cX4_isWorth 16 = .ok (.ireturn, 1) := by decide +kernel
theorem dX4_isWorth_17 : decode cX4_isWorth 17 = .ok (.aload_n 0, 1) := by decide +kernel
theorem dX4_isWorth_18 : decode cX4_isWorth 18 = .ok (.getfield 13, 3) := by decide +kernel
theorem dX4_isWorth_21 : decode cX4_isWorth 21 = .ok (.iload_n 2, 1) := by decide +kernel
theorem dX4_isWorth_22 : decode cX4_isWorth 22 = .ok (.aaload, 1) := by decide +kernel
theorem dX4_isWorth_23 : decode cX4_isWorth 23 = .ok (.astore 4, 2) := by decide +kernel
theorem dX4_isWorth_25 : decode cX4_isWorth 25 = .ok (.aload_n 0, 1) := by decide +kernel
theorem dX4_isWorth_26 : decode cX4_isWorth 26 = .ok (.getfield 28, 3) := by decide +kernel
theorem dX4_isWorth_29 : decode cX4_isWorth 29 = .ok (.iload_n 2, 1) := by decide +kernel
theorem dX4_isWorth_30 : decode cX4_isWorth 30 = .ok (.isub, 1) := by decide +kernel
theorem dX4_isWorth_31 : decode cX4_isWorth 31 = .ok (.istore 5, 2) := by decide +kernel
theorem dX4_isWorth_33 : decode cX4_isWorth 33 = .ok (.iconst 0, 1) := by decide +kernel
theorem dX4_isWorth_34 : decode cX4_isWorth 34 = .ok (.istore 6, 2) := by decide +kernel
theorem dX4_isWorth_36 : decode cX4_isWorth 36 = .ok (.iconst 0, 1) := by decide +kernel
theorem dX4_isWorth_37 : decode cX4_isWorth 37 = .ok (.istore 7, 2) := by decide +kernel
theorem dX4_isWorth_39 : decode cX4_isWorth 39 = .ok (.aload_n 0, 1) := by decide +kernel
theorem dX4_isWorth_40 : decode cX4_isWorth 40 = .ok (.getfield 25, 3) := by decide +kernel
theorem dX4_isWorth_43 : decode cX4_isWorth 43 = .ok (.iconst 0, 1) := by decide +kernel
theorem dX4_isWorth_44 : decode cX4_isWorth 44 = .ok (.invokestatic 108, 3) := by decide +kernel
theorem dX4_isWorth_47 : decode cX4_isWorth 47 = .ok (.iconst 0, 1) := by decide +kernel
theorem dX4_isWorth_48 : decode cX4_isWorth 48 = .ok (.istore 8, 2) := by decide +kernel
theorem dX4_isWorth_50 : decode cX4_isWorth 50 = .ok (.iload 8, 2) := by decide +kernel
theorem dX4_isWorth_52 : decode cX4_isWorth 52 = .ok (.aload_n 1, 1) := by decide +kernel
theorem dX4_isWorth_53 : decode cX4_isWorth 53 = .ok (.getfield 114, 3) := by decide +kernel
theorem dX4_isWorth_56 : decode cX4_isWorth 56 = .ok (.if_icmp .ge 94, 3) := by decide +kernel
theorem dX4_isWorth_59 : decode cX4_isWorth 59 = .ok (.aload_n 1, 1) := by decide +kernel
theorem dX4_isWorth_60 : decode cX4_isWorth 60 = .ok (.aload 4, 2) := by decide +kernel
theorem dX4_isWorth_62 : decode cX4_isWorth 62 = .ok (.iload 8, 2) := by decide +kernel
theorem dX4_isWorth_64 : decode cX4_isWorth 64 = .ok (.invokevirtual 117, 3) := by decide +kernel
theorem dX4_isWorth_67 : decode cX4_isWorth 67 = .ok (.istore 9, 2) := by decide +kernel
theorem dX4_isWorth_69 : decode cX4_isWorth 69 = .ok (.iload 9, 2) := by decide +kernel
theorem dX4_isWorth_71 : decode cX4_isWorth 71 = .ok (.iconst 3, 1) := by decide +kernel
theorem dX4_isWorth_72 : decode cX4_isWorth 72 = .ok (.idiv, 1) := by decide +kernel
theorem dX4_isWorth_73 : decode cX4_isWorth 73 = .ok (.istore 10, 2) := by decide +kernel
theorem dX4_isWorth_75 : decode cX4_isWorth 75 = .ok (.iload 9, 2) := by decide +kernel
theorem dX4_isWorth_77 : decode cX4_isWorth 77 = .ok (.iload 10, 2) := by decide +kernel
theorem dX4_isWorth_79 : decode cX4_isWorth 79 = .ok (.iconst 3, 1) := by decide +kernel
theorem dX4_isWorth_80 : decode cX4_isWorth 80 = .ok (.imul, 1) := by decide +kernel
theorem dX4_isWorth_81 : decode cX4_isWorth 81 = .ok (.isub, 1) := by decide +kernel
theorem dX4_isWorth_82 : decode cX4_isWorth 82 = .ok (.istore 11, 2) := by decide +kernel
theorem dX4_isWorth_84 : decode cX4_isWorth 84 = .ok (.aload_n 0, 1) := by decide +kernel
theorem dX4_isWorth_85 : decode cX4_isWorth 85 = .ok (.getfield 25, 3) := by decide +kernel
theorem dX4_isWorth_88 : decode cX4_isWorth 88 = .ok (.iconst 3, 1) := by decide +kernel
theorem dX4_isWorth_89 : decode cX4_isWorth 89 = .ok (.dup2, 1) := by decide +kernel
theorem dX4_isWorth_90 : decode cX4_isWorth 90 = .ok (.iaload, 1) := by decide +kernel
theorem dX4_isWorth_91 : decode cX4_isWorth 91 = .ok (.iload 10, 2) := by decide +kernel
theorem dX4_isWorth_93 : decode cX4_isWorth 93 = .ok (.iadd, 1) := by decide +kernel
theorem dX4_isWorth_94 : decode cX4_isWorth 94 = .ok (.iastore, 1) := by decide +kernel
theorem dX4_isWorth_95 : decode cX4_isWorth 95 = .ok (.aload_n 0, 1) := by decide +kernel
theorem dX4_isWorth_96 : decode cX4_isWorth 96 = .ok (.getfield 25, 3) := by decide +kernel
theorem dX4_isWorth_99 : decode cX4_isWorth 99 = .ok (.iload 11, 2) := by decide +kernel
theorem dX4_isWorth_101 : decode cX4_isWorth 101 = .ok (.dup2, 1) := by decide +kernel
theorem dX4_isWorth_102 : decode cX4_isWorth 102 = .ok (.iaload, 1) := by decide +kernel
theorem dX4_isWorth_103 : decode cX4_isWorth 103 = .ok (.iconst 1, 1) := by decide +kernel
theorem dX4_isWorth_104 : decode cX4_isWorth 104 = .ok (.iadd, 1) := by decide +kernel
theorem dX4_isWorth_105 : decode cX4_isWorth 105 = .ok (.iastore, 1) := by decide +kernel
theorem dX4_isWorth_106 : decode cX4_isWorth 106 = .ok (.aload_n 0, 1) := by decide +kernel
theorem dX4_isWorth_107 : decode cX4_isWorth 107 = .ok (.getfield 32, 3) := by decide +kernel
theorem dX4_isWorth_110 : decode cX4_isWorth 110 = .ok (.iload 8, 2) := by decide +kernel
theorem dX4_isWorth_112 : decode cX4_isWorth 112 = .ok (.invokestatic 120, 3) := by decide +kernel
theorem dX4_isWorth_115 : decode cX4_isWorth 115 = .ok (.ifCond .eq 29, 3) := by decide +kernel
theorem dX4_isWorth_118 : decode cX4_isWorth 118 = .ok (.iload 6, 2) := by decide +kernel
theorem dX4_isWorth_120 : decode cX4_isWorth 120 = .ok (.iload 9, 2) := by decide +kernel
theorem dX4_isWorth_122 : decode cX4_isWorth 122 = .ok (.iadd, 1) := by decide +kernel
theorem dX4_isWorth_123 : decode cX4_isWorth 123 = .ok (.istore 6, 2) := by decide +kernel
theorem dX4_isWorth_125 : decode cX4_isWorth 125 = .ok (.iload 7, 2) := by decide +kernel
theorem dX4_isWorth_127 : decode cX4_isWorth 127 = .ok (.iload 11, 2) := by decide +kernel
theorem dX4_isWorth_129 : decode cX4_isWorth 129 = .ok (.ifCond .ne 8, 3) := by decide +kernel
theorem dX4_isWorth_132 : decode cX4_isWorth 132 = .ok (.iload 10, 2) := by decide +kernel
theorem dX4_isWorth_134 : decode cX4_isWorth 134 = .ok (.goto 7, 3) := by decide +kernel
theorem dX4_isWorth_137 : decode cX4_isWorth 137 = .ok (.iload 10, 2) := by decide +kernel
theorem dX4_isWorth_139 : decode cX4_isWorth 139 = .ok (.iconst 1, 1) := by decide +kernel
theorem dX4_isWorth_140 : decode cX4_isWorth 140 = .ok (.iadd, 1) := by decide +kernel
theorem dX4_isWorth_141 : decode cX4_isWorth 141 = .ok (.iadd, 1) := by decide +kernel
theorem dX4_isWorth_142 : decode cX4_isWorth 142 = .ok (.istore 7, 2) := by decide +kernel
theorem dX4_isWorth_144 : decode cX4_isWorth 144 = .ok (.iinc 8 1, 3) := by decide +kernel
theorem dX4_isWorth_147 : decode cX4_isWorth 147 = .ok (.goto (-97), 3) := by decide +kernel
theorem dX4_isWorth_150 : decode cX4_isWorth 150 = .ok (.aload_n 0, 1) := by decide +kernel
theorem dX4_isWorth_151 : decode cX4_isWorth 151 = .ok (.aload 4, 2) := by decide +kernel
theorem dX4_isWorth_153 : decode cX4_isWorth 153 = .ok (.iload 5, 2) := by decide +kernel
theorem dX4_isWorth_155 : decode cX4_isWorth 155 = .ok (.invokevirtual 124, 3) := by decide +kernel
theorem dX4_isWorth_158 : decode cX4_isWorth 158 = .ok (.istore 8, 2) := by decide +kernel
theorem dX4_isWorth_160 : decode cX4_isWorth 160 = .ok (.iload 7, 2) := by decide +kernel
theorem dX4_isWorth_162 : decode cX4_isWorth 162 = .ok (.iload 5, 2) := by decide +kernel
theorem dX4_isWorth_164 : decode cX4_isWorth 164 = .ok (.if_icmp .gt 25, 3) := by decide +kernel
theorem dX4_isWorth_167 : decode cX4_isWorth 167 = .ok (.iload 6, 2) := by decide +kernel
theorem dX4_isWorth_169 : decode cX4_isWorth 169 = .ok (.iload 8, 2) := by decide +kernel
theorem dX4_isWorth_171 : decode cX4_isWorth 171 = .ok (.if_icmp .gt 18, 3) := by decide +kernel
theorem dX4_isWorth_174 : decode cX4_isWorth 174 = .ok (.iload_n 3, 1) := by decide +kernel
theorem dX4_isWorth_175 : decode cX4_isWorth 175 = .ok (.iload 8, 2) := by decide +kernel
theorem dX4_isWorth_177 : decode cX4_isWorth 177 = .ok (.iadd, 1) := by decide +kernel
theorem dX4_isWorth_178 : decode cX4_isWorth 178 = .ok (.aload_n 0, 1) := by decide +kernel
theorem dX4_isWorth_179 : decode cX4_isWorth 179 = .ok (.getfield 35, 3) := by decide +kernel
theorem dX4_isWorth_182 : decode cX4_isWorth 182 = .ok (.if_icmp .le 7, 3) := by decide +kernel
theorem dX4_isWorth_185 : decode cX4_isWorth 185 = .ok (.iconst 1, 1) := by decide +kernel
theorem dX4_isWorth_186 : decode cX4_isWorth 186 = .ok (.goto 4, 3) := by decide +kernel
theorem dX4_isWorth_189 : decode cX4_isWorth 189 = .ok (.iconst 0, 1) := by decide +kernel
theorem dX4_isWorth_190 : decode cX4_isWorth 190 = .ok (.ireturn, 1) := by decide +kernel
theorem dX4_mostSewable_0 : decode cX4_mostSewable 0 = .ok (.aload_n 0, 1) := by decide +kernel
theorem dX4_mostSewable_1 : decode cX4_mostSewable 1 = .ok (.getfield 25, 3) := by decide +kernel
theorem dX4_mostSewable_4 : decode cX4_mostSewable 4 = .ok (.iconst 3, 1) := by decide +kernel
theorem dX4_mostSewable_5 : decode cX4_mostSewable 5 = .ok (.iaload, 1) := by decide +kernel
theorem dX4_mostSewable_6 : decode cX4_mostSewable 6 = .ok (.istore_n 3, 1) := by decide +kernel
theorem dX4_mostSewable_7 : decode cX4_mostSewable 7 = .ok (.iload_n 3, 1) := by decide +kernel
theorem dX4_mostSewable_8 : decode cX4_mostSewable 8 = .ok (.aload_n 0, 1) := by decide +kernel
theorem dX4_mostSewable_9 : decode cX4_mostSewable 9 = .ok (.getfield 25, 3) := by decide +kernel
theorem dX4_mostSewable_12 : decode cX4_mostSewable 12 = .ok (.iconst 2, 1) := by decide +kernel
theorem dX4_mostSewable_13 : decode cX4_mostSewable 13 = .ok (.iaload, 1) := by decide +kernel
theorem dX4_mostSewable_14 : decode cX4_mostSewable 14 = .ok (.iadd, 1) := by decide +kernel
theorem dX4_mostSewable_15 : decode cX4_mostSewable 15 = .ok (.istore 4, 2) := by decide +kernel
theorem dX4_mostSewable_17 : decode cX4_mostSewable 17 = .ok (.iload 4, 2) := by decide +kernel
theorem dX4_mostSewable_19 : decode cX4_mostSewable 19 = .ok (.aload_n 0, 1) := by decide +kernel
theorem dX4_mostSewable_20 : decode cX4_mostSewable 20 = .ok (.getfield 25, 3) := by decide +kernel
theorem dX4_mostSewable_23 : decode cX4_mostSewable 23 = .ok (.iconst 1, 1) := by decide +kernel
theorem dX4_mostSewable_24 : decode cX4_mostSewable 24 = .ok (.iaload, 1) := by decide +kernel
theorem dX4_mostSewable_25 : decode cX4_mostSewable 25 = .ok (.iadd, 1) := by decide +kernel
theorem dX4_mostSewable_26 : decode cX4_mostSewable 26 = .ok (.istore 5, 2) := by decide +kernel
theorem dX4_mostSewable_28 : decode cX4_mostSewable 28 = .ok (.iconst 0, 1) := by decide +kernel
theorem dX4_mostSewable_29 : decode cX4_mostSewable 29 = .ok (.istore 6, 2) := by decide +kernel
theorem dX4_mostSewable_31 : decode cX4_mostSewable 31 = .ok (.iconst 0, 1) := by decide +kernel
theorem dX4_mostSewable_32 : decode cX4_mostSewable 32 = .ok (.istore 7, 2) := by decide +kernel
theorem dX4_mostSewable_34 : decode cX4_mostSewable 34 = .ok (.iconst 0, 1) := by decide +kernel
theorem dX4_mostSewable_35 : decode cX4_mostSewable 35 = .ok (.istore 8, 2) := by decide +kernel
theorem dX4_mostSewable_37 : decode cX4_mostSewable 37 = .ok (.iconst 1, 1) := by decide +kernel
theorem dX4_mostSewable_38 : decode cX4_mostSewable 38 = .ok (.istore 9, 2) := by decide +kernel
theorem dX4_mostSewable_40 : decode cX4_mostSewable 40 = .ok (.iload 9, 2) := by decide +kernel
theorem dX4_mostSewable_42 : decode cX4_mostSewable 42 = .ok (.iload_n 2, 1) := by decide +kernel
theorem dX4_mostSewable_43 : decode cX4_mostSewable 43 = .ok (.if_icmp .gt 107, 3) := by decide +kernel
theorem dX4_mostSewable_46 : decode cX4_mostSewable 46 = .ok (.iload_n 2, 1) := by decide +kernel
theorem dX4_mostSewable_47 : decode cX4_mostSewable 47 = .ok (.iload 9, 2) := by decide +kernel
theorem dX4_mostSewable_49 : decode cX4_mostSewable 49 = .ok (.isub, 1) := by decide +kernel
theorem dX4_mostSewable_50 : decode cX4_mostSewable 50 = .ok (.istore 10, 2) := by decide +kernel
theorem dX4_mostSewable_52 : decode cX4_mostSewable 52 = .ok (.iload 6, 2) := by decide +kernel
theorem dX4_mostSewable_54 : decode cX4_mostSewable 54 = .ok (.aload_n 1, 1) := by decide +kernel
theorem dX4_mostSewable_55 : decode cX4_mostSewable 55 = .ok (.bipush 8, 2) := by decide +kernel
theorem dX4_mostSewable_57 : decode cX4_mostSewable 57 = .ok (.iaload, 1) := by decide +kernel
theorem dX4_mostSewable_58 : decode cX4_mostSewable 58 = .ok (.iconst 2, 1) := by decide +kernel
theorem dX4_mostSewable_59 : decode cX4_mostSewable 59 = .ok (.iload 10, 2) := by decide +kernel
theorem dX4_mostSewable_61 : decode cX4_mostSewable 61 = .ok (.imul, 1) := by decide +kernel
theorem dX4_mostSewable_62 : decode cX4_mostSewable 62 = .ok (.isub, 1) := by decide +kernel
theorem dX4_mostSewable_63 : decode cX4_mostSewable 63 = .ok (.iconst 0, 1) := by decide +kernel
theorem dX4_mostSewable_64 : decode cX4_mostSewable 64 = .ok (.invokestatic 74, 3) := by decide +kernel
theorem dX4_mostSewable_67 : decode cX4_mostSewable 67 = .ok (.invokestatic 127, 3) := by decide +kernel
theorem dX4_mostSewable_70 : decode cX4_mostSewable 70 = .ok (.iadd, 1) := by decide +kernel
theorem dX4_mostSewable_71 : decode cX4_mostSewable 71 = .ok (.istore 6, 2) := by decide +kernel
theorem dX4_mostSewable_73 : decode cX4_mostSewable 73 = .ok (.iload 7, 2) := by decide +kernel
theorem dX4_mostSewable_75 : decode cX4_mostSewable 75 = .ok (.iload 9, 2) := by decide +kernel
theorem dX4_mostSewable_77 : decode cX4_mostSewable 77 = .ok (.iload_n 3, 1) := by decide +kernel
theorem dX4_mostSewable_78 : decode cX4_mostSewable 78 = .ok (.if_icmp .gt 7, 3) := by decide +kernel
theorem dX4_mostSewable_81 : decode cX4_mostSewable 81 = .ok (.iconst 3, 1) := by decide +kernel
theorem dX4_mostSewable_82 : decode cX4_mostSewable 82 = .ok (.goto 26, 3) := by decide +kernel
theorem dX4_mostSewable_85 : decode cX4_mostSewable 85 = .ok (.iload 9, 2) := by decide +kernel
theorem dX4_mostSewable_87 : decode cX4_mostSewable 87 = .ok (.iload 4, 2) := by decide +kernel
theorem dX4_mostSewable_89 : decode cX4_mostSewable 89 = .ok (.if_icmp .gt 7, 3) := by decide +kernel
theorem dX4_mostSewable_92 : decode cX4_mostSewable 92 = .ok (.iconst 2, 1) := by decide +kernel
theorem dX4_mostSewable_93 : decode cX4_mostSewable 93 = .ok (.goto 15, 3) := by decide +kernel
theorem dX4_mostSewable_96 : decode cX4_mostSewable 96 = .ok (.iload 9, 2) := by decide +kernel
theorem dX4_mostSewable_98 : decode cX4_mostSewable 98 = .ok (.iload 5, 2) := by decide +kernel
theorem dX4_mostSewable_100 : decode cX4_mostSewable 100 = .ok (.if_icmp .gt 7, 3) := by decide +kernel
theorem dX4_mostSewable_103 : decode cX4_mostSewable 103 = .ok (.iconst 1, 1) := by decide +kernel
theorem dX4_mostSewable_104 : decode cX4_mostSewable 104 = .ok (.goto 4, 3) := by decide +kernel
theorem dX4_mostSewable_107 : decode cX4_mostSewable 107 = .ok (.iconst 0, 1) := by decide +kernel
theorem dX4_mostSewable_108 : decode cX4_mostSewable 108 = .ok (.iadd, 1) := by decide +kernel
theorem dX4_mostSewable_109 : decode cX4_mostSewable 109 = .ok (.istore 7, 2) := by decide +kernel
theorem dX4_mostSewable_111 : decode cX4_mostSewable 111 = .ok (.aload_n 1, 1) := by decide +kernel
theorem dX4_mostSewable_112 : decode cX4_mostSewable 112 = .ok (.bipush 7, 2) := by decide +kernel
theorem dX4_mostSewable_114 : decode cX4_mostSewable 114 = .ok (.iaload, 1) := by decide +kernel
theorem dX4_mostSewable_115 : decode cX4_mostSewable 115 = .ok (.aload_n 0, 1) := by decide +kernel
theorem dX4_mostSewable_116 : decode cX4_mostSewable 116 = .ok (.getfield 38, 3) := by decide +kernel
theorem dX4_mostSewable_119 : decode cX4_mostSewable 119 = .ok (.iload 10, 2) := by decide +kernel
theorem dX4_mostSewable_121 : decode cX4_mostSewable 121 = .ok (.imul, 1) := by decide +kernel
theorem dX4_mostSewable_122 : decode cX4_mostSewable 122 = .ok (.iadd, 1) := by decide +kernel
theorem dX4_mostSewable_123 : decode cX4_mostSewable 123 = .ok (.istore 11, 2) := by decide +kernel
theorem dX4_mostSewable_125 : decode cX4_mostSewable 125 = .ok (.iload 8, 2) := by decide +kernel
theorem dX4_mostSewable_127 : decode cX4_mostSewable 127 = .ok (.iload 11, 2) := by decide +kernel
theorem dX4_mostSewable_129 : decode cX4_mostSewable 129 = .ok (.iload 6, 2) := by decide +kernel
theorem dX4_mostSewable_131 : decode cX4_mostSewable 131 = .ok (.iload 7, 2) := by decide +kernel
theorem dX4_mostSewable_133 : decode cX4_mostSewable 133 = .ok (.invokestatic 88, 3) := by decide +kernel
theorem dX4_mostSewable_136 : decode cX4_mostSewable 136 = .ok (.invokestatic 88, 3) := by decide +kernel
theorem dX4_mostSewable_139 : decode cX4_mostSewable 139 = .ok (.invokestatic 74, 3) := by decide +kernel
theorem dX4_mostSewable_142 : decode cX4_mostSewable 142 = .ok (.istore 8, 2) := by decide +kernel
theorem dX4_mostSewable_144 : decode cX4_mostSewable 144 = .ok (.iinc 9 1, 3) := by decide +kernel
theorem dX4_mostSewable_147 : decode cX4_mostSewable 147 = .ok (.goto (-107), 3) := by decide +kernel
theorem dX4_mostSewable_150 : decode cX4_mostSewable 150 = .ok (.iload 8, 2) := by decide +kernel
theorem dX4_mostSewable_152 : decode cX4_mostSewable 152 = .ok (.ireturn, 1) := by decide +kernel
theorem dX4_bareRows_0 : decode cX4_bareRows 0 = .ok (.aload_n 0, 1) := by decide +kernel
theorem dX4_bareRows_1 : decode cX4_bareRows 1 = .ok (.aload_n 1, 1) := by decide +kernel
theorem dX4_bareRows_2 : decode cX4_bareRows 2 = .ok (.iload_n 2, 1) := by decide +kernel
theorem dX4_bareRows_3 : decode cX4_bareRows 3 = .ok (.invokevirtual 51, 3) := by decide +kernel
theorem dX4_bareRows_6 : decode cX4_bareRows 6 = .ok (.aload_n 0, 1) := by decide +kernel
theorem dX4_bareRows_7 : decode cX4_bareRows 7 = .ok (.iconst 0, 1) := by decide +kernel
theorem dX4_bareRows_8 : decode cX4_bareRows 8 = .ok (.putfield 45, 3) := by decide +kernel
theorem dX4_bareRows_11 : decode cX4_bareRows 11 = .ok (.aload_n 0, 1) := by decide +kernel
theorem dX4_bareRows_12 : decode cX4_bareRows 12 = .ok (.iconst 0, 1) := by decide +kernel
theorem dX4_bareRows_13 : decode cX4_bareRows 13 = .ok (.putfield 48, 3) := by decide +kernel
theorem dX4_bareRows_16 : decode cX4_bareRows 16 = .ok (.aload_n 0, 1) := by decide +kernel
theorem dX4_bareRows_17 : decode cX4_bareRows 17 = .ok (.aload_n 1, 1) := by decide +kernel
theorem dX4_bareRows_18 : decode cX4_bareRows 18 = .ok (.iconst 0, 1) := by decide +kernel
theorem dX4_bareRows_19 : decode cX4_bareRows 19 = .ok (.iconst 0, 1) := by decide +kernel
theorem dX4_bareRows_20 : decode cX4_bareRows 20 = .ok (.invokevirtual 130, 3) := by decide +kernel
theorem dX4_bareRows_23 : decode cX4_bareRows 23 = .ok (.aload_n 0, 1) := by decide +kernel
theorem dX4_bareRows_24 : decode cX4_bareRows 24 = .ok (.getfield 45, 3) := by decide +kernel
theorem dX4_bareRows_27 : decode cX4_bareRows 27 = .ok (.ireturn, 1) := by decide +kernel
theorem dX4_firstBare_0 : decode cX4_firstBare 0 = .ok (.aload_n 0, 1) := by decide +kernel
theorem dX4_firstBare_1 : decode cX4_firstBare 1 = .ok (.getfield 48, 3) := by decide +kernel
theorem dX4_firstBare_4 : decode cX4_firstBare 4 = .ok (.ireturn, 1) := by decide +kernel
theorem dX4_pickFrom_0 : decode cX4_pickFrom 0 = .ok (.iload_n 2, 1) := by decide +kernel
theorem dX4_pickFrom_1 : decode cX4_pickFrom 1 = .ok (.aload_n 0, 1) := by decide +kernel
theorem dX4_pickFrom_2 : decode cX4_pickFrom 2 = .ok (.getfield 28, 3) := by decide +kernel
theorem dX4_pickFrom_5 : decode cX4_pickFrom 5 = .ok (.if_icmp .lt 49, 3) := by decide +kernel
theorem dX4_pickFrom_8 : decode cX4_pickFrom 8 = .ok (.aload_n 1, 1) := by decide +kernel
theorem dX4_pickFrom_9 : decode cX4_pickFrom 9 = .ok (.aload_n 0, 1) := by decide +kernel
theorem dX4_pickFrom_10 : decode cX4_pickFrom 10 = .ok (.getfield 13, 3) := by decide +kernel
theorem dX4_pickFrom_13 : decode cX4_pickFrom 13 = .ok (.aload_n 0, 1) := by decide +kernel
theorem dX4_pickFrom_14 : decode cX4_pickFrom 14 = .ok (.getfield 28, 3) := by decide +kernel
theorem dX4_pickFrom_17 : decode cX4_pickFrom 17 = .ok (.aaload, 1) := by decide +kernel
theorem dX4_pickFrom_18 : decode cX4_pickFrom 18 = .ok (.invokevirtual 133, 3) := by decide +kernel
theorem dX4_pickFrom_21 : decode cX4_pickFrom 21 = .ok (.ifCond .eq 32, 3) := by decide +kernel
theorem dX4_pickFrom_24 : decode cX4_pickFrom 24 = .ok (.aload_n 0, 1) := by decide +kernel
theorem dX4_pickFrom_25 : decode cX4_pickFrom 25 = .ok (.aload_n 0, 1) := by decide +kernel
theorem dX4_pickFrom_26 : decode cX4_pickFrom 26 = .ok (.getfield 45, 3) := by decide +kernel
theorem dX4_pickFrom_29 : decode cX4_pickFrom 29 = .ok (.ifCond .ne 7, 3) := by decide +kernel
theorem dX4_pickFrom_32 : decode cX4_pickFrom 32 = .ok (.iload_n 3, 1) := by decide +kernel
theorem dX4_pickFrom_33 : decode cX4_pickFrom 33 = .ok (.goto 7, 3) := by decide +kernel
theorem dX4_pickFrom_36 : decode cX4_pickFrom 36 = .ok (.aload_n 0, 1) := by decide +kernel
theorem dX4_pickFrom_37 : decode cX4_pickFrom 37 = .ok (.getfield 48, 3) := by decide +kernel
theorem dX4_pickFrom_40 : decode cX4_pickFrom 40 = .ok (.putfield 48, 3) := by decide +kernel
theorem dX4_pickFrom_43 : decode cX4_pickFrom 43 = .ok (.aload_n 0, 1) := by decide +kernel
theorem dX4_pickFrom_44 : decode cX4_pickFrom 44 = .ok (.dup, 1) := by decide +kernel
theorem dX4_pickFrom_45 : decode cX4_pickFrom 45 = .ok (.getfield 45, 3) := by decide +kernel
theorem dX4_pickFrom_48 : decode cX4_pickFrom 48 = .ok (.iconst 1, 1) := by decide +kernel
theorem dX4_pickFrom_49 : decode cX4_pickFrom 49 = .ok (.iadd, 1) := by decide +kernel
theorem dX4_pickFrom_50 : decode cX4_pickFrom 50 = .ok (.putfield 45, 3) := by decide +kernel
theorem dX4_pickFrom_53 : decode cX4_pickFrom 53 = .ok (.return_, 1) := by decide +kernel
theorem dX4_pickFrom_54 : decode cX4_pickFrom 54 = .ok (.iconst 0, 1) := by decide +kernel
theorem dX4_pickFrom_55 : decode cX4_pickFrom 55 = .ok (.istore 4, 2) := by decide +kernel
theorem dX4_pickFrom_57 : decode cX4_pickFrom 57 = .ok (.iload 4, 2) := by decide +kernel
theorem dX4_pickFrom_59 : decode cX4_pickFrom 59 = .ok (.bipush 7, 2) := by decide +kernel
theorem dX4_pickFrom_61 : decode cX4_pickFrom 61 = .ok (.if_icmp .gt 76, 3) := by decide +kernel
theorem dX4_pickFrom_64 : decode cX4_pickFrom 64 = .ok (.aload_n 1, 1) := by decide +kernel
theorem dX4_pickFrom_65 : decode cX4_pickFrom 65 = .ok (.iload 4, 2) := by decide +kernel
theorem dX4_pickFrom_67 : decode cX4_pickFrom 67 = .ok (.invokevirtual 137, 3) := by decide +kernel
theorem dX4_pickFrom_70 : decode cX4_pickFrom 70 = .ok (.ifCond .ne 10, 3) := by decide +kernel
theorem dX4_pickFrom_73 : decode cX4_pickFrom 73 = .ok (.iload 4, 2) := by decide +kernel
theorem dX4_pickFrom_75 : decode cX4_pickFrom 75 = .ok (.bipush 7, 2) := by decide +kernel
theorem dX4_pickFrom_77 : decode cX4_pickFrom 77 = .ok (.if_icmp .ne 54, 3) := by decide +kernel
theorem dX4_pickFrom_80 : decode cX4_pickFrom 80 = .ok (.aload_n 0, 1) := by decide +kernel
theorem dX4_pickFrom_81 : decode cX4_pickFrom 81 = .ok (.getfield 13, 3) := by decide +kernel
theorem dX4_pickFrom_84 : decode cX4_pickFrom 84 = .ok (.iload_n 2, 1) := by decide +kernel
theorem dX4_pickFrom_85 : decode cX4_pickFrom 85 = .ok (.aaload, 1) := by decide +kernel
theorem dX4_pickFrom_86 : decode cX4_pickFrom 86 = .ok (.iconst 0, 1) := by decide +kernel
theorem dX4_pickFrom_87 : decode cX4_pickFrom 87 = .ok (.aload_n 0, 1) := by decide +kernel
theorem dX4_pickFrom_88 : decode cX4_pickFrom 88 = .ok (.getfield 13, 3) := by decide +kernel
theorem dX4_pickFrom_91 : decode cX4_pickFrom 91 = .ok (.iload_n 2, 1) := by decide +kernel
theorem dX4_pickFrom_92 : decode cX4_pickFrom 92 = .ok (.iconst 1, 1) := by decide +kernel
theorem dX4_pickFrom_93 : decode cX4_pickFrom 93 = .ok (.iadd, 1) := by decide +kernel
theorem dX4_pickFrom_94 : decode cX4_pickFrom 94 = .ok (.aaload, 1) := by decide +kernel
theorem dX4_pickFrom_95 : decode cX4_pickFrom 95 = .ok (.iconst 0, 1) := by decide +kernel
theorem dX4_pickFrom_96 : decode cX4_pickFrom 96 = .ok (.bipush 10, 2) := by decide +kernel
theorem dX4_pickFrom_98 : decode cX4_pickFrom 98 = .ok (.invokestatic 91, 3) := by decide +kernel
theorem dX4_pickFrom_101 : decode cX4_pickFrom 101 = .ok (.aload_n 1, 1) := by decide +kernel
theorem dX4_pickFrom_102 : decode cX4_pickFrom 102 = .ok (.aload_n 0, 1) := by decide +kernel
theorem dX4_pickFrom_103 : decode cX4_pickFrom 103 = .ok (.getfield 13, 3) := by decide +kernel
theorem dX4_pickFrom_106 : decode cX4_pickFrom 106 = .ok (.iload_n 2, 1) := by decide +kernel
theorem dX4_pickFrom_107 : decode cX4_pickFrom 107 = .ok (.iconst 1, 1) := by decide +kernel
theorem dX4_pickFrom_108 : decode cX4_pickFrom 108 = .ok (.iadd, 1) := by decide +kernel
theorem dX4_pickFrom_109 : decode cX4_pickFrom 109 = .ok (.aaload, 1) := by decide +kernel
theorem dX4_pickFrom_110 : decode cX4_pickFrom 110 = .ok (.iload 4, 2) := by decide +kernel
theorem dX4_pickFrom_112 : decode cX4_pickFrom 112 = .ok (.invokevirtual 84, 3) := by decide +kernel
theorem dX4_pickFrom_115 : decode cX4_pickFrom 115 = .ok (.pop, 1) := by decide +kernel
theorem dX4_pickFrom_116 : decode cX4_pickFrom 116 = .ok (.aload_n 0, 1) := by decide +kernel
theorem dX4_pickFrom_117 : decode cX4_pickFrom 117 = .ok (.aload_n 1, 1) := by decide +kernel
theorem dX4_pickFrom_118 : decode cX4_pickFrom 118 = .ok (.iload_n 2, 1) := by decide +kernel
theorem dX4_pickFrom_119 : decode cX4_pickFrom 119 = .ok (.iconst 1, 1) := by decide +kernel
theorem dX4_pickFrom_120 : decode cX4_pickFrom 120 = .ok (.iadd, 1) := by decide +kernel
theorem dX4_pickFrom_121 : decode cX4_pickFrom 121 = .ok (.iload_n 3, 1) := by decide +kernel
theorem dX4_pickFrom_122 : decode cX4_pickFrom 122 = .ok (.bipush 8, 2) := by decide +kernel
theorem dX4_pickFrom_124 : decode cX4_pickFrom 124 = .ok (.imul, 1) := by decide +kernel
theorem dX4_pickFrom_125 : decode cX4_pickFrom 125 = .ok (.iload 4, 2) := by decide +kernel
theorem dX4_pickFrom_127 : decode cX4_pickFrom 127 = .ok (.iadd, 1) := by decide +kernel
theorem dX4_pickFrom_128 : decode cX4_pickFrom 128 = .ok (.invokevirtual 130, 3) := by decide +kernel
theorem dX4_pickFrom_131 : decode cX4_pickFrom 131 = .ok (.iinc 4 1, 3) := by decide +kernel
theorem dX4_pickFrom_134 : decode cX4_pickFrom 134 = .ok (.goto (-77), 3) := by decide +kernel
theorem dX4_pickFrom_137 : decode cX4_pickFrom 137 = .ok (.return_, 1) := by decide +kernel
