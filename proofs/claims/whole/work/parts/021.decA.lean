theorem dX0_init_0 : decode cX0_init 0 = .ok (.aload_n 0, 1) := by decide +kernel
theorem dX0_init_1 : decode cX0_init 1 = .ok (.invokespecial 3, 3) := by decide +kernel
theorem dX0_init_4 : decode cX0_init 4 = .ok (.aload_n 0, 1) := by decide +kernel
theorem dX0_init_5 : decode cX0_init 5 = .ok (.bipush 60, 2) := by decide +kernel
theorem dX0_init_7 : decode cX0_init 7 = .ok (.newarray .int, 2) := by decide +kernel
theorem dX0_init_9 : decode cX0_init 9 = .ok (.putfield 11, 3) := by decide +kernel
theorem dX0_init_12 : decode cX0_init 12 = .ok (.aload_n 0, 1) := by decide +kernel
theorem dX0_init_13 : decode cX0_init 13 = .ok (.iconst 0, 1) := by decide +kernel
theorem dX0_init_14 : decode cX0_init 14 = .ok (.putfield 15, 3) := by decide +kernel
theorem dX0_init_17 : decode cX0_init 17 = .ok (.aload_n 0, 1) := by decide +kernel
theorem dX0_init_18 : decode cX0_init 18 = .ok (.bipush 32, 2) := by decide +kernel
theorem dX0_init_20 : decode cX0_init 20 = .ok (.newarray .int, 2) := by decide +kernel
theorem dX0_init_22 : decode cX0_init 22 = .ok (.putfield 19, 3) := by decide +kernel
theorem dX0_init_25 : decode cX0_init 25 = .ok (.aload_n 0, 1) := by decide +kernel
theorem dX0_init_26 : decode cX0_init 26 = .ok (.iconst 4, 1) := by decide +kernel
theorem dX0_init_27 : decode cX0_init 27 = .ok (.newarray .int, 2) := by decide +kernel
theorem dX0_init_29 : decode cX0_init 29 = .ok (.putfield 22, 3) := by decide +kernel
theorem dX0_init_32 : decode cX0_init 32 = .ok (.aload_n 0, 1) := by decide +kernel
theorem dX0_init_33 : decode cX0_init 33 = .ok (.iconst 4, 1) := by decide +kernel
theorem dX0_init_34 : decode cX0_init 34 = .ok (.newarray .int, 2) := by decide +kernel
theorem dX0_init_36 : decode cX0_init 36 = .ok (.putfield 25, 3) := by decide +kernel
theorem dX0_init_39 : decode cX0_init 39 = .ok (.aload_n 0, 1) := by decide +kernel
theorem dX0_init_40 : decode cX0_init 40 = .ok (.iconst 3, 1) := by decide +kernel
theorem dX0_init_41 : decode cX0_init 41 = .ok (.newarray .int, 2) := by decide +kernel
theorem dX0_init_43 : decode cX0_init 43 = .ok (.putfield 28, 3) := by decide +kernel
theorem dX0_init_46 : decode cX0_init 46 = .ok (.return_, 1) := by decide +kernel
theorem dX0_isLaw_0 : decode cX0_isLaw 0 = .ok (.iload_n 0, 1) := by decide +kernel
theorem dX0_isLaw_1 : decode cX0_isLaw 1 = .ok (.ifCond .lt 12, 3) := by decide +kernel
theorem dX0_isLaw_4 : decode cX0_isLaw 4 = .ok (.iload_n 0, 1) := by decide +kernel
theorem dX0_isLaw_5 : decode cX0_isLaw 5 = .ok (.iconst 4, 1) := by decide +kernel
theorem dX0_isLaw_6 : decode cX0_isLaw 6 = .ok (.if_icmp .ge 7, 3) := by decide +kernel
theorem dX0_isLaw_9 : decode cX0_isLaw 9 = .ok (.iconst 1, 1) := by decide +kernel
theorem dX0_isLaw_10 : decode cX0_isLaw 10 = .ok (.goto 4, 3) := by decide +kernel
theorem dX0_isLaw_13 : decode cX0_isLaw 13 = .ok (.iconst 0, 1) := by decide +kernel
theorem dX0_isLaw_14 : decode cX0_isLaw 14 = .ok (.ireturn, 1) := by decide +kernel
theorem dX0_isLetter_0 : decode cX0_isLetter 0 = .ok (.iload_n 0, 1) := by decide +kernel
theorem dX0_isLetter_1 : decode cX0_isLetter 1 = .ok (.ifCond .lt 13, 3) := by decide +kernel
theorem dX0_isLetter_4 : decode cX0_isLetter 4 = .ok (.iload_n 0, 1) := by decide +kernel
theorem dX0_isLetter_5 : decode cX0_isLetter 5 = .ok (.bipush 26, 2) := by decide +kernel
theorem dX0_isLetter_7 : decode cX0_isLetter 7 = .ok (.if_icmp .ge 7, 3) := by decide +kernel
theorem dX0_isLetter_10 : decode cX0_isLetter 10 = .ok (.iconst 1, 1) := by decide +kernel
theorem dX0_isLetter_11 : decode cX0_isLetter 11 = .ok (.goto 4, 3) := by decide +kernel
theorem dX0_isLetter_14 : decode cX0_isLetter 14 = .ok (.iconst 0, 1) := by decide +kernel
theorem dX0_isLetter_15 : decode cX0_isLetter 15 = .ok (.ireturn, 1) := by decide +kernel
theorem dX0_empty_0 : decode cX0_empty 0 = .ok (.aload_n 0, 1) := by decide +kernel
theorem dX0_empty_1 : decode cX0_empty 1 = .ok (.iconst 0, 1) := by decide +kernel
theorem dX0_empty_2 : decode cX0_empty 2 = .ok (.putfield 15, 3) := by decide +kernel
theorem dX0_empty_5 : decode cX0_empty 5 = .ok (.aload_n 0, 1) := by decide +kernel
theorem dX0_empty_6 : decode cX0_empty 6 = .ok (.getfield 22, 3) := by decide +kernel
theorem dX0_empty_9 : decode cX0_empty 9 = .ok (.iconst 0, 1) := by decide +kernel
theorem dX0_empty_10 : decode cX0_empty 10 = .ok (.invokestatic 31, 3) := by decide +kernel
theorem dX0_empty_13 : decode cX0_empty 13 = .ok (.return_, 1) := by decide +kernel
theorem dX0_become_0 : decode cX0_become 0 = .ok (.aload_n 1, 1) := by decide +kernel
theorem dX0_become_1 : decode cX0_become 1 = .ok (.getfield 11, 3) := by decide +kernel
theorem dX0_become_4 : decode cX0_become 4 = .ok (.iconst 0, 1) := by decide +kernel
theorem dX0_become_5 : decode cX0_become 5 = .ok (.aload_n 0, 1) := by decide +kernel
theorem dX0_become_6 : decode cX0_become 6 = .ok (.getfield 11, 3) := by decide +kernel
theorem dX0_become_9 : decode cX0_become 9 = .ok (.iconst 0, 1) := by decide +kernel
theorem dX0_become_10 : decode cX0_become 10 = .ok (.bipush 60, 2) := by decide +kernel
theorem dX0_become_12 : decode cX0_become 12 = .ok (.invokestatic 37, 3) := by decide +kernel
theorem dX0_become_15 : decode cX0_become 15 = .ok (.aload_n 0, 1) := by decide +kernel
theorem dX0_become_16 : decode cX0_become 16 = .ok (.aload_n 1, 1) := by decide +kernel
theorem dX0_become_17 : decode cX0_become 17 = .ok (.getfield 15, 3) := by decide +kernel
theorem dX0_become_20 : decode cX0_become 20 = .ok (.putfield 15, 3) := by decide +kernel
theorem dX0_become_23 : decode cX0_become 23 = .ok (.aload_n 1, 1) := by decide +kernel
theorem dX0_become_24 : decode cX0_become 24 = .ok (.getfield 19, 3) := by decide +kernel
theorem dX0_become_27 : decode cX0_become 27 = .ok (.iconst 0, 1) := by decide +kernel
theorem dX0_become_28 : decode cX0_become 28 = .ok (.aload_n 0, 1) := by decide +kernel
theorem dX0_become_29 : decode cX0_become 29 = .ok (.getfield 19, 3) := by decide +kernel
theorem dX0_become_32 : decode cX0_become 32 = .ok (.iconst 0, 1) := by decide +kernel
theorem dX0_become_33 : decode cX0_become 33 = .ok (.bipush 32, 2) := by decide +kernel
theorem dX0_become_35 : decode cX0_become 35 = .ok (.invokestatic 37, 3) := by decide +kernel
theorem dX0_become_38 : decode cX0_become 38 = .ok (.aload_n 1, 1) := by decide +kernel
theorem dX0_become_39 : decode cX0_become 39 = .ok (.getfield 22, 3) := by decide +kernel
theorem dX0_become_42 : decode cX0_become 42 = .ok (.iconst 0, 1) := by decide +kernel
theorem dX0_become_43 : decode cX0_become 43 = .ok (.aload_n 0, 1) := by decide +kernel
theorem dX0_become_44 : decode cX0_become 44 = .ok (.getfield 22, 3) := by decide +kernel
theorem dX0_become_47 : decode cX0_become 47 = .ok (.iconst 0, 1) := by decide +kernel
theorem dX0_become_48 : decode cX0_become 48 = .ok (.iconst 4, 1) := by decide +kernel
theorem dX0_become_49 : decode cX0_become 49 = .ok (.invokestatic 37, 3) := by decide +kernel
theorem dX0_become_52 : decode cX0_become 52 = .ok (.return_, 1) := by decide +kernel
theorem dX0_addSign_0 : decode cX0_addSign 0 = .ok (.iload_n 1, 1) := by decide +kernel
theorem dX0_addSign_1 : decode cX0_addSign 1 = .ok (.invokestatic 43, 3) := by decide +kernel
theorem dX0_addSign_4 : decode cX0_addSign 4 = .ok (.ifCond .ne 6, 3) := by decide +kernel
theorem dX0_addSign_7 : decode cX0_addSign 7 = .ok (.bipush (-2), 2) := by decide +kernel
theorem dX0_addSign_9 : decode cX0_addSign 9 = .ok (.ireturn, 1) := by decide +kernel
theorem dX0_addSign_10 : decode cX0_addSign 10 = .ok (.aload_n 0, 1) := by decide +kernel
theorem dX0_addSign_11 : decode cX0_addSign 11 = .ok (.getfield 15, 3) := by decide +kernel
theorem dX0_addSign_14 : decode cX0_addSign 14 = .ok (.bipush 60, 2) := by decide +kernel
theorem dX0_addSign_16 : decode cX0_addSign 16 = .ok (.if_icmp .lt 6, 3) := by decide +kernel
theorem dX0_addSign_19 : decode cX0_addSign 19 = .ok (.bipush (-4), 2) := by decide +kernel
theorem dX0_addSign_21 : decode cX0_addSign 21 = .ok (.ireturn, 1) := by decide +kernel
theorem dX0_addSign_22 : decode cX0_addSign 22 = .ok (.aload_n 0, 1) := by decide +kernel
theorem dX0_addSign_23 : decode cX0_addSign 23 = .ok (.getfield 11, 3) := by decide +kernel
theorem dX0_addSign_26 : decode cX0_addSign 26 = .ok (.aload_n 0, 1) := by decide +kernel
theorem dX0_addSign_27 : decode cX0_addSign 27 = .ok (.getfield 15, 3) := by decide +kernel
theorem dX0_addSign_30 : decode cX0_addSign 30 = .ok (.iload_n 1, 1) := by decide +kernel
theorem dX0_addSign_31 : decode cX0_addSign 31 = .ok (.iastore, 1) := by decide +kernel
theorem dX0_addSign_32 : decode cX0_addSign 32 = .ok (.aload_n 0, 1) := by decide +kernel
theorem dX0_addSign_33 : decode cX0_addSign 33 = .ok (.dup, 1) := by decide +kernel
theorem dX0_addSign_34 : decode cX0_addSign 34 = .ok (.getfield 15, 3) := by decide +kernel
theorem dX0_addSign_37 : decode cX0_addSign 37 = .ok (.iconst 1, 1) := by decide +kernel
theorem dX0_addSign_38 : decode cX0_addSign 38 = .ok (.iadd, 1) := by decide +kernel
theorem dX0_addSign_39 : decode cX0_addSign 39 = .ok (.putfield 15, 3) := by decide +kernel
theorem dX0_addSign_42 : decode cX0_addSign 42 = .ok (.aload_n 0, 1) := by decide +kernel
theorem dX0_addSign_43 : decode cX0_addSign 43 = .ok (.getfield 15, 3) := by decide +kernel
theorem dX0_addSign_46 : decode cX0_addSign 46 = .ok (.ireturn, 1) := by decide +kernel
theorem dX0_forgetSigns_0 : decode cX0_forgetSigns 0 = .ok (.aload_n 0, 1) := by decide +kernel
theorem dX0_forgetSigns_1 : decode cX0_forgetSigns 1 = .ok (.getfield 15, 3) := by decide +kernel
theorem dX0_forgetSigns_4 : decode cX0_forgetSigns 4 = .ok (.istore_n 1, 1) := by decide +kernel
theorem dX0_forgetSigns_5 : decode cX0_forgetSigns 5 = .ok (.aload_n 0, 1) := by decide +kernel
theorem dX0_forgetSigns_6 : decode cX0_forgetSigns 6 = .ok (.iconst 0, 1) := by decide +kernel
theorem dX0_forgetSigns_7 : decode cX0_forgetSigns 7 = .ok (.putfield 15, 3) := by decide +kernel
theorem dX0_forgetSigns_10 : decode cX0_forgetSigns 10 = .ok (.iload_n 1, 1) := by decide +kernel
theorem dX0_forgetSigns_11 : decode cX0_forgetSigns 11 = .ok (.ireturn, 1) := by decide +kernel
theorem dX0_addLawSign_0 : decode cX0_addLawSign 0 = .ok (.iload_n 1, 1) := by decide +kernel
theorem dX0_addLawSign_1 : decode cX0_addLawSign 1 = .ok (.invokestatic 47, 3) := by decide +kernel
theorem dX0_addLawSign_4 : decode cX0_addLawSign 4 = .ok (.ifCond .eq 13, 3) := by decide +kernel
theorem dX0_addLawSign_7 : decode cX0_addLawSign 7 = .ok (.iload_n 2, 1) := by decide +kernel
theorem dX0_addLawSign_8 : decode cX0_addLawSign 8 = .ok (.ifCond .lt 9, 3) := by decide +kernel
theorem dX0_addLawSign_11 : decode cX0_addLawSign 11 = .ok (.iload_n 2, 1) := by decide +kernel
theorem dX0_addLawSign_12 : decode cX0_addLawSign 12 = .ok (.bipush 27, 2) := by decide +kernel
theorem dX0_addLawSign_14 : decode cX0_addLawSign 14 = .ok (.if_icmp .le 6, 3) := by decide +kernel
theorem dX0_addLawSign_17 : decode cX0_addLawSign 17 = .ok (.bipush (-2), 2) := by decide +kernel
theorem dX0_addLawSign_19 : decode cX0_addLawSign 19 = .ok (.ireturn, 1) := by decide +kernel
theorem dX0_addLawSign_20 : decode cX0_addLawSign 20 = .ok (.aload_n 0, 1) := by decide +kernel
theorem dX0_addLawSign_21 : decode cX0_addLawSign 21 = .ok (.getfield 22, 3) := by decide +kernel
theorem dX0_addLawSign_24 : decode cX0_addLawSign 24 = .ok (.iload_n 1, 1) := by decide +kernel
theorem dX0_addLawSign_25 : decode cX0_addLawSign 25 = .ok (.iaload, 1) := by decide +kernel
theorem dX0_addLawSign_26 : decode cX0_addLawSign 26 = .ok (.bipush 8, 2) := by decide +kernel
theorem dX0_addLawSign_28 : decode cX0_addLawSign 28 = .ok (.if_icmp .lt 6, 3) := by decide +kernel
theorem dX0_addLawSign_31 : decode cX0_addLawSign 31 = .ok (.bipush (-4), 2) := by decide +kernel
theorem dX0_addLawSign_33 : decode cX0_addLawSign 33 = .ok (.ireturn, 1) := by decide +kernel
theorem dX0_addLawSign_34 : decode cX0_addLawSign 34 = .ok (.aload_n 0, 1) := by decide +kernel
theorem dX0_addLawSign_35 : decode cX0_addLawSign 35 = .ok (.getfield 19, 3) := by decide +kernel
theorem dX0_addLawSign_38 : decode cX0_addLawSign 38 = .ok (.iload_n 1, 1) := by decide +kernel
theorem dX0_addLawSign_39 : decode cX0_addLawSign 39 = .ok (.bipush 8, 2) := by decide +kernel
theorem dX0_addLawSign_41 : decode cX0_addLawSign 41 = .ok (.imul, 1) := by decide +kernel
theorem dX0_addLawSign_42 : decode cX0_addLawSign 42 = .ok (.aload_n 0, 1) := by decide +kernel
theorem dX0_addLawSign_43 : decode cX0_addLawSign 43 = .ok (.getfield 22, 3) := by decide +kernel
theorem dX0_addLawSign_46 : decode cX0_addLawSign 46 = .ok (.iload_n 1, 1) := by decide +kernel
theorem dX0_addLawSign_47 : decode cX0_addLawSign 47 = .ok (.iaload, 1) := by decide +kernel
theorem dX0_addLawSign_48 : decode cX0_addLawSign 48 = .ok (.iadd, 1) := by decide +kernel
theorem dX0_addLawSign_49 : decode cX0_addLawSign 49 = .ok (.iload_n 2, 1) := by decide +kernel
theorem dX0_addLawSign_50 : decode cX0_addLawSign 50 = .ok (.iastore, 1) := by decide +kernel
theorem dX0_addLawSign_51 : decode cX0_addLawSign 51 = .ok (.aload_n 0, 1) := by decide +kernel
theorem dX0_addLawSign_52 : decode cX0_addLawSign 52 = .ok (.getfield 22, 3) := by decide +kernel
theorem dX0_addLawSign_55 : decode cX0_addLawSign 55 = .ok (.iload_n 1, 1) := by decide +kernel
theorem dX0_addLawSign_56 : decode cX0_addLawSign 56 = .ok (.dup2, 1) := by decide +kernel
theorem dX0_addLawSign_57 : decode cX0_addLawSign 57 = .ok (.iaload, 1) := by decide +kernel
theorem dX0_addLawSign_58 : decode cX0_addLawSign 58 = .ok (.iconst 1, 1) := by decide +kernel
theorem dX0_addLawSign_59 : decode cX0_addLawSign 59 = .ok (.iadd, 1) := by decide +kernel
theorem dX0_addLawSign_60 : decode cX0_addLawSign 60 = .ok (.iastore, 1) := by decide +kernel
theorem dX0_addLawSign_61 : decode cX0_addLawSign 61 = .ok (.aload_n 0, 1) := by decide +kernel
theorem dX0_addLawSign_62 : decode cX0_addLawSign 62 = .ok (.getfield 22, 3) := by decide +kernel
theorem dX0_addLawSign_65 : decode cX0_addLawSign 65 = .ok (.iload_n 1, 1) := by decide +kernel
theorem dX0_addLawSign_66 : decode cX0_addLawSign 66 = .ok (.iaload, 1) := by decide +kernel
theorem dX0_addLawSign_67 : decode cX0_addLawSign 67 = .ok (.ireturn, 1) := by decide +kernel
theorem dX0_forgetLaw_0 : decode cX0_forgetLaw 0 = .ok (.iload_n 1, 1) := by decide +kernel
theorem dX0_forgetLaw_1 : decode cX0_forgetLaw 1 = .ok (.invokestatic 47, 3) := by decide +kernel
theorem dX0_forgetLaw_4 : decode cX0_forgetLaw 4 = .ok (.ifCond .ne 6, 3) := by decide +kernel
theorem dX0_forgetLaw_7 : decode cX0_forgetLaw 7 = .ok (.bipush (-2), 2) := by decide +kernel
theorem dX0_forgetLaw_9 : decode cX0_forgetLaw 9 = .ok (.ireturn, 1) := by decide +kernel
theorem dX0_forgetLaw_10 : decode cX0_forgetLaw 10 = .ok (.aload_n 0, 1) := by decide +kernel
theorem dX0_forgetLaw_11 : decode cX0_forgetLaw 11 = .ok (.getfield 22, 3) := by decide +kernel
theorem dX0_forgetLaw_14 : decode cX0_forgetLaw 14 = .ok (.iload_n 1, 1) := by decide +kernel
theorem dX0_forgetLaw_15 : decode cX0_forgetLaw 15 = .ok (.iaload, 1) := by decide +kernel
theorem dX0_forgetLaw_16 : decode cX0_forgetLaw 16 = .ok (.istore_n 2, 1) := by decide +kernel
theorem dX0_forgetLaw_17 : decode cX0_forgetLaw 17 = .ok (.aload_n 0, 1) := by decide +kernel
theorem dX0_forgetLaw_18 : decode cX0_forgetLaw 18 = .ok (.getfield 22, 3) := by decide +kernel
theorem dX0_forgetLaw_21 : decode cX0_forgetLaw 21 = .ok (.iload_n 1, 1) := by decide +kernel
theorem dX0_forgetLaw_22 : decode cX0_forgetLaw 22 = .ok (.iconst 0, 1) := by decide +kernel
theorem dX0_forgetLaw_23 : decode cX0_forgetLaw 23 = .ok (.iastore, 1) := by decide +kernel
theorem dX0_forgetLaw_24 : decode cX0_forgetLaw 24 = .ok (.iload_n 2, 1) := by decide +kernel
theorem dX0_forgetLaw_25 : decode cX0_forgetLaw 25 = .ok (.ireturn, 1) := by decide +kernel
theorem dX0_firstWord_0 : decode cX0_firstWord 0 = .ok (.iconst 0, 1) := by decide +kernel
theorem dX0_firstWord_1 : decode cX0_firstWord 1 = .ok (.istore_n 2, 1) := by decide +kernel
theorem dX0_firstWord_2 : decode cX0_firstWord 2 = .ok (.iconst 0, 1) := by decide +kernel
theorem dX0_firstWord_3 : decode cX0_firstWord 3 = .ok (.istore_n 3, 1) := by decide +kernel
theorem dX0_firstWord_4 : decode cX0_firstWord 4 = .ok (.iload_n 3, 1) := by decide +kernel
theorem dX0_firstWord_5 : decode cX0_firstWord 5 = .ok (.aload_n 0, 1) := by decide +kernel
theorem dX0_firstWord_6 : decode cX0_firstWord 6 = .ok (.getfield 15, 3) := by decide +kernel
theorem dX0_firstWord_9 : decode cX0_firstWord 9 = .ok (.if_icmp .ge 33, 3) := by decide +kernel
theorem dX0_firstWord_12 : decode cX0_firstWord 12 = .ok (.aload_n 0, 1) := by decide +kernel
theorem dX0_firstWord_13 : decode cX0_firstWord 13 = .ok (.iload_n 1, 1) := by decide +kernel
theorem dX0_firstWord_14 : decode cX0_firstWord 14 = .ok (.iload_n 2, 1) := by decide +kernel
theorem dX0_firstWord_15 : decode cX0_firstWord 15 = .ok (.aload_n 0, 1) := by decide +kernel
theorem dX0_firstWord_16 : decode cX0_firstWord 16 = .ok (.getfield 11, 3) := by decide +kernel
theorem dX0_firstWord_19 : decode cX0_firstWord 19 = .ok (.iload_n 3, 1) := by decide +kernel
theorem dX0_firstWord_20 : decode cX0_firstWord 20 = .ok (.iaload, 1) := by decide +kernel
theorem dX0_firstWord_21 : decode cX0_firstWord 21 = .ok (.invokevirtual 50, 3) := by decide +kernel
theorem dX0_firstWord_24 : decode cX0_firstWord 24 = .ok (.istore_n 2, 1) := by decide +kernel
theorem dX0_firstWord_25 : decode cX0_firstWord 25 = .ok (.aload_n 0, 1) := by decide +kernel
theorem dX0_firstWord_26 : decode cX0_firstWord 26 = .ok (.iload_n 1, 1) := by decide +kernel
theorem dX0_firstWord_27 : decode cX0_firstWord 27 = .ok (.iload_n 2, 1) := by decide +kernel
theorem dX0_firstWord_28 : decode cX0_firstWord 28 = .ok (.invokevirtual 54, 3) := by decide +kernel
theorem dX0_firstWord_31 : decode cX0_firstWord 31 = .ok (.ifCond .eq 5, 3) := by decide +kernel
theorem dX0_firstWord_34 : decode cX0_firstWord 34 = .ok (.iload_n 3, 1) := by decide +kernel
theorem dX0_firstWord_35 : decode cX0_firstWord 35 = .ok (.ireturn, 1) := by decide +kernel
theorem dX0_firstWord_36 : decode cX0_firstWord 36 = .ok (.iinc 3 1, 3) := by decide +kernel
theorem dX0_firstWord_39 : decode cX0_firstWord 39 = .ok (.goto (-35), 3) := by decide +kernel
theorem dX0_firstWord_42 : decode cX0_firstWord 42 = .ok (.iconst (-1), 1) := by decide +kernel
theorem dX0_firstWord_43 : decode cX0_firstWord 43 = .ok (.ireturn, 1) := by decide +kernel
theorem dX0_unbroken_0 : decode cX0_unbroken 0 = .ok (.iconst 0, 1) := by decide +kernel
theorem dX0_unbroken_1 : decode cX0_unbroken 1 = .ok (.istore_n 1, 1) := by decide +kernel
theorem dX0_unbroken_2 : decode cX0_unbroken 2 = .ok (.iconst 0, 1) := by decide +kernel
theorem dX0_unbroken_3 : decode cX0_unbroken 3 = .ok (.istore_n 2, 1) := by decide +kernel
theorem dX0_unbroken_4 : decode cX0_unbroken 4 = .ok (.iload_n 2, 1) := by decide +kernel
theorem dX0_unbroken_5 : decode cX0_unbroken 5 = .ok (.iconst 4, 1) := by decide +kernel
theorem dX0_unbroken_6 : decode cX0_unbroken 6 = .ok (.if_icmp .ge 24, 3) := by decide +kernel
theorem dX0_unbroken_9 : decode cX0_unbroken 9 = .ok (.aload_n 0, 1) := by decide +kernel
theorem dX0_unbroken_10 : decode cX0_unbroken 10 = .ok (.iload_n 2, 1) := by decide +kernel
theorem dX0_unbroken_11 : decode cX0_unbroken 11 = .ok (.invokevirtual 58, 3) := by decide +kernel
theorem dX0_unbroken_14 : decode cX0_unbroken 14 = .ok (.iconst (-1), 1) := by decide +kernel
theorem dX0_unbroken_15 : decode cX0_unbroken 15 = .ok (.if_icmp .ne 9, 3) := by decide +kernel
theorem dX0_unbroken_18 : decode cX0_unbroken 18 = .ok (.iload_n 1, 1) := by decide +kernel
theorem dX0_unbroken_19 : decode cX0_unbroken 19 = .ok (.iconst 1, 1) := by decide +kernel
theorem dX0_unbroken_20 : decode cX0_unbroken 20 = .ok (.iload_n 2, 1) := by decide +kernel
theorem dX0_unbroken_21 : decode cX0_unbroken 21 = .ok (.ishl, 1) := by decide +kernel
theorem dX0_unbroken_22 : decode cX0_unbroken 22 = .ok (.ior, 1) := by decide +kernel
theorem dX0_unbroken_23 : decode cX0_unbroken 23 = .ok (.istore_n 1, 1) := by decide +kernel
theorem dX0_unbroken_24 : decode cX0_unbroken 24 = .ok (.iinc 2 1, 3) := by decide +kernel
theorem dX0_unbroken_27 : decode cX0_unbroken 27 = .ok (.goto (-23), 3) := by decide +kernel
theorem dX0_unbroken_30 : decode cX0_unbroken 30 = .ok (.iload_n 1, 1) := by decide +kernel
theorem dX0_unbroken_31 : decode cX0_unbroken 31 = .ok (.ireturn, 1) := by decide +kernel
theorem dX0_step_0 : decode cX0_step 0 = .ok (.iconst 0, 1) := by decide +kernel
theorem dX0_step_1 : decode cX0_step 1 = .ok (.istore 4, 2) := by decide +kernel
theorem dX0_step_3 : decode cX0_step 3 = .ok (.iconst 0, 1) := by decide +kernel
theorem dX0_step_4 : decode cX0_step 4 = .ok (.istore 5, 2) := by decide +kernel
theorem dX0_step_6 : decode cX0_step 6 = .ok (.iload 5, 2) := by decide +kernel
theorem dX0_step_8 : decode cX0_step 8 = .ok (.aload_n 0, 1) := by decide +kernel
theorem dX0_step_9 : decode cX0_step 9 = .ok (.getfield 22, 3) := by decide +kernel
theorem dX0_step_12 : decode cX0_step 12 = .ok (.iload_n 1, 1) := by decide +kernel
theorem dX0_step_13 : decode cX0_step 13 = .ok (.iaload, 1) := by decide +kernel
theorem dX0_step_14 : decode cX0_step 14 = .ok (.if_icmp .ge 111, 3) := by decide +kernel
theorem dX0_step_17 : decode cX0_step 17 = .ok (.aload_n 0, 1) := by decide +kernel
theorem dX0_step_18 : decode cX0_step 18 = .ok (.getfield 19, 3) := by decide +kernel
theorem dX0_step_21 : decode cX0_step 21 = .ok (.iload_n 1, 1) := by decide +kernel
theorem dX0_step_22 : decode cX0_step 22 = .ok (.bipush 8, 2) := by decide +kernel
theorem dX0_step_24 : decode cX0_step 24 = .ok (.imul, 1) := by decide +kernel
theorem dX0_step_25 : decode cX0_step 25 = .ok (.iload 5, 2) := by decide +kernel
theorem dX0_step_27 : decode cX0_step 27 = .ok (.iadd, 1) := by decide +kernel
theorem dX0_step_28 : decode cX0_step 28 = .ok (.iaload, 1) := by decide +kernel
theorem dX0_step_29 : decode cX0_step 29 = .ok (.istore 6, 2) := by decide +kernel
theorem dX0_step_31 : decode cX0_step 31 = .ok (.iload 6, 2) := by decide +kernel
theorem dX0_step_33 : decode cX0_step 33 = .ok (.iload_n 3, 1) := by decide +kernel
theorem dX0_step_34 : decode cX0_step 34 = .ok (.if_icmp .eq 17, 3) := by decide +kernel
theorem dX0_step_37 : decode cX0_step 37 = .ok (.iload 6, 2) := by decide +kernel
theorem dX0_step_39 : decode cX0_step 39 = .ok (.bipush 26, 2) := by decide +kernel
theorem dX0_step_41 : decode cX0_step 41 = .ok (.if_icmp .eq 10, 3) := by decide +kernel
theorem dX0_step_44 : decode cX0_step 44 = .ok (.iload 6, 2) := by decide +kernel
theorem dX0_step_46 : decode cX0_step 46 = .ok (.bipush 27, 2) := by decide +kernel
theorem dX0_step_48 : decode cX0_step 48 = .ok (.if_icmp .ne 7, 3) := by decide +kernel
theorem dX0_step_51 : decode cX0_step 51 = .ok (.iconst 1, 1) := by decide +kernel
theorem dX0_step_52 : decode cX0_step 52 = .ok (.goto 4, 3) := by decide +kernel
theorem dX0_step_55 : decode cX0_step 55 = .ok (.iconst 0, 1) := by decide +kernel
theorem dX0_step_56 : decode cX0_step 56 = .ok (.istore 7, 2) := by decide +kernel
theorem dX0_step_58 : decode cX0_step 58 = .ok (.iload_n 2, 1) := by decide +kernel
theorem dX0_step_59 : decode cX0_step 59 = .ok (.iconst 1, 1) := by decide +kernel
theorem dX0_step_60 : decode cX0_step 60 = .ok (.ior, 1) := by decide +kernel
theorem dX0_step_61 : decode cX0_step 61 = .ok (.iload 5, 2) := by decide +kernel
theorem dX0_step_63 : decode cX0_step 63 = .ok (.invokestatic 62, 3) := by decide +kernel
theorem dX0_step_66 : decode cX0_step 66 = .ok (.istore 8, 2) := by decide +kernel
theorem dX0_step_68 : decode cX0_step 68 = .ok (.iload 6, 2) := by decide +kernel
theorem dX0_step_70 : decode cX0_step 70 = .ok (.bipush 27, 2) := by decide +kernel
theorem dX0_step_72 : decode cX0_step 72 = .ok (.if_icmp .ne 18, 3) := by decide +kernel
theorem dX0_step_75 : decode cX0_step 75 = .ok (.iload_n 2, 1) := by decide +kernel
theorem dX0_step_76 : decode cX0_step 76 = .ok (.iload 5, 2) := by decide +kernel
theorem dX0_step_78 : decode cX0_step 78 = .ok (.iconst 1, 1) := by decide +kernel
theorem dX0_step_79 : decode cX0_step 79 = .ok (.iadd, 1) := by decide +kernel
theorem dX0_step_80 : decode cX0_step 80 = .ok (.invokestatic 62, 3) := by decide +kernel
theorem dX0_step_83 : decode cX0_step 83 = .ok (.ifCond .eq 7, 3) := by decide +kernel
theorem dX0_step_86 : decode cX0_step 86 = .ok (.iconst 1, 1) := by decide +kernel
theorem dX0_step_87 : decode cX0_step 87 = .ok (.goto 4, 3) := by decide +kernel
theorem dX0_step_90 : decode cX0_step 90 = .ok (.iconst 0, 1) := by decide +kernel
theorem dX0_step_91 : decode cX0_step 91 = .ok (.istore 9, 2) := by decide +kernel
theorem dX0_step_93 : decode cX0_step 93 = .ok (.iload 7, 2) := by decide +kernel
theorem dX0_step_95 : decode cX0_step 95 = .ok (.ifCond .eq 24, 3) := by decide +kernel
theorem dX0_step_98 : decode cX0_step 98 = .ok (.iload 8, 2) := by decide +kernel
theorem dX0_step_100 : decode cX0_step 100 = .ok (.ifCond .ne 8, 3) := by decide +kernel
theorem dX0_step_103 : decode cX0_step 103 = .ok (.iload 9, 2) := by decide +kernel
theorem dX0_step_105 : decode cX0_step 105 = .ok (.ifCond .eq 14, 3) := by decide +kernel
theorem dX0_step_108 : decode cX0_step 108 = .ok (.iload 4, 2) := by decide +kernel
theorem dX0_step_110 : decode cX0_step 110 = .ok (.iconst 1, 1) := by decide +kernel
theorem dX0_step_111 : decode cX0_step 111 = .ok (.iload 5, 2) := by decide +kernel
theorem dX0_step_113 : decode cX0_step 113 = .ok (.iconst 1, 1) := by decide +kernel
theorem dX0_step_114 : decode cX0_step 114 = .ok (.iadd, 1) := by decide +kernel
theorem dX0_step_115 : decode cX0_step 115 = .ok (.ishl, 1) := by decide +kernel
theorem dX0_step_116 : decode cX0_step 116 = .ok (.ior, 1) := by decide +kernel
theorem dX0_step_117 : decode cX0_step 117 = .ok (.istore 4, 2) := by decide +kernel
theorem dX0_step_119 : decode cX0_step 119 = .ok (.iinc 5 1, 3) := by decide +kernel
theorem dX0_step_122 : decode cX0_step 122 = .ok (.goto (-116), 3) := by decide +kernel
theorem dX0_step_125 : decode cX0_step 125 = .ok (.iload 4, 2) := by decide +kernel
theorem dX0_step_127 : decode cX0_step 127 = .ok (.ireturn, 1) := by decide +kernel
theorem dX0_isBroken_0 : decode cX0_isBroken 0 = .ok (.aload_n 0, 1) := by decide +kernel
theorem dX0_isBroken_1 : decode cX0_isBroken 1 = .ok (.getfield 22, 3) := by decide +kernel
theorem dX0_isBroken_4 : decode cX0_isBroken 4 = .ok (.iload_n 1, 1) := by decide +kernel
theorem dX0_isBroken_5 : decode cX0_isBroken 5 = .ok (.iaload, 1) := by decide +kernel
theorem dX0_isBroken_6 : decode cX0_isBroken 6 = .ok (.ifCond .le 20, 3) := by decide +kernel
theorem dX0_isBroken_9 : decode cX0_isBroken 9 = .ok (.iload_n 2, 1) := by decide +kernel
theorem dX0_isBroken_10 : decode cX0_isBroken 10 = .ok (.aload_n 0, 1) := by decide +kernel
theorem dX0_isBroken_11 : decode cX0_isBroken 11 = .ok (.getfield 22, 3) := by decide +kernel
theorem dX0_isBroken_14 : decode cX0_isBroken 14 = .ok (.iload_n 1, 1) := by decide +kernel
theorem dX0_isBroken_15 : decode cX0_isBroken 15 = .ok (.iaload, 1) := by decide +kernel
theorem dX0_isBroken_16 : decode cX0_isBroken 16 = .ok (.invokestatic 62, 3) := by decide +kernel
theorem dX0_isBroken_19 : decode cX0_isBroken 19 = .ok (.ifCond .eq 7, 3) := by decide +kernel
theorem dX0_isBroken_22 : decode cX0_isBroken 22 = .ok (.iconst 1, 1) := by decide +kernel
theorem dX0_isBroken_23 : decode cX0_isBroken 23 = .ok (.goto 4, 3) := by decide +kernel
theorem dX0_isBroken_26 : decode cX0_isBroken 26 = .ok (.iconst 0, 1) := by decide +kernel
theorem dX0_isBroken_27 : decode cX0_isBroken 27 = .ok (.ireturn, 1) := by decide +kernel
theorem dX0_fewestMore_0 : decode cX0_fewestMore 0 = .ok (.aload_n 0, 1) := by decide +kernel
theorem dX0_fewestMore_1 : decode cX0_fewestMore 1 = .ok (.getfield 15, 3) := by decide +kernel
theorem dX0_fewestMore_4 : decode cX0_fewestMore 4 = .ok (.ifCond .le 29, 3) := by decide +kernel
theorem dX0_fewestMore_7 : decode cX0_fewestMore 7 = .ok (.aload_n 0, 1) := by decide +kernel
theorem dX0_fewestMore_8 : decode cX0_fewestMore 8 = .ok (.getfield 15, 3) := by decide +kernel
theorem dX0_fewestMore_11 : decode cX0_fewestMore 11 = .ok (.bipush 60, 2) := by decide +kernel
theorem dX0_fewestMore_13 : decode cX0_fewestMore 13 = .ok (.if_icmp .gt 20, 3) := by decide +kernel
theorem dX0_fewestMore_16 : decode cX0_fewestMore 16 = .ok (.aload_n 0, 1) := by decide +kernel
theorem dX0_fewestMore_17 : decode cX0_fewestMore 17 = .ok (.getfield 11, 3) := by decide +kernel
theorem dX0_fewestMore_20 : decode cX0_fewestMore 20 = .ok (.aload_n 0, 1) := by decide +kernel
theorem dX0_fewestMore_21 : decode cX0_fewestMore 21 = .ok (.getfield 15, 3) := by decide +kernel
theorem dX0_fewestMore_24 : decode cX0_fewestMore 24 = .ok (.iconst 1, 1) := by decide +kernel
theorem dX0_fewestMore_25 : decode cX0_fewestMore 25 = .ok (.isub, 1) := by decide +kernel
theorem dX0_fewestMore_26 : decode cX0_fewestMore 26 = .ok (.iaload, 1) := by decide +kernel
theorem dX0_fewestMore_27 : decode cX0_fewestMore 27 = .ok (.iload_n 1, 1) := by decide +kernel
theorem dX0_fewestMore_28 : decode cX0_fewestMore 28 = .ok (.if_icmp .ne 5, 3) := by decide +kernel
theorem dX0_fewestMore_31 : decode cX0_fewestMore 31 = .ok (.iconst 0, 1) := by decide +kernel
theorem dX0_fewestMore_32 : decode cX0_fewestMore 32 = .ok (.ireturn, 1) := by decide +kernel
theorem dX0_fewestMore_33 : decode cX0_fewestMore 33 = .ok (.iload_n 1, 1) := by decide +kernel
theorem dX0_fewestMore_34 : decode cX0_fewestMore 34 = .ok (.iconst 4, 1) := by decide +kernel
theorem dX0_fewestMore_35 : decode cX0_fewestMore 35 = .ok (.if_icmp .lt 5, 3) := by decide +kernel
theorem dX0_fewestMore_38 : decode cX0_fewestMore 38 = .ok (.iconst (-1), 1) := by decide +kernel
theorem dX0_fewestMore_39 : decode cX0_fewestMore 39 = .ok (.ireturn, 1) := by decide +kernel
theorem dX0_fewestMore_40 : decode cX0_fewestMore 40 = .ok (.aload_n 0, 1) := by decide +kernel
theorem dX0_fewestMore_41 : decode cX0_fewestMore 41 = .ok (.invokevirtual 65, 3) := by decide +kernel
theorem dX0_fewestMore_44 : decode cX0_fewestMore 44 = .ok (.istore_n 2, 1) := by decide +kernel
theorem dX0_fewestMore_45 : decode cX0_fewestMore 45 = .ok (.aload_n 0, 1) := by decide +kernel
theorem dX0_fewestMore_46 : decode cX0_fewestMore 46 = .ok (.invokevirtual 69, 3) := by decide +kernel
theorem dX0_fewestMore_49 : decode cX0_fewestMore 49 = .ok (.iconst 1, 1) := by decide +kernel
theorem dX0_fewestMore_50 : decode cX0_fewestMore 50 = .ok (.istore_n 3, 1) := by decide +kernel
theorem dX0_fewestMore_51 : decode cX0_fewestMore 51 = .ok (.iconst 1, 1) := by decide +kernel
theorem dX0_fewestMore_52 : decode cX0_fewestMore 52 = .ok (.istore 4, 2) := by decide +kernel
theorem dX0_fewestMore_54 : decode cX0_fewestMore 54 = .ok (.iload 4, 2) := by decide +kernel
theorem dX0_fewestMore_56 : decode cX0_fewestMore 56 = .ok (.iconst 3, 1) := by decide +kernel
theorem dX0_fewestMore_57 : decode cX0_fewestMore 57 = .ok (.if_icmp .gt 53, 3) := by decide +kernel
theorem dX0_fewestMore_60 : decode cX0_fewestMore 60 = .ok (.iconst 0, 1) := by decide +kernel
theorem dX0_fewestMore_61 : decode cX0_fewestMore 61 = .ok (.istore 5, 2) := by decide +kernel
theorem dX0_fewestMore_63 : decode cX0_fewestMore 63 = .ok (.iload 5, 2) := by decide +kernel
theorem dX0_fewestMore_65 : decode cX0_fewestMore 65 = .ok (.iload_n 3, 1) := by decide +kernel
theorem dX0_fewestMore_66 : decode cX0_fewestMore 66 = .ok (.if_icmp .ge 34, 3) := by decide +kernel
theorem dX0_fewestMore_69 : decode cX0_fewestMore 69 = .ok (.aload_n 0, 1) := by decide +kernel
theorem dX0_fewestMore_70 : decode cX0_fewestMore 70 = .ok (.iload 4, 2) := by decide +kernel
theorem dX0_fewestMore_72 : decode cX0_fewestMore 72 = .ok (.iload 5, 2) := by decide +kernel
theorem dX0_fewestMore_74 : decode cX0_fewestMore 74 = .ok (.iconst 4, 1) := by decide +kernel
theorem dX0_fewestMore_75 : decode cX0_fewestMore 75 = .ok (.imul, 1) := by decide +kernel
theorem dX0_fewestMore_76 : decode cX0_fewestMore 76 = .ok (.iload_n 1, 1) := by decide +kernel
theorem dX0_fewestMore_77 : decode cX0_fewestMore 77 = .ok (.iadd, 1) := by decide +kernel
theorem dX0_fewestMore_78 : decode cX0_fewestMore 78 = .ok (.invokevirtual 72, 3) := by decide +kernel
theorem dX0_fewestMore_81 : decode cX0_fewestMore 81 = .ok (.aload_n 0, 1) := by decide +kernel
theorem dX0_fewestMore_82 : decode cX0_fewestMore 82 = .ok (.iload_n 2, 1) := by decide +kernel
theorem dX0_fewestMore_83 : decode cX0_fewestMore 83 = .ok (.iload 4, 2) := by decide +kernel
theorem dX0_fewestMore_85 : decode cX0_fewestMore 85 = .ok (.invokevirtual 76, 3) := by decide +kernel
theorem dX0_fewestMore_88 : decode cX0_fewestMore 88 = .ok (.ifCond .eq 6, 3) := by decide +kernel
theorem dX0_fewestMore_91 : decode cX0_fewestMore 91 = .ok (.iload 4, 2) := by decide +kernel
theorem dX0_fewestMore_93 : decode cX0_fewestMore 93 = .ok (.ireturn, 1) := by decide +kernel
theorem dX0_fewestMore_94 : decode cX0_fewestMore 94 = .ok (.iinc 5 1, 3) := by decide +kernel
theorem dX0_fewestMore_97 : decode cX0_fewestMore 97 = .ok (.goto (-34), 3) := by decide +kernel
theorem dX0_fewestMore_100 : decode cX0_fewestMore 100 = .ok (.iload_n 3, 1) := by decide +kernel
theorem dX0_fewestMore_101 : decode cX0_fewestMore 101 = .ok (.iconst 4, 1) := by decide +kernel
theorem dX0_fewestMore_102 : decode cX0_fewestMore 102 = .ok (.imul, 1) := by decide +kernel
theorem dX0_fewestMore_103 : decode cX0_fewestMore 103 = .ok (.istore_n 3, 1) := by decide +kernel
theorem dX0_fewestMore_104 : decode cX0_fewestMore 104 = .ok (.iinc 4 1, 3) := by decide +kernel
theorem dX0_fewestMore_107 : decode cX0_fewestMore 107 = .ok (.goto (-53), 3) := by decide +kernel
theorem dX0_fewestMore_110 : decode cX0_fewestMore 110 = .ok (.iconst (-1), 1) := by decide +kernel
theorem dX0_fewestMore_111 : decode cX0_fewestMore 111 = .ok (.ireturn, 1) := by decide +kernel
theorem dX0_moreSign_0 : decode cX0_moreSign 0 = .ok (.iload_n 1, 1) := by decide +kernel
theorem dX0_moreSign_1 : decode cX0_moreSign 1 = .ok (.ifCond .lt 17, 3) := by decide +kernel
theorem dX0_moreSign_4 : decode cX0_moreSign 4 = .ok (.iload_n 1, 1) := by decide +kernel
theorem dX0_moreSign_5 : decode cX0_moreSign 5 = .ok (.iconst 3, 1) := by decide +kernel
theorem dX0_moreSign_6 : decode cX0_moreSign 6 = .ok (.if_icmp .ge 12, 3) := by decide +kernel
theorem dX0_moreSign_9 : decode cX0_moreSign 9 = .ok (.aload_n 0, 1) := by decide +kernel
theorem dX0_moreSign_10 : decode cX0_moreSign 10 = .ok (.getfield 28, 3) := by decide +kernel
theorem dX0_moreSign_13 : decode cX0_moreSign 13 = .ok (.iload_n 1, 1) := by decide +kernel
theorem dX0_moreSign_14 : decode cX0_moreSign 14 = .ok (.iaload, 1) := by decide +kernel
theorem dX0_moreSign_15 : decode cX0_moreSign 15 = .ok (.goto 4, 3) := by decide +kernel
theorem dX0_moreSign_18 : decode cX0_moreSign 18 = .ok (.iconst (-1), 1) := by decide +kernel
theorem dX0_moreSign_19 : decode cX0_moreSign 19 = .ok (.ireturn, 1) := by decide +kernel
theorem dX0_reachEnd_0 : decode cX0_reachEnd 0 = .ok (.iconst 0, 1) := by decide +kernel
theorem dX0_reachEnd_1 : decode cX0_reachEnd 1 = .ok (.istore_n 1, 1) := by decide +kernel
theorem dX0_reachEnd_2 : decode cX0_reachEnd 2 = .ok (.iload_n 1, 1) := by decide +kernel
theorem dX0_reachEnd_3 : decode cX0_reachEnd 3 = .ok (.iconst 4, 1) := by decide +kernel
theorem dX0_reachEnd_4 : decode cX0_reachEnd 4 = .ok (.if_icmp .ge 47, 3) := by decide +kernel
theorem dX0_reachEnd_7 : decode cX0_reachEnd 7 = .ok (.iconst 0, 1) := by decide +kernel
theorem dX0_reachEnd_8 : decode cX0_reachEnd 8 = .ok (.istore_n 2, 1) := by decide +kernel
theorem dX0_reachEnd_9 : decode cX0_reachEnd 9 = .ok (.iconst 0, 1) := by decide +kernel
theorem dX0_reachEnd_10 : decode cX0_reachEnd 10 = .ok (.istore_n 3, 1) := by decide +kernel
theorem dX0_reachEnd_11 : decode cX0_reachEnd 11 = .ok (.iload_n 3, 1) := by decide +kernel
theorem dX0_reachEnd_12 : decode cX0_reachEnd 12 = .ok (.aload_n 0, 1) := by decide +kernel
theorem dX0_reachEnd_13 : decode cX0_reachEnd 13 = .ok (.getfield 15, 3) := by decide +kernel
theorem dX0_reachEnd_16 : decode cX0_reachEnd 16 = .ok (.if_icmp .ge 22, 3) := by decide +kernel
theorem dX0_reachEnd_19 : decode cX0_reachEnd 19 = .ok (.aload_n 0, 1) := by decide +kernel
theorem dX0_reachEnd_20 : decode cX0_reachEnd 20 = .ok (.iload_n 1, 1) := by decide +kernel
theorem dX0_reachEnd_21 : decode cX0_reachEnd 21 = .ok (.iload_n 2, 1) := by decide +kernel
theorem dX0_reachEnd_22 : decode cX0_reachEnd 22 = .ok (.aload_n 0, 1) := by decide +kernel
theorem dX0_reachEnd_23 : decode cX0_reachEnd 23 = .ok (.getfield 11, 3) := by decide +kernel
theorem dX0_reachEnd_26 : decode cX0_reachEnd 26 = .ok (.iload_n 3, 1) := by decide +kernel
theorem dX0_reachEnd_27 : decode cX0_reachEnd 27 = .ok (.iaload, 1) := by decide +kernel
theorem dX0_reachEnd_28 : decode cX0_reachEnd 28 = .ok (.invokevirtual 50, 3) := by decide +kernel
theorem dX0_reachEnd_31 : decode cX0_reachEnd 31 = .ok (.istore_n 2, 1) := by decide +kernel
theorem dX0_reachEnd_32 : decode cX0_reachEnd 32 = .ok (.iinc 3 1, 3) := by decide +kernel
theorem dX0_reachEnd_35 : decode cX0_reachEnd 35 = .ok (.goto (-24), 3) := by decide +kernel
theorem dX0_reachEnd_38 : decode cX0_reachEnd 38 = .ok (.aload_n 0, 1) := by decide +kernel
theorem dX0_reachEnd_39 : decode cX0_reachEnd 39 = .ok (.getfield 25, 3) := by decide +kernel
theorem dX0_reachEnd_42 : decode cX0_reachEnd 42 = .ok (.iload_n 1, 1) := by decide +kernel
theorem dX0_reachEnd_43 : decode cX0_reachEnd 43 = .ok (.iload_n 2, 1) := by decide +kernel
theorem dX0_reachEnd_44 : decode cX0_reachEnd 44 = .ok (.iastore, 1) := by decide +kernel
theorem dX0_reachEnd_45 : decode cX0_reachEnd 45 = .ok (.iinc 1 1, 3) := by decide +kernel
theorem dX0_reachEnd_48 : decode cX0_reachEnd 48 = .ok (.goto (-46), 3) := by decide +kernel
theorem dX0_reachEnd_51 : decode cX0_reachEnd 51 = .ok (.return_, 1) := by decide +kernel
theorem dX0_writeMore_0 : decode cX0_writeMore 0 = .ok (.iload_n 2, 1) := by decide +kernel
theorem dX0_writeMore_1 : decode cX0_writeMore 1 = .ok (.istore_n 3, 1) := by decide +kernel
theorem dX0_writeMore_2 : decode cX0_writeMore 2 = .ok (.iload_n 1, 1) := by decide +kernel
theorem dX0_writeMore_3 : decode cX0_writeMore 3 = .ok (.iconst 1, 1) := by decide +kernel
theorem dX0_writeMore_4 : decode cX0_writeMore 4 = .ok (.isub, 1) := by decide +kernel
theorem dX0_writeMore_5 : decode cX0_writeMore 5 = .ok (.istore 4, 2) := by decide +kernel
theorem dX0_writeMore_7 : decode cX0_writeMore 7 = .ok (.iload 4, 2) := by decide +kernel
theorem dX0_writeMore_9 : decode cX0_writeMore 9 = .ok (.ifCond .lt 23, 3) := by decide +kernel
theorem dX0_writeMore_12 : decode cX0_writeMore 12 = .ok (.aload_n 0, 1) := by decide +kernel
theorem dX0_writeMore_13 : decode cX0_writeMore 13 = .ok (.getfield 28, 3) := by decide +kernel
theorem dX0_writeMore_16 : decode cX0_writeMore 16 = .ok (.iload 4, 2) := by decide +kernel
theorem dX0_writeMore_18 : decode cX0_writeMore 18 = .ok (.iload_n 3, 1) := by decide +kernel
theorem dX0_writeMore_19 : decode cX0_writeMore 19 = .ok (.iconst 4, 1) := by decide +kernel
theorem dX0_writeMore_20 : decode cX0_writeMore 20 = .ok (.irem, 1) := by decide +kernel
theorem dX0_writeMore_21 : decode cX0_writeMore 21 = .ok (.iastore, 1) := by decide +kernel
theorem dX0_writeMore_22 : decode cX0_writeMore 22 = .ok (.iload_n 3, 1) := by decide +kernel
theorem dX0_writeMore_23 : decode cX0_writeMore 23 = .ok (.iconst 4, 1) := by decide +kernel
theorem dX0_writeMore_24 : decode cX0_writeMore 24 = .ok (.idiv, 1) := by decide +kernel
theorem dX0_writeMore_25 : decode cX0_writeMore 25 = .ok (.istore_n 3, 1) := by decide +kernel
theorem dX0_writeMore_26 : decode cX0_writeMore 26 = .ok (.iinc 4 (-1), 3) := by decide +kernel
theorem dX0_writeMore_29 : decode cX0_writeMore 29 = .ok (.goto (-22), 3) := by decide +kernel
theorem dX0_writeMore_32 : decode cX0_writeMore 32 = .ok (.return_, 1) := by decide +kernel
theorem dX0_keeps_0 : decode cX0_keeps 0 = .ok (.iconst 0, 1) := by decide +kernel
theorem dX0_keeps_1 : decode cX0_keeps 1 = .ok (.istore_n 3, 1) := by decide +kernel
theorem dX0_keeps_2 : decode cX0_keeps 2 = .ok (.iload_n 3, 1) := by decide +kernel
theorem dX0_keeps_3 : decode cX0_keeps 3 = .ok (.iconst 4, 1) := by decide +kernel
theorem dX0_keeps_4 : decode cX0_keeps 4 = .ok (.if_icmp .ge 68, 3) := by decide +kernel
theorem dX0_keeps_7 : decode cX0_keeps 7 = .ok (.aload_n 0, 1) := by decide +kernel
theorem dX0_keeps_8 : decode cX0_keeps 8 = .ok (.getfield 25, 3) := by decide +kernel
theorem dX0_keeps_11 : decode cX0_keeps 11 = .ok (.iload_n 3, 1) := by decide +kernel
theorem dX0_keeps_12 : decode cX0_keeps 12 = .ok (.iaload, 1) := by decide +kernel
theorem dX0_keeps_13 : decode cX0_keeps 13 = .ok (.istore 4, 2) := by decide +kernel
theorem dX0_keeps_15 : decode cX0_keeps 15 = .ok (.iconst 0, 1) := by decide +kernel
theorem dX0_keeps_16 : decode cX0_keeps 16 = .ok (.istore 5, 2) := by decide +kernel
theorem dX0_keeps_18 : decode cX0_keeps 18 = .ok (.iload 5, 2) := by decide +kernel
theorem dX0_keeps_20 : decode cX0_keeps 20 = .ok (.iload_n 2, 1) := by decide +kernel
theorem dX0_keeps_21 : decode cX0_keeps 21 = .ok (.if_icmp .ge 45, 3) := by decide +kernel
theorem dX0_keeps_24 : decode cX0_keeps 24 = .ok (.iload_n 1, 1) := by decide +kernel
theorem dX0_keeps_25 : decode cX0_keeps 25 = .ok (.iload_n 3, 1) := by decide +kernel
theorem dX0_keeps_26 : decode cX0_keeps 26 = .ok (.invokestatic 62, 3) := by decide +kernel
theorem dX0_keeps_29 : decode cX0_keeps 29 = .ok (.ifCond .eq 37, 3) := by decide +kernel
theorem dX0_keeps_32 : decode cX0_keeps 32 = .ok (.aload_n 0, 1) := by decide +kernel
theorem dX0_keeps_33 : decode cX0_keeps 33 = .ok (.iload_n 3, 1) := by decide +kernel
theorem dX0_keeps_34 : decode cX0_keeps 34 = .ok (.iload 4, 2) := by decide +kernel
theorem dX0_keeps_36 : decode cX0_keeps 36 = .ok (.aload_n 0, 1) := by decide +kernel
theorem dX0_keeps_37 : decode cX0_keeps 37 = .ok (.getfield 28, 3) := by decide +kernel
theorem dX0_keeps_40 : decode cX0_keeps 40 = .ok (.iload 5, 2) := by decide +kernel
theorem dX0_keeps_42 : decode cX0_keeps 42 = .ok (.iaload, 1) := by decide +kernel
theorem dX0_keeps_43 : decode cX0_keeps 43 = .ok (.invokevirtual 50, 3) := by decide +kernel
theorem dX0_keeps_46 : decode cX0_keeps 46 = .ok (.istore 4, 2) := by decide +kernel
theorem dX0_keeps_48 : decode cX0_keeps 48 = .ok (.aload_n 0, 1) := by decide +kernel
theorem dX0_keeps_49 : decode cX0_keeps 49 = .ok (.iload_n 3, 1) := by decide +kernel
theorem dX0_keeps_50 : decode cX0_keeps 50 = .ok (.iload 4, 2) := by decide +kernel
theorem dX0_keeps_52 : decode cX0_keeps 52 = .ok (.invokevirtual 54, 3) := by decide +kernel
theorem dX0_keeps_55 : decode cX0_keeps 55 = .ok (.ifCond .eq 5, 3) := by decide +kernel
theorem dX0_keeps_58 : decode cX0_keeps 58 = .ok (.iconst 0, 1) := by decide +kernel
theorem dX0_keeps_59 : decode cX0_keeps 59 = .ok (.ireturn, 1) := by decide +kernel
theorem dX0_keeps_60 : decode cX0_keeps 60 = .ok (.iinc 5 1, 3) := by decide +kernel
theorem dX0_keeps_63 : decode cX0_keeps 63 = .ok (.goto (-45), 3) := by decide +kernel
theorem dX0_keeps_66 : decode cX0_keeps 66 = .ok (.iinc 3 1, 3) := by decide +kernel
theorem dX0_keeps_69 : decode cX0_keeps 69 = .ok (.goto (-67), 3) := by decide +kernel
theorem dX0_keeps_72 : decode cX0_keeps 72 = .ok (.iconst 1, 1) := by decide +kernel
theorem dX0_keeps_73 : decode cX0_keeps 73 = .ok (.ireturn, 1) := by decide +kernel
theorem dX0_mixed_0 : decode cX0_mixed 0 = .ok (.lload_n 1, 1) := by decide +kernel
theorem dX0_mixed_1 : decode cX0_mixed 1 = .ok (.lstore_n 3, 1) := by decide +kernel
theorem dX0_mixed_2 : decode cX0_mixed 2 = .ok (.iconst 0, 1) := by decide +kernel
theorem dX0_mixed_3 : decode cX0_mixed 3 = .ok (.istore 5, 2) := by decide +kernel
theorem dX0_mixed_5 : decode cX0_mixed 5 = .ok (.iload 5, 2) := by decide +kernel
theorem dX0_mixed_7 : decode cX0_mixed 7 = .ok (.aload_n 0, 1) := by decide +kernel
theorem dX0_mixed_8 : decode cX0_mixed 8 = .ok (.getfield 15, 3) := by decide +kernel
theorem dX0_mixed_11 : decode cX0_mixed 11 = .ok (.if_icmp .ge 24, 3) := by decide +kernel
theorem dX0_mixed_14 : decode cX0_mixed 14 = .ok (.ldc2_w 79, 3) := by decide +kernel
theorem dX0_mixed_17 : decode cX0_mixed 17 = .ok (.lload_n 3, 1) := by decide +kernel
theorem dX0_mixed_18 : decode cX0_mixed 18 = .ok (.lmul, 1) := by decide +kernel
theorem dX0_mixed_19 : decode cX0_mixed 19 = .ok (.aload_n 0, 1) := by decide +kernel
theorem dX0_mixed_20 : decode cX0_mixed 20 = .ok (.getfield 11, 3) := by decide +kernel
theorem dX0_mixed_23 : decode cX0_mixed 23 = .ok (.iload 5, 2) := by decide +kernel
theorem dX0_mixed_25 : decode cX0_mixed 25 = .ok (.iaload, 1) := by decide +kernel
theorem dX0_mixed_26 : decode cX0_mixed 26 = .ok (.i2l, 1) := by decide +kernel
theorem dX0_mixed_27 : decode cX0_mixed 27 = .ok (.ladd, 1) := by decide +kernel
theorem dX0_mixed_28 : decode cX0_mixed 28 = .ok (.lstore_n 3, 1) := by decide +kernel
theorem dX0_mixed_29 : decode cX0_mixed 29 = .ok (.iinc 5 1, 3) := by decide +kernel
theorem dX0_mixed_32 : decode cX0_mixed 32 = .ok (.goto (-27), 3) := by decide +kernel
theorem dX0_mixed_35 : decode cX0_mixed 35 = .ok (.iconst 0, 1) := by decide +kernel
theorem dX0_mixed_36 : decode cX0_mixed 36 = .ok (.istore 5, 2) := by decide +kernel
theorem dX0_mixed_38 : decode cX0_mixed 38 = .ok (.iload 5, 2) := by decide +kernel
theorem dX0_mixed_40 : decode cX0_mixed 40 = .ok (.iconst 4, 1) := by decide +kernel
theorem dX0_mixed_41 : decode cX0_mixed 41 = .ok (.if_icmp .ge 66, 3) := by decide +kernel
theorem dX0_mixed_44 : decode cX0_mixed 44 = .ok (.ldc2_w 79, 3) := by decide +kernel
theorem dX0_mixed_47 : decode cX0_mixed 47 = .ok (.lload_n 3, 1) := by decide +kernel
theorem dX0_mixed_48 : decode cX0_mixed 48 = .ok (.lmul, 1) := by decide +kernel
theorem dX0_mixed_49 : decode cX0_mixed 49 = .ok (.aload_n 0, 1) := by decide +kernel
theorem dX0_mixed_50 : decode cX0_mixed 50 = .ok (.getfield 22, 3) := by decide +kernel
theorem dX0_mixed_53 : decode cX0_mixed 53 = .ok (.iload 5, 2) := by decide +kernel
theorem dX0_mixed_55 : decode cX0_mixed 55 = .ok (.iaload, 1) := by decide +kernel
theorem dX0_mixed_56 : decode cX0_mixed 56 = .ok (.i2l, 1) := by decide +kernel
theorem dX0_mixed_57 : decode cX0_mixed 57 = .ok (.ladd, 1) := by decide +kernel
theorem dX0_mixed_58 : decode cX0_mixed 58 = .ok (.lstore_n 3, 1) := by decide +kernel
theorem dX0_mixed_59 : decode cX0_mixed 59 = .ok (.iconst 0, 1) := by decide +kernel
theorem dX0_mixed_60 : decode cX0_mixed 60 = .ok (.istore 6, 2) := by decide +kernel
theorem dX0_mixed_62 : decode cX0_mixed 62 = .ok (.iload 6, 2) := by decide +kernel
theorem dX0_mixed_64 : decode cX0_mixed 64 = .ok (.aload_n 0, 1) := by decide +kernel
theorem dX0_mixed_65 : decode cX0_mixed 65 = .ok (.getfield 22, 3) := by decide +kernel
theorem dX0_mixed_68 : decode cX0_mixed 68 = .ok (.iload 5, 2) := by decide +kernel
theorem dX0_mixed_70 : decode cX0_mixed 70 = .ok (.iaload, 1) := by decide +kernel
theorem dX0_mixed_71 : decode cX0_mixed 71 = .ok (.if_icmp .ge 30, 3) := by decide +kernel
theorem dX0_mixed_74 : decode cX0_mixed 74 = .ok (.ldc2_w 79, 3) := by decide +kernel
theorem dX0_mixed_77 : decode cX0_mixed 77 = .ok (.lload_n 3, 1) := by decide +kernel
theorem dX0_mixed_78 : decode cX0_mixed 78 = .ok (.lmul, 1) := by decide +kernel
theorem dX0_mixed_79 : decode cX0_mixed 79 = .ok (.aload_n 0, 1) := by decide +kernel
theorem dX0_mixed_80 : decode cX0_mixed 80 = .ok (.getfield 19, 3) := by decide +kernel
theorem dX0_mixed_83 : decode cX0_mixed 83 = .ok (.iload 5, 2) := by decide +kernel
theorem dX0_mixed_85 : decode cX0_mixed 85 = .ok (.bipush 8, 2) := by decide +kernel
theorem dX0_mixed_87 : decode cX0_mixed 87 = .ok (.imul, 1) := by decide +kernel
theorem dX0_mixed_88 : decode cX0_mixed 88 = .ok (.iload 6, 2) := by decide +kernel
theorem dX0_mixed_90 : decode cX0_mixed 90 = .ok (.iadd, 1) := by decide +kernel
theorem dX0_mixed_91 : decode cX0_mixed 91 = .ok (.iaload, 1) := by decide +kernel
theorem dX0_mixed_92 : decode cX0_mixed 92 = .ok (.i2l, 1) := by decide +kernel
theorem dX0_mixed_93 : decode cX0_mixed 93 = .ok (.ladd, 1) := by decide +kernel
theorem dX0_mixed_94 : decode cX0_mixed 94 = .ok (.lstore_n 3, 1) := by decide +kernel
theorem dX0_mixed_95 : decode cX0_mixed 95 = .ok (.iinc 6 1, 3) := by decide +kernel
theorem dX0_mixed_98 : decode cX0_mixed 98 = .ok (.goto (-36), 3) := by decide +kernel
theorem dX0_mixed_101 : decode cX0_mixed 101 = .ok (.iinc 5 1, 3) := by decide +kernel
theorem dX0_mixed_104 : decode cX0_mixed 104 = .ok (.goto (-66), 3) := by decide +kernel
theorem dX0_mixed_107 : decode cX0_mixed 107 = .ok (.lload_n 3, 1) := by decide +kernel
theorem dX0_mixed_108 : decode cX0_mixed 108 = .ok (.lreturn, 1) := by decide +kernel
theorem dX1_init_0 : decode cX1_init 0 = .ok (.aload_n 0, 1) := by decide +kernel
theorem dX1_init_1 : decode cX1_init 1 = .ok (.invokespecial 1, 3) := by decide +kernel
theorem dX1_init_4 : decode cX1_init 4 = .ok (.return_, 1) := by decide +kernel
theorem dX1_hurts_0 : decode cX1_hurts 0 = .ok (.aload_n 0, 1) := by decide +kernel
theorem dX1_hurts_1 : decode cX1_hurts 1 = .ok (.invokespecial 7, 3) := by decide +kernel
theorem dX1_hurts_4 : decode cX1_hurts 4 = .ok (.iconst 2, 1) := by decide +kernel
theorem dX1_hurts_5 : decode cX1_hurts 5 = .ok (.iadd, 1) := by decide +kernel
theorem dX1_hurts_6 : decode cX1_hurts 6 = .ok (.ireturn, 1) := by decide +kernel
theorem dX1_grows_0 : decode cX1_grows 0 = .ok (.aload_n 0, 1) := by decide +kernel
theorem dX1_grows_1 : decode cX1_grows 1 = .ok (.iload_n 1, 1) := by decide +kernel
theorem dX1_grows_2 : decode cX1_grows 2 = .ok (.invokespecial 11, 3) := by decide +kernel
theorem dX1_grows_5 : decode cX1_grows 5 = .ok (.iconst 1, 1) := by decide +kernel
theorem dX1_grows_6 : decode cX1_grows 6 = .ok (.iadd, 1) := by decide +kernel
theorem dX1_grows_7 : decode cX1_grows 7 = .ok (.ireturn, 1) := by decide +kernel
theorem dX5_init_0 : decode cX5_init 0 = .ok (.aload_n 0, 1) := by decide +kernel
theorem dX5_init_1 : decode cX5_init 1 = .ok (.invokespecial 1, 3) := by decide +kernel
theorem dX5_init_4 : decode cX5_init 4 = .ok (.return_, 1) := by decide +kernel
theorem dX5_picks_0 : decode cX5_picks 0 = .ok (.iconst 3, 1) := by decide +kernel
theorem dX5_picks_1 : decode cX5_picks 1 = .ok (.ireturn, 1) := by decide +kernel
theorem dX5_hurts_0 : decode cX5_hurts 0 = .ok (.iconst 1, 1) := by decide +kernel
theorem dX5_hurts_1 : decode cX5_hurts 1 = .ok (.ireturn, 1) := by decide +kernel
theorem dX5_grows_0 : decode cX5_grows 0 = .ok (.iconst 1, 1) := by decide +kernel
theorem dX5_grows_1 : decode cX5_grows 1 = .ok (.ireturn, 1) := by decide +kernel
theorem dX6_init_0 : decode cX6_init 0 = .ok (.aload_n 0, 1) := by decide +kernel
theorem dX6_init_1 : decode cX6_init 1 = .ok (.invokespecial 1, 3) := by decide +kernel
theorem dX6_init_4 : decode cX6_init 4 = .ok (.return_, 1) := by decide +kernel
theorem dX6_picks_0 : decode cX6_picks 0 = .ok (.aload_n 0, 1) := by decide +kernel
theorem dX6_picks_1 : decode cX6_picks 1 = .ok (.iload_n 1, 1) := by decide +kernel
theorem dX6_picks_2 : decode cX6_picks 2 = .ok (.invokespecial 7, 3) := by decide +kernel
theorem dX6_picks_5 : decode cX6_picks 5 = .ok (.iconst 1, 1) := by decide +kernel
theorem dX6_picks_6 : decode cX6_picks 6 = .ok (.iadd, 1) := by decide +kernel
theorem dX6_picks_7 : decode cX6_picks 7 = .ok (.ireturn, 1) := by decide +kernel
theorem dX7_init_0 : decode cX7_init 0 = .ok (.aload_n 0, 1) := by decide +kernel
theorem dX7_init_1 : decode cX7_init 1 = .ok (.invokespecial 1, 3) := by decide +kernel
theorem dX7_init_4 : decode cX7_init 4 = .ok (.return_, 1) := by decide +kernel
theorem dX7_hurts_0 : decode cX7_hurts 0 = .ok (.aload_n 0, 1) := by decide +kernel
theorem dX7_hurts_1 : decode cX7_hurts 1 = .ok (.invokespecial 7, 3) := by decide +kernel
theorem dX7_hurts_4 : decode cX7_hurts 4 = .ok (.iconst 1, 1) := by decide +kernel
theorem dX7_hurts_5 : decode cX7_hurts 5 = .ok (.isub, 1) := by decide +kernel
theorem dX7_hurts_6 : decode cX7_hurts 6 = .ok (.ireturn, 1) := by decide +kernel
theorem dX7_grows_0 : decode cX7_grows 0 = .ok (.iload_n 1, 1) := by decide +kernel
theorem dX7_grows_1 : decode cX7_grows 1 = .ok (.iconst 2, 1) := by decide +kernel
theorem dX7_grows_2 : decode cX7_grows 2 = .ok (.irem, 1) := by decide +kernel
theorem dX7_grows_3 : decode cX7_grows 3 = .ok (.iconst 1, 1) := by decide +kernel
theorem dX7_grows_4 : decode cX7_grows 4 = .ok (.if_icmp .ne 7, 3) := by decide +kernel
theorem dX7_grows_7 : decode cX7_grows 7 = .ok (.iconst 1, 1) := by decide +kernel
theorem dX7_grows_8 : decode cX7_grows 8 = .ok (.goto 4, 3) := by decide +kernel
theorem dX7_grows_11 : decode cX7_grows 11 = .ok (.iconst 0, 1) := by decide +kernel
theorem dX7_grows_12 : decode cX7_grows 12 = .ok (.ireturn, 1) := by decide +kernel
theorem dX8_init_0 : decode cX8_init 0 = .ok (.aload_n 0, 1) := by decide +kernel
theorem dX8_init_1 : decode cX8_init 1 = .ok (.invokespecial 3, 3) := by decide +kernel
theorem dX8_init_4 : decode cX8_init 4 = .ok (.aload_n 0, 1) := by decide +kernel
theorem dX8_init_5 : decode cX8_init 5 = .ok (.bipush 8, 2) := by decide +kernel
theorem dX8_init_7 : decode cX8_init 7 = .ok (.newarray .int, 2) := by decide +kernel
theorem dX8_init_9 : decode cX8_init 9 = .ok (.putfield 11, 3) := by decide +kernel
theorem dX8_init_12 : decode cX8_init 12 = .ok (.aload_n 0, 1) := by decide +kernel
theorem dX8_init_13 : decode cX8_init 13 = .ok (.iconst 2, 1) := by decide +kernel
theorem dX8_init_14 : decode cX8_init 14 = .ok (.newarray .int, 2) := by decide +kernel
theorem dX8_init_16 : decode cX8_init 16 = .ok (.putfield 15, 3) := by decide +kernel
theorem dX8_init_19 : decode cX8_init 19 = .ok (.aload_n 0, 1) := by decide +kernel
theorem dX8_init_20 : decode cX8_init 20 = .ok (.sipush 256, 3) := by decide +kernel
theorem dX8_init_23 : decode cX8_init 23 = .ok (.newarray .int, 2) := by decide +kernel
theorem dX8_init_25 : decode cX8_init 25 = .ok (.putfield 18, 3) := by decide +kernel
theorem dX8_init_28 : decode cX8_init 28 = .ok (.return_, 1) := by decide +kernel
theorem dX8_become_0 : decode cX8_become 0 = .ok (.aload_n 1, 1) := by decide +kernel
theorem dX8_become_1 : decode cX8_become 1 = .ok (.getfield 11, 3) := by decide +kernel
theorem dX8_become_4 : decode cX8_become 4 = .ok (.iconst 0, 1) := by decide +kernel
theorem dX8_become_5 : decode cX8_become 5 = .ok (.aload_n 0, 1) := by decide +kernel
theorem dX8_become_6 : decode cX8_become 6 = .ok (.getfield 11, 3) := by decide +kernel
theorem dX8_become_9 : decode cX8_become 9 = .ok (.iconst 0, 1) := by decide +kernel
theorem dX8_become_10 : decode cX8_become 10 = .ok (.bipush 8, 2) := by decide +kernel
theorem dX8_become_12 : decode cX8_become 12 = .ok (.invokestatic 21, 3) := by decide +kernel
theorem dX8_become_15 : decode cX8_become 15 = .ok (.aload_n 1, 1) := by decide +kernel
theorem dX8_become_16 : decode cX8_become 16 = .ok (.getfield 15, 3) := by decide +kernel
theorem dX8_become_19 : decode cX8_become 19 = .ok (.iconst 0, 1) := by decide +kernel
theorem dX8_become_20 : decode cX8_become 20 = .ok (.aload_n 0, 1) := by decide +kernel
theorem dX8_become_21 : decode cX8_become 21 = .ok (.getfield 15, 3) := by decide +kernel
theorem dX8_become_24 : decode cX8_become 24 = .ok (.iconst 0, 1) := by decide +kernel
theorem dX8_become_25 : decode cX8_become 25 = .ok (.iconst 2, 1) := by decide +kernel
theorem dX8_become_26 : decode cX8_become 26 = .ok (.invokestatic 21, 3) := by decide +kernel
theorem dX8_become_29 : decode cX8_become 29 = .ok (.return_, 1) := by decide +kernel
theorem dX8_add_0 : decode cX8_add 0 = .ok (.iload_n 1, 1) := by decide +kernel
theorem dX8_add_1 : decode cX8_add 1 = .ok (.ifCond .lt 19, 3) := by decide +kernel
theorem dX8_add_4 : decode cX8_add 4 = .ok (.iload_n 1, 1) := by decide +kernel
theorem dX8_add_5 : decode cX8_add 5 = .ok (.iconst 1, 1) := by decide +kernel
theorem dX8_add_6 : decode cX8_add 6 = .ok (.if_icmp .gt 14, 3) := by decide +kernel
theorem dX8_add_9 : decode cX8_add 9 = .ok (.iload_n 2, 1) := by decide +kernel
theorem dX8_add_10 : decode cX8_add 10 = .ok (.iconst 1, 1) := by decide +kernel
theorem dX8_add_11 : decode cX8_add 11 = .ok (.if_icmp .lt 9, 3) := by decide +kernel
theorem dX8_add_14 : decode cX8_add 14 = .ok (.iload_n 2, 1) := by decide +kernel
theorem dX8_add_15 : decode cX8_add 15 = .ok (.bipush 9, 2) := by decide +kernel
theorem dX8_add_17 : decode cX8_add 17 = .ok (.if_icmp .le 6, 3) := by decide +kernel
theorem dX8_add_20 : decode cX8_add 20 = .ok (.bipush (-2), 2) := by decide +kernel
theorem dX8_add_22 : decode cX8_add 22 = .ok (.ireturn, 1) := by decide +kernel
theorem dX8_add_23 : decode cX8_add 23 = .ok (.aload_n 0, 1) := by decide +kernel
theorem dX8_add_24 : decode cX8_add 24 = .ok (.getfield 15, 3) := by decide +kernel
theorem dX8_add_27 : decode cX8_add 27 = .ok (.iload_n 1, 1) := by decide +kernel
theorem dX8_add_28 : decode cX8_add 28 = .ok (.iaload, 1) := by decide +kernel
theorem dX8_add_29 : decode cX8_add 29 = .ok (.iconst 4, 1) := by decide +kernel
theorem dX8_add_30 : decode cX8_add 30 = .ok (.if_icmp .lt 6, 3) := by decide +kernel
theorem dX8_add_33 : decode cX8_add 33 = .ok (.bipush (-4), 2) := by decide +kernel
theorem dX8_add_35 : decode cX8_add 35 = .ok (.ireturn, 1) := by decide +kernel
theorem dX8_add_36 : decode cX8_add 36 = .ok (.aload_n 0, 1) := by decide +kernel
theorem dX8_add_37 : decode cX8_add 37 = .ok (.getfield 11, 3) := by decide +kernel
theorem dX8_add_40 : decode cX8_add 40 = .ok (.iload_n 1, 1) := by decide +kernel
theorem dX8_add_41 : decode cX8_add 41 = .ok (.iconst 4, 1) := by decide +kernel
theorem dX8_add_42 : decode cX8_add 42 = .ok (.imul, 1) := by decide +kernel
theorem dX8_add_43 : decode cX8_add 43 = .ok (.aload_n 0, 1) := by decide +kernel
theorem dX8_add_44 : decode cX8_add 44 = .ok (.getfield 15, 3) := by decide +kernel
theorem dX8_add_47 : decode cX8_add 47 = .ok (.iload_n 1, 1) := by decide +kernel
theorem dX8_add_48 : decode cX8_add 48 = .ok (.iaload, 1) := by decide +kernel
theorem dX8_add_49 : decode cX8_add 49 = .ok (.iadd, 1) := by decide +kernel
theorem dX8_add_50 : decode cX8_add 50 = .ok (.iload_n 2, 1) := by decide +kernel
theorem dX8_add_51 : decode cX8_add 51 = .ok (.iastore, 1) := by decide +kernel
theorem dX8_add_52 : decode cX8_add 52 = .ok (.aload_n 0, 1) := by decide +kernel
theorem dX8_add_53 : decode cX8_add 53 = .ok (.getfield 15, 3) := by decide +kernel
theorem dX8_add_56 : decode cX8_add 56 = .ok (.iload_n 1, 1) := by decide +kernel
theorem dX8_add_57 : decode cX8_add 57 = .ok (.dup2, 1) := by decide +kernel
theorem dX8_add_58 : decode cX8_add 58 = .ok (.iaload, 1) := by decide +kernel
theorem dX8_add_59 : decode cX8_add 59 = .ok (.iconst 1, 1) := by decide +kernel
theorem dX8_add_60 : decode cX8_add 60 = .ok (.iadd, 1) := by decide +kernel
theorem dX8_add_61 : decode cX8_add 61 = .ok (.iastore, 1) := by decide +kernel
theorem dX8_add_62 : decode cX8_add 62 = .ok (.aload_n 0, 1) := by decide +kernel
theorem dX8_add_63 : decode cX8_add 63 = .ok (.getfield 15, 3) := by decide +kernel
theorem dX8_add_66 : decode cX8_add 66 = .ok (.iload_n 1, 1) := by decide +kernel
theorem dX8_add_67 : decode cX8_add 67 = .ok (.iaload, 1) := by decide +kernel
theorem dX8_add_68 : decode cX8_add 68 = .ok (.iconst 1, 1) := by decide +kernel
theorem dX8_add_69 : decode cX8_add 69 = .ok (.isub, 1) := by decide +kernel
theorem dX8_add_70 : decode cX8_add 70 = .ok (.ireturn, 1) := by decide +kernel
theorem dX8_forget_0 : decode cX8_forget 0 = .ok (.aload_n 0, 1) := by decide +kernel
theorem dX8_forget_1 : decode cX8_forget 1 = .ok (.getfield 15, 3) := by decide +kernel
theorem dX8_forget_4 : decode cX8_forget 4 = .ok (.iconst 0, 1) := by decide +kernel
theorem dX8_forget_5 : decode cX8_forget 5 = .ok (.iaload, 1) := by decide +kernel
theorem dX8_forget_6 : decode cX8_forget 6 = .ok (.aload_n 0, 1) := by decide +kernel
theorem dX8_forget_7 : decode cX8_forget 7 = .ok (.getfield 15, 3) := by decide +kernel
theorem dX8_forget_10 : decode cX8_forget 10 = .ok (.iconst 1, 1) := by decide +kernel
theorem dX8_forget_11 : decode cX8_forget 11 = .ok (.iaload, 1) := by decide +kernel
theorem dX8_forget_12 : decode cX8_forget 12 = .ok (.iadd, 1) := by decide +kernel
theorem dX8_forget_13 : decode cX8_forget 13 = .ok (.istore_n 1, 1) := by decide +kernel
theorem dX8_forget_14 : decode cX8_forget 14 = .ok (.aload_n 0, 1) := by decide +kernel
theorem dX8_forget_15 : decode cX8_forget 15 = .ok (.getfield 15, 3) := by decide +kernel
theorem dX8_forget_18 : decode cX8_forget 18 = .ok (.iconst 0, 1) := by decide +kernel
theorem dX8_forget_19 : decode cX8_forget 19 = .ok (.iconst 0, 1) := by decide +kernel
theorem dX8_forget_20 : decode cX8_forget 20 = .ok (.iastore, 1) := by decide +kernel
theorem dX8_forget_21 : decode cX8_forget 21 = .ok (.aload_n 0, 1) := by decide +kernel
theorem dX8_forget_22 : decode cX8_forget 22 = .ok (.getfield 15, 3) := by decide +kernel
theorem dX8_forget_25 : decode cX8_forget 25 = .ok (.iconst 1, 1) := by decide +kernel
theorem dX8_forget_26 : decode cX8_forget 26 = .ok (.iconst 0, 1) := by decide +kernel
theorem dX8_forget_27 : decode cX8_forget 27 = .ok (.iastore, 1) := by decide +kernel
theorem dX8_forget_28 : decode cX8_forget 28 = .ok (.iload_n 1, 1) := by decide +kernel
theorem dX8_forget_29 : decode cX8_forget 29 = .ok (.ireturn, 1) := by decide +kernel
theorem dX8_mostShown_0 : decode cX8_mostShown 0 = .ok (.iconst 1, 1) := by decide +kernel
theorem dX8_mostShown_1 : decode cX8_mostShown 1 = .ok (.aload_n 0, 1) := by decide +kernel
theorem dX8_mostShown_2 : decode cX8_mostShown 2 = .ok (.getfield 15, 3) := by decide +kernel
theorem dX8_mostShown_5 : decode cX8_mostShown 5 = .ok (.iconst 0, 1) := by decide +kernel
theorem dX8_mostShown_6 : decode cX8_mostShown 6 = .ok (.iaload, 1) := by decide +kernel
theorem dX8_mostShown_7 : decode cX8_mostShown 7 = .ok (.ishl, 1) := by decide +kernel
theorem dX8_mostShown_8 : decode cX8_mostShown 8 = .ok (.iconst 1, 1) := by decide +kernel
theorem dX8_mostShown_9 : decode cX8_mostShown 9 = .ok (.isub, 1) := by decide +kernel
theorem dX8_mostShown_10 : decode cX8_mostShown 10 = .ok (.istore_n 2, 1) := by decide +kernel
theorem dX8_mostShown_11 : decode cX8_mostShown 11 = .ok (.iload_n 2, 1) := by decide +kernel
theorem dX8_mostShown_12 : decode cX8_mostShown 12 = .ok (.ifCond .lt 70, 3) := by decide +kernel
theorem dX8_mostShown_15 : decode cX8_mostShown 15 = .ok (.iconst 1, 1) := by decide +kernel
theorem dX8_mostShown_16 : decode cX8_mostShown 16 = .ok (.aload_n 0, 1) := by decide +kernel
theorem dX8_mostShown_17 : decode cX8_mostShown 17 = .ok (.getfield 15, 3) := by decide +kernel
theorem dX8_mostShown_20 : decode cX8_mostShown 20 = .ok (.iconst 1, 1) := by decide +kernel
theorem dX8_mostShown_21 : decode cX8_mostShown 21 = .ok (.iaload, 1) := by decide +kernel
theorem dX8_mostShown_22 : decode cX8_mostShown 22 = .ok (.ishl, 1) := by decide +kernel
theorem dX8_mostShown_23 : decode cX8_mostShown 23 = .ok (.iconst 1, 1) := by decide +kernel
theorem dX8_mostShown_24 : decode cX8_mostShown 24 = .ok (.isub, 1) := by decide +kernel
theorem dX8_mostShown_25 : decode cX8_mostShown 25 = .ok (.istore_n 3, 1) := by decide +kernel
theorem dX8_mostShown_26 : decode cX8_mostShown 26 = .ok (.iload_n 3, 1) := by decide +kernel
theorem dX8_mostShown_27 : decode cX8_mostShown 27 = .ok (.ifCond .lt 49, 3) := by decide +kernel
theorem dX8_mostShown_30 : decode cX8_mostShown 30 = .ok (.iload_n 2, 1) := by decide +kernel
theorem dX8_mostShown_31 : decode cX8_mostShown 31 = .ok (.invokestatic 27, 3) := by decide +kernel
theorem dX8_mostShown_34 : decode cX8_mostShown 34 = .ok (.iload_n 3, 1) := by decide +kernel
theorem dX8_mostShown_35 : decode cX8_mostShown 35 = .ok (.invokestatic 27, 3) := by decide +kernel
theorem dX8_mostShown_38 : decode cX8_mostShown 38 = .ok (.isub, 1) := by decide +kernel
theorem dX8_mostShown_39 : decode cX8_mostShown 39 = .ok (.istore 4, 2) := by decide +kernel
theorem dX8_mostShown_41 : decode cX8_mostShown 41 = .ok (.iload 4, 2) := by decide +kernel
theorem dX8_mostShown_43 : decode cX8_mostShown 43 = .ok (.ifCond .eq 9, 3) := by decide +kernel
theorem dX8_mostShown_46 : decode cX8_mostShown 46 = .ok (.iload 4, 2) := by decide +kernel
theorem dX8_mostShown_48 : decode cX8_mostShown 48 = .ok (.iconst 1, 1) := by decide +kernel
theorem dX8_mostShown_49 : decode cX8_mostShown 49 = .ok (.if_icmp .ne 21, 3) := by decide +kernel
theorem dX8_mostShown_52 : decode cX8_mostShown 52 = .ok (.aload_n 0, 1) := by decide +kernel
theorem dX8_mostShown_53 : decode cX8_mostShown 53 = .ok (.getfield 18, 3) := by decide +kernel
theorem dX8_mostShown_56 : decode cX8_mostShown 56 = .ok (.iload_n 2, 1) := by decide +kernel
theorem dX8_mostShown_57 : decode cX8_mostShown 57 = .ok (.bipush 16, 2) := by decide +kernel
theorem dX8_mostShown_59 : decode cX8_mostShown 59 = .ok (.imul, 1) := by decide +kernel
theorem dX8_mostShown_60 : decode cX8_mostShown 60 = .ok (.iload_n 3, 1) := by decide +kernel
theorem dX8_mostShown_61 : decode cX8_mostShown 61 = .ok (.iadd, 1) := by decide +kernel
theorem dX8_mostShown_62 : decode cX8_mostShown 62 = .ok (.aload_n 0, 1) := by decide +kernel
theorem dX8_mostShown_63 : decode cX8_mostShown 63 = .ok (.iload_n 1, 1) := by decide +kernel
theorem dX8_mostShown_64 : decode cX8_mostShown 64 = .ok (.iload_n 2, 1) := by decide +kernel
theorem dX8_mostShown_65 : decode cX8_mostShown 65 = .ok (.iload_n 3, 1) := by decide +kernel
theorem dX8_mostShown_66 : decode cX8_mostShown 66 = .ok (.invokevirtual 33, 3) := by decide +kernel
theorem dX8_mostShown_69 : decode cX8_mostShown 69 = .ok (.iastore, 1) := by decide +kernel
theorem dX8_mostShown_70 : decode cX8_mostShown 70 = .ok (.iinc 3 (-1), 3) := by decide +kernel
theorem dX8_mostShown_73 : decode cX8_mostShown 73 = .ok (.goto (-47), 3) := by decide +kernel
theorem dX8_mostShown_76 : decode cX8_mostShown 76 = .ok (.iinc 2 (-1), 3) := by decide +kernel
theorem dX8_mostShown_79 : decode cX8_mostShown 79 = .ok (.goto (-68), 3) := by decide +kernel
theorem dX8_mostShown_82 : decode cX8_mostShown 82 = .ok (.aload_n 0, 1) := by decide +kernel
theorem dX8_mostShown_83 : decode cX8_mostShown 83 = .ok (.getfield 18, 3) := by decide +kernel
theorem dX8_mostShown_86 : decode cX8_mostShown 86 = .ok (.iconst 0, 1) := by decide +kernel
theorem dX8_mostShown_87 : decode cX8_mostShown 87 = .ok (.iaload, 1) := by decide +kernel
theorem dX8_mostShown_88 : decode cX8_mostShown 88 = .ok (.ireturn, 1) := by decide +kernel
theorem dX8_endBehind_0 : decode cX8_endBehind 0 = .ok (.iload_n 2, 1) := by decide +kernel
theorem dX8_endBehind_1 : decode cX8_endBehind 1 = .ok (.invokestatic 27, 3) := by decide +kernel
theorem dX8_endBehind_4 : decode cX8_endBehind 4 = .ok (.iload_n 3, 1) := by decide +kernel
theorem dX8_endBehind_5 : decode cX8_endBehind 5 = .ok (.invokestatic 27, 3) := by decide +kernel
theorem dX8_endBehind_8 : decode cX8_endBehind 8 = .ok (.iadd, 1) := by decide +kernel
theorem dX8_endBehind_9 : decode cX8_endBehind 9 = .ok (.istore 4, 2) := by decide +kernel
theorem dX8_endBehind_11 : decode cX8_endBehind 11 = .ok (.aload_n 0, 1) := by decide +kernel
theorem dX8_endBehind_12 : decode cX8_endBehind 12 = .ok (.iconst 0, 1) := by decide +kernel
theorem dX8_endBehind_13 : decode cX8_endBehind 13 = .ok (.iload_n 2, 1) := by decide +kernel
theorem dX8_endBehind_14 : decode cX8_endBehind 14 = .ok (.invokevirtual 37, 3) := by decide +kernel
theorem dX8_endBehind_17 : decode cX8_endBehind 17 = .ok (.aload_n 0, 1) := by decide +kernel
theorem dX8_endBehind_18 : decode cX8_endBehind 18 = .ok (.iconst 1, 1) := by decide +kernel
theorem dX8_endBehind_19 : decode cX8_endBehind 19 = .ok (.iload_n 3, 1) := by decide +kernel
theorem dX8_endBehind_20 : decode cX8_endBehind 20 = .ok (.invokevirtual 37, 3) := by decide +kernel
theorem dX8_endBehind_23 : decode cX8_endBehind 23 = .ok (.isub, 1) := by decide +kernel
theorem dX8_endBehind_24 : decode cX8_endBehind 24 = .ok (.iload_n 1, 1) := by decide +kernel
theorem dX8_endBehind_25 : decode cX8_endBehind 25 = .ok (.if_icmp .lt 6, 3) := by decide +kernel
theorem dX8_endBehind_28 : decode cX8_endBehind 28 = .ok (.iload 4, 2) := by decide +kernel
theorem dX8_endBehind_30 : decode cX8_endBehind 30 = .ok (.ireturn, 1) := by decide +kernel
theorem dX8_endBehind_31 : decode cX8_endBehind 31 = .ok (.iload 4, 2) := by decide +kernel
theorem dX8_endBehind_33 : decode cX8_endBehind 33 = .ok (.iconst 2, 1) := by decide +kernel
theorem dX8_endBehind_34 : decode cX8_endBehind 34 = .ok (.irem, 1) := by decide +kernel
theorem dX8_endBehind_35 : decode cX8_endBehind 35 = .ok (.iconst 1, 1) := by decide +kernel
theorem dX8_endBehind_36 : decode cX8_endBehind 36 = .ok (.if_icmp .ne 7, 3) := by decide +kernel
theorem dX8_endBehind_39 : decode cX8_endBehind 39 = .ok (.iconst 1, 1) := by decide +kernel
theorem dX8_endBehind_40 : decode cX8_endBehind 40 = .ok (.goto 4, 3) := by decide +kernel
theorem dX8_endBehind_43 : decode cX8_endBehind 43 = .ok (.iconst 0, 1) := by decide +kernel
theorem dX8_endBehind_44 : decode cX8_endBehind 44 = .ok (.istore 5, 2) := by decide +kernel
theorem dX8_endBehind_46 : decode cX8_endBehind 46 = .ok (.iload 5, 2) := by decide +kernel
theorem dX8_endBehind_48 : decode cX8_endBehind 48 = .ok (.ifCond .eq 7, 3) := by decide +kernel
theorem dX8_endBehind_51 : decode cX8_endBehind 51 = .ok (.iconst 1, 1) := by decide +kernel
theorem dX8_endBehind_52 : decode cX8_endBehind 52 = .ok (.goto 4, 3) := by decide +kernel
theorem dX8_endBehind_55 : decode cX8_endBehind 55 = .ok (.iconst 0, 1) := by decide +kernel
theorem dX8_endBehind_56 : decode cX8_endBehind 56 = .ok (.istore 6, 2) := by decide +kernel
theorem dX8_endBehind_58 : decode cX8_endBehind 58 = .ok (.iconst (-1), 1) := by decide +kernel
theorem dX8_endBehind_59 : decode cX8_endBehind 59 = .ok (.istore 7, 2) := by decide +kernel
theorem dX8_endBehind_61 : decode cX8_endBehind 61 = .ok (.iconst 0, 1) := by decide +kernel
theorem dX8_endBehind_62 : decode cX8_endBehind 62 = .ok (.istore 8, 2) := by decide +kernel
theorem dX8_endBehind_64 : decode cX8_endBehind 64 = .ok (.iload 8, 2) := by decide +kernel
theorem dX8_endBehind_66 : decode cX8_endBehind 66 = .ok (.aload_n 0, 1) := by decide +kernel
theorem dX8_endBehind_67 : decode cX8_endBehind 67 = .ok (.getfield 15, 3) := by decide +kernel
theorem dX8_endBehind_70 : decode cX8_endBehind 70 = .ok (.iload 6, 2) := by decide +kernel
theorem dX8_endBehind_72 : decode cX8_endBehind 72 = .ok (.iaload, 1) := by decide +kernel
theorem dX8_endBehind_73 : decode cX8_endBehind 73 = .ok (.if_icmp .ge 123, 3) := by decide +kernel
theorem dX8_endBehind_76 : decode cX8_endBehind 76 = .ok (.iload 5, 2) := by decide +kernel
theorem dX8_endBehind_78 : decode cX8_endBehind 78 = .ok (.ifCond .eq 17, 3) := by decide +kernel
theorem dX8_endBehind_81 : decode cX8_endBehind 81 = .ok (.iload_n 2, 1) := by decide +kernel
theorem dX8_endBehind_82 : decode cX8_endBehind 82 = .ok (.bipush 16, 2) := by decide +kernel
theorem dX8_endBehind_84 : decode cX8_endBehind 84 = .ok (.imul, 1) := by decide +kernel
theorem dX8_endBehind_85 : decode cX8_endBehind 85 = .ok (.iload_n 3, 1) := by decide +kernel
theorem dX8_endBehind_86 : decode cX8_endBehind 86 = .ok (.iconst 1, 1) := by decide +kernel
theorem dX8_endBehind_87 : decode cX8_endBehind 87 = .ok (.iload 8, 2) := by decide +kernel
theorem dX8_endBehind_89 : decode cX8_endBehind 89 = .ok (.ishl, 1) := by decide +kernel
theorem dX8_endBehind_90 : decode cX8_endBehind 90 = .ok (.ior, 1) := by decide +kernel
theorem dX8_endBehind_91 : decode cX8_endBehind 91 = .ok (.iadd, 1) := by decide +kernel
theorem dX8_endBehind_92 : decode cX8_endBehind 92 = .ok (.goto 14, 3) := by decide +kernel
theorem dX8_endBehind_95 : decode cX8_endBehind 95 = .ok (.iload_n 2, 1) := by decide +kernel
theorem dX8_endBehind_96 : decode cX8_endBehind 96 = .ok (.iconst 1, 1) := by decide +kernel
theorem dX8_endBehind_97 : decode cX8_endBehind 97 = .ok (.iload 8, 2) := by decide +kernel
theorem dX8_endBehind_99 : decode cX8_endBehind 99 = .ok (.ishl, 1) := by decide +kernel
theorem dX8_endBehind_100 : decode cX8_endBehind 100 = .ok (.ior, 1) := by decide +kernel
theorem dX8_endBehind_101 : decode cX8_endBehind 101 = .ok (.bipush 16, 2) := by decide +kernel
theorem dX8_endBehind_103 : decode cX8_endBehind 103 = .ok (.imul, 1) := by decide +kernel
theorem dX8_endBehind_104 : decode cX8_endBehind 104 = .ok (.iload_n 3, 1) := by decide +kernel
theorem dX8_endBehind_105 : decode cX8_endBehind 105 = .ok (.iadd, 1) := by decide +kernel
theorem dX8_endBehind_106 : decode cX8_endBehind 106 = .ok (.istore 9, 2) := by decide +kernel
theorem dX8_endBehind_108 : decode cX8_endBehind 108 = .ok (.iload 9, 2) := by decide +kernel
theorem dX8_endBehind_110 : decode cX8_endBehind 110 = .ok (.iload_n 2, 1) := by decide +kernel
theorem dX8_endBehind_111 : decode cX8_endBehind 111 = .ok (.bipush 16, 2) := by decide +kernel
theorem dX8_endBehind_113 : decode cX8_endBehind 113 = .ok (.imul, 1) := by decide +kernel
theorem dX8_endBehind_114 : decode cX8_endBehind 114 = .ok (.iload_n 3, 1) := by decide +kernel
theorem dX8_endBehind_115 : decode cX8_endBehind 115 = .ok (.iadd, 1) := by decide +kernel
theorem dX8_endBehind_116 : decode cX8_endBehind 116 = .ok (.if_icmp .eq 7, 3) := by decide +kernel
theorem dX8_endBehind_119 : decode cX8_endBehind 119 = .ok (.iconst 1, 1) := by decide +kernel
theorem dX8_endBehind_120 : decode cX8_endBehind 120 = .ok (.goto 4, 3) := by decide +kernel
theorem dX8_endBehind_123 : decode cX8_endBehind 123 = .ok (.iconst 0, 1) := by decide +kernel
theorem dX8_endBehind_124 : decode cX8_endBehind 124 = .ok (.istore 10, 2) := by decide +kernel
theorem dX8_endBehind_126 : decode cX8_endBehind 126 = .ok (.iload 7, 2) := by decide +kernel
theorem dX8_endBehind_128 : decode cX8_endBehind 128 = .ok (.iconst (-1), 1) := by decide +kernel
theorem dX8_endBehind_129 : decode cX8_endBehind 129 = .ok (.if_icmp .eq 35, 3) := by decide +kernel
theorem dX8_endBehind_132 : decode cX8_endBehind 132 = .ok (.iload 5, 2) := by decide +kernel
theorem dX8_endBehind_134 : decode cX8_endBehind 134 = .ok (.ifCond .eq 18, 3) := by decide +kernel
theorem dX8_endBehind_137 : decode cX8_endBehind 137 = .ok (.aload_n 0, 1) := by decide +kernel
theorem dX8_endBehind_138 : decode cX8_endBehind 138 = .ok (.getfield 18, 3) := by decide +kernel
theorem dX8_endBehind_141 : decode cX8_endBehind 141 = .ok (.iload 9, 2) := by decide +kernel
theorem dX8_endBehind_143 : decode cX8_endBehind 143 = .ok (.iaload, 1) := by decide +kernel
theorem dX8_endBehind_144 : decode cX8_endBehind 144 = .ok (.iload 7, 2) := by decide +kernel
theorem dX8_endBehind_146 : decode cX8_endBehind 146 = .ok (.if_icmp .le 22, 3) := by decide +kernel
theorem dX8_endBehind_149 : decode cX8_endBehind 149 = .ok (.goto 15, 3) := by decide +kernel
theorem dX8_endBehind_152 : decode cX8_endBehind 152 = .ok (.aload_n 0, 1) := by decide +kernel
theorem dX8_endBehind_153 : decode cX8_endBehind 153 = .ok (.getfield 18, 3) := by decide +kernel
theorem dX8_endBehind_156 : decode cX8_endBehind 156 = .ok (.iload 9, 2) := by decide +kernel
theorem dX8_endBehind_158 : decode cX8_endBehind 158 = .ok (.iaload, 1) := by decide +kernel
theorem dX8_endBehind_159 : decode cX8_endBehind 159 = .ok (.iload 7, 2) := by decide +kernel
theorem dX8_endBehind_161 : decode cX8_endBehind 161 = .ok (.if_icmp .ge 7, 3) := by decide +kernel
theorem dX8_endBehind_164 : decode cX8_endBehind 164 = .ok (.iconst 1, 1) := by decide +kernel
theorem dX8_endBehind_165 : decode cX8_endBehind 165 = .ok (.goto 4, 3) := by decide +kernel
theorem dX8_endBehind_168 : decode cX8_endBehind 168 = .ok (.iconst 0, 1) := by decide +kernel
theorem dX8_endBehind_169 : decode cX8_endBehind 169 = .ok (.istore 11, 2) := by decide +kernel
theorem dX8_endBehind_171 : decode cX8_endBehind 171 = .ok (.iload 10, 2) := by decide +kernel
theorem dX8_endBehind_173 : decode cX8_endBehind 173 = .ok (.ifCond .eq 17, 3) := by decide +kernel
theorem dX8_endBehind_176 : decode cX8_endBehind 176 = .ok (.iload 11, 2) := by decide +kernel
theorem dX8_endBehind_178 : decode cX8_endBehind 178 = .ok (.ifCond .eq 12, 3) := by decide +kernel
theorem dX8_endBehind_181 : decode cX8_endBehind 181 = .ok (.aload_n 0, 1) := by decide +kernel
theorem dX8_endBehind_182 : decode cX8_endBehind 182 = .ok (.getfield 18, 3) := by decide +kernel
theorem dX8_endBehind_185 : decode cX8_endBehind 185 = .ok (.iload 9, 2) := by decide +kernel
theorem dX8_endBehind_187 : decode cX8_endBehind 187 = .ok (.iaload, 1) := by decide +kernel
theorem dX8_endBehind_188 : decode cX8_endBehind 188 = .ok (.istore 7, 2) := by decide +kernel
theorem dX8_endBehind_190 : decode cX8_endBehind 190 = .ok (.iinc 8 1, 3) := by decide +kernel
theorem dX8_endBehind_193 : decode cX8_endBehind 193 = .ok (.goto (-129), 3) := by decide +kernel
theorem dX8_endBehind_196 : decode cX8_endBehind 196 = .ok (.iload 7, 2) := by decide +kernel
theorem dX8_endBehind_198 : decode cX8_endBehind 198 = .ok (.iconst (-1), 1) := by decide +kernel
theorem dX8_endBehind_199 : decode cX8_endBehind 199 = .ok (.if_icmp .ne 8, 3) := by decide +kernel
theorem dX8_endBehind_202 : decode cX8_endBehind 202 = .ok (.iload 4, 2) := by decide +kernel
theorem dX8_endBehind_204 : decode cX8_endBehind 204 = .ok (.goto 5, 3) := by decide +kernel
theorem dX8_endBehind_207 : decode cX8_endBehind 207 = .ok (.iload 7, 2) := by decide +kernel
theorem dX8_endBehind_209 : decode cX8_endBehind 209 = .ok (.ireturn, 1) := by decide +kernel
theorem dX8_weight_0 : decode cX8_weight 0 = .ok (.iconst 0, 1) := by decide +kernel
theorem dX8_weight_1 : decode cX8_weight 1 = .ok (.istore_n 3, 1) := by decide +kernel
theorem dX8_weight_2 : decode cX8_weight 2 = .ok (.iconst 0, 1) := by decide +kernel
theorem dX8_weight_3 : decode cX8_weight 3 = .ok (.istore 4, 2) := by decide +kernel
theorem dX8_weight_5 : decode cX8_weight 5 = .ok (.iload 4, 2) := by decide +kernel
theorem dX8_weight_7 : decode cX8_weight 7 = .ok (.aload_n 0, 1) := by decide +kernel
theorem dX8_weight_8 : decode cX8_weight 8 = .ok (.getfield 15, 3) := by decide +kernel
theorem dX8_weight_11 : decode cX8_weight 11 = .ok (.iload_n 1, 1) := by decide +kernel
theorem dX8_weight_12 : decode cX8_weight 12 = .ok (.iaload, 1) := by decide +kernel
theorem dX8_weight_13 : decode cX8_weight 13 = .ok (.if_icmp .ge 36, 3) := by decide +kernel
theorem dX8_weight_16 : decode cX8_weight 16 = .ok (.iload_n 3, 1) := by decide +kernel
theorem dX8_weight_17 : decode cX8_weight 17 = .ok (.iload_n 2, 1) := by decide +kernel
theorem dX8_weight_18 : decode cX8_weight 18 = .ok (.iload 4, 2) := by decide +kernel
theorem dX8_weight_20 : decode cX8_weight 20 = .ok (.invokestatic 41, 3) := by decide +kernel
theorem dX8_weight_23 : decode cX8_weight 23 = .ok (.ifCond .eq 17, 3) := by decide +kernel
theorem dX8_weight_26 : decode cX8_weight 26 = .ok (.aload_n 0, 1) := by decide +kernel
theorem dX8_weight_27 : decode cX8_weight 27 = .ok (.getfield 11, 3) := by decide +kernel
theorem dX8_weight_30 : decode cX8_weight 30 = .ok (.iload_n 1, 1) := by decide +kernel
theorem dX8_weight_31 : decode cX8_weight 31 = .ok (.iconst 4, 1) := by decide +kernel
theorem dX8_weight_32 : decode cX8_weight 32 = .ok (.imul, 1) := by decide +kernel
theorem dX8_weight_33 : decode cX8_weight 33 = .ok (.iload 4, 2) := by decide +kernel
theorem dX8_weight_35 : decode cX8_weight 35 = .ok (.iadd, 1) := by decide +kernel
theorem dX8_weight_36 : decode cX8_weight 36 = .ok (.iaload, 1) := by decide +kernel
theorem dX8_weight_37 : decode cX8_weight 37 = .ok (.goto 4, 3) := by decide +kernel
theorem dX8_weight_40 : decode cX8_weight 40 = .ok (.iconst 0, 1) := by decide +kernel
theorem dX8_weight_41 : decode cX8_weight 41 = .ok (.iadd, 1) := by decide +kernel
theorem dX8_weight_42 : decode cX8_weight 42 = .ok (.istore_n 3, 1) := by decide +kernel
theorem dX8_weight_43 : decode cX8_weight 43 = .ok (.iinc 4 1, 3) := by decide +kernel
theorem dX8_weight_46 : decode cX8_weight 46 = .ok (.goto (-41), 3) := by decide +kernel
theorem dX8_weight_49 : decode cX8_weight 49 = .ok (.iload_n 3, 1) := by decide +kernel
theorem dX8_weight_50 : decode cX8_weight 50 = .ok (.ireturn, 1) := by decide +kernel
theorem dX8_firstCharge_0 : decode cX8_firstCharge 0 = .ok (.iconst 0, 1) := by decide +kernel
theorem dX8_firstCharge_1 : decode cX8_firstCharge 1 = .ok (.istore_n 1, 1) := by decide +kernel
theorem dX8_firstCharge_2 : decode cX8_firstCharge 2 = .ok (.iload_n 1, 1) := by decide +kernel
theorem dX8_firstCharge_3 : decode cX8_firstCharge 3 = .ok (.aload_n 0, 1) := by decide +kernel
theorem dX8_firstCharge_4 : decode cX8_firstCharge 4 = .ok (.getfield 15, 3) := by decide +kernel
theorem dX8_firstCharge_7 : decode cX8_firstCharge 7 = .ok (.iconst 0, 1) := by decide +kernel
theorem dX8_firstCharge_8 : decode cX8_firstCharge 8 = .ok (.iaload, 1) := by decide +kernel
theorem dX8_firstCharge_9 : decode cX8_firstCharge 9 = .ok (.if_icmp .ge 31, 3) := by decide +kernel
theorem dX8_firstCharge_12 : decode cX8_firstCharge 12 = .ok (.aload_n 0, 1) := by decide +kernel
theorem dX8_firstCharge_13 : decode cX8_firstCharge 13 = .ok (.getfield 18, 3) := by decide +kernel
theorem dX8_firstCharge_16 : decode cX8_firstCharge 16 = .ok (.iconst 1, 1) := by decide +kernel
theorem dX8_firstCharge_17 : decode cX8_firstCharge 17 = .ok (.iload_n 1, 1) := by decide +kernel
theorem dX8_firstCharge_18 : decode cX8_firstCharge 18 = .ok (.ishl, 1) := by decide +kernel
theorem dX8_firstCharge_19 : decode cX8_firstCharge 19 = .ok (.bipush 16, 2) := by decide +kernel
theorem dX8_firstCharge_21 : decode cX8_firstCharge 21 = .ok (.imul, 1) := by decide +kernel
theorem dX8_firstCharge_22 : decode cX8_firstCharge 22 = .ok (.iaload, 1) := by decide +kernel
theorem dX8_firstCharge_23 : decode cX8_firstCharge 23 = .ok (.aload_n 0, 1) := by decide +kernel
theorem dX8_firstCharge_24 : decode cX8_firstCharge 24 = .ok (.getfield 18, 3) := by decide +kernel
theorem dX8_firstCharge_27 : decode cX8_firstCharge 27 = .ok (.iconst 0, 1) := by decide +kernel
theorem dX8_firstCharge_28 : decode cX8_firstCharge 28 = .ok (.iaload, 1) := by decide +kernel
theorem dX8_firstCharge_29 : decode cX8_firstCharge 29 = .ok (.if_icmp .ne 5, 3) := by decide +kernel
theorem dX8_firstCharge_32 : decode cX8_firstCharge 32 = .ok (.iload_n 1, 1) := by decide +kernel
theorem dX8_firstCharge_33 : decode cX8_firstCharge 33 = .ok (.ireturn, 1) := by decide +kernel
theorem dX8_firstCharge_34 : decode cX8_firstCharge 34 = .ok (.iinc 1 1, 3) := by decide +kernel
theorem dX8_firstCharge_37 : decode cX8_firstCharge 37 = .ok (.goto (-35), 3) := by decide +kernel
theorem dX8_firstCharge_40 : decode cX8_firstCharge 40 = .ok (.iconst (-1), 1) := by decide +kernel
theorem dX8_firstCharge_41 : decode cX8_firstCharge 41 = .ok (.ireturn, 1) := by decide +kernel
theorem dX8_mixed_0 : decode cX8_mixed 0 = .ok (.lload_n 1, 1) := by decide +kernel
theorem dX8_mixed_1 : decode cX8_mixed 1 = .ok (.lstore_n 3, 1) := by decide +kernel
theorem dX8_mixed_2 : decode cX8_mixed 2 = .ok (.iconst 0, 1) := by decide +kernel
theorem dX8_mixed_3 : decode cX8_mixed 3 = .ok (.istore 5, 2) := by decide +kernel
theorem dX8_mixed_5 : decode cX8_mixed 5 = .ok (.iload 5, 2) := by decide +kernel
theorem dX8_mixed_7 : decode cX8_mixed 7 = .ok (.iconst 1, 1) := by decide +kernel
theorem dX8_mixed_8 : decode cX8_mixed 8 = .ok (.if_icmp .gt 50, 3) := by decide +kernel
theorem dX8_mixed_11 : decode cX8_mixed 11 = .ok (.iconst 0, 1) := by decide +kernel
theorem dX8_mixed_12 : decode cX8_mixed 12 = .ok (.istore 6, 2) := by decide +kernel
theorem dX8_mixed_14 : decode cX8_mixed 14 = .ok (.iload 6, 2) := by decide +kernel
theorem dX8_mixed_16 : decode cX8_mixed 16 = .ok (.aload_n 0, 1) := by decide +kernel
theorem dX8_mixed_17 : decode cX8_mixed 17 = .ok (.getfield 15, 3) := by decide +kernel
theorem dX8_mixed_20 : decode cX8_mixed 20 = .ok (.iload 5, 2) := by decide +kernel
theorem dX8_mixed_22 : decode cX8_mixed 22 = .ok (.iaload, 1) := by decide +kernel
theorem dX8_mixed_23 : decode cX8_mixed 23 = .ok (.if_icmp .ge 29, 3) := by decide +kernel
theorem dX8_mixed_26 : decode cX8_mixed 26 = .ok (.ldc2_w 45, 3) := by decide +kernel
theorem dX8_mixed_29 : decode cX8_mixed 29 = .ok (.lload_n 3, 1) := by decide +kernel
theorem dX8_mixed_30 : decode cX8_mixed 30 = .ok (.lmul, 1) := by decide +kernel
theorem dX8_mixed_31 : decode cX8_mixed 31 = .ok (.aload_n 0, 1) := by decide +kernel
theorem dX8_mixed_32 : decode cX8_mixed 32 = .ok (.getfield 11, 3) := by decide +kernel
theorem dX8_mixed_35 : decode cX8_mixed 35 = .ok (.iload 5, 2) := by decide +kernel
theorem dX8_mixed_37 : decode cX8_mixed 37 = .ok (.iconst 4, 1) := by decide +kernel
theorem dX8_mixed_38 : decode cX8_mixed 38 = .ok (.imul, 1) := by decide +kernel
theorem dX8_mixed_39 : decode cX8_mixed 39 = .ok (.iload 6, 2) := by decide +kernel
theorem dX8_mixed_41 : decode cX8_mixed 41 = .ok (.iadd, 1) := by decide +kernel
theorem dX8_mixed_42 : decode cX8_mixed 42 = .ok (.iaload, 1) := by decide +kernel
theorem dX8_mixed_43 : decode cX8_mixed 43 = .ok (.i2l, 1) := by decide +kernel
theorem dX8_mixed_44 : decode cX8_mixed 44 = .ok (.ladd, 1) := by decide +kernel
theorem dX8_mixed_45 : decode cX8_mixed 45 = .ok (.lstore_n 3, 1) := by decide +kernel
theorem dX8_mixed_46 : decode cX8_mixed 46 = .ok (.iinc 6 1, 3) := by decide +kernel
theorem dX8_mixed_49 : decode cX8_mixed 49 = .ok (.goto (-35), 3) := by decide +kernel
theorem dX8_mixed_52 : decode cX8_mixed 52 = .ok (.iinc 5 1, 3) := by decide +kernel
theorem dX8_mixed_55 : decode cX8_mixed 55 = .ok (.goto (-50), 3) := by decide +kernel
theorem dX8_mixed_58 : decode cX8_mixed 58 = .ok (.lload_n 3, 1) := by decide +kernel
theorem dX8_mixed_59 : decode cX8_mixed 59 = .ok (.lreturn, 1) := by decide +kernel
theorem dX9_init_0 : decode cX9_init 0 = .ok (.aload_n 0, 1) := by decide +kernel
theorem dX9_init_1 : decode cX9_init 1 = .ok (.invokespecial 1, 3) := by decide +kernel
theorem dX9_init_4 : decode cX9_init 4 = .ok (.return_, 1) := by decide +kernel
theorem dX9_picks_0 : decode cX9_picks 0 = .ok (.iload_n 1, 1) := by decide +kernel
theorem dX9_picks_1 : decode cX9_picks 1 = .ok (.iconst 3, 1) := by decide +kernel
theorem dX9_picks_2 : decode cX9_picks 2 = .ok (.irem, 1) := by decide +kernel
theorem dX9_picks_3 : decode cX9_picks 3 = .ok (.iconst 2, 1) := by decide +kernel
theorem dX9_picks_4 : decode cX9_picks 4 = .ok (.if_icmp .ne 7, 3) := by decide +kernel
theorem dX9_picks_7 : decode cX9_picks 7 = .ok (.iconst 0, 1) := by decide +kernel
theorem dX9_picks_8 : decode cX9_picks 8 = .ok (.goto 8, 3) := by decide +kernel
theorem dX9_picks_11 : decode cX9_picks 11 = .ok (.aload_n 0, 1) := by decide +kernel
theorem dX9_picks_12 : decode cX9_picks 12 = .ok (.iload_n 1, 1) := by decide +kernel
theorem dX9_picks_13 : decode cX9_picks 13 = .ok (.invokespecial 7, 3) := by decide +kernel
theorem dX9_picks_16 : decode cX9_picks 16 = .ok (.ireturn, 1) := by decide +kernel
theorem dX10_init_0 : decode cX10_init 0 = .ok (.aload_n 0, 1) := by decide +kernel
theorem dX10_init_1 : decode cX10_init 1 = .ok (.invokespecial 1, 3) := by decide +kernel
theorem dX10_init_4 : decode cX10_init 4 = .ok (.return_, 1) := by decide +kernel
theorem dX10_picks_0 : decode cX10_picks 0 = .ok (.aload_n 0, 1) := by decide +kernel
theorem dX10_picks_1 : decode cX10_picks 1 = .ok (.iload_n 1, 1) := by decide +kernel
theorem dX10_picks_2 : decode cX10_picks 2 = .ok (.invokespecial 7, 3) := by decide +kernel
theorem dX10_picks_5 : decode cX10_picks 5 = .ok (.iconst 2, 1) := by decide +kernel
theorem dX10_picks_6 : decode cX10_picks 6 = .ok (.idiv, 1) := by decide +kernel
theorem dX10_picks_7 : decode cX10_picks 7 = .ok (.ireturn, 1) := by decide +kernel
theorem dX10_grows_0 : decode cX10_grows 0 = .ok (.aload_n 0, 1) := by decide +kernel
theorem dX10_grows_1 : decode cX10_grows 1 = .ok (.iload_n 1, 1) := by decide +kernel
theorem dX10_grows_2 : decode cX10_grows 2 = .ok (.invokespecial 11, 3) := by decide +kernel
theorem dX10_grows_5 : decode cX10_grows 5 = .ok (.iconst 1, 1) := by decide +kernel
theorem dX10_grows_6 : decode cX10_grows 6 = .ok (.iadd, 1) := by decide +kernel
theorem dX10_grows_7 : decode cX10_grows 7 = .ok (.ireturn, 1) := by decide +kernel
theorem dJ0_length_8abf5_0 : decode cJ0_length_8abf5 0 = .ok (.aload_n 0, 1) := by decide +kernel
theorem dJ0_length_8abf5_1 : decode cJ0_length_8abf5 1 = .ok (.getfield 9, 3) := by decide +kernel
theorem dJ0_length_8abf5_4 : decode cJ0_length_8abf5 4 = .ok (.arraylength, 1) := by decide +kernel
theorem dJ0_length_8abf5_5 : decode cJ0_length_8abf5 5 = .ok (.aload_n 0, 1) := by decide +kernel
theorem dJ0_length_8abf5_6 : decode cJ0_length_8abf5 6 = .ok (.invokevirtual 335, 3) := by decide +kernel
theorem dJ0_length_8abf5_9 : decode cJ0_length_8abf5 9 = .ok (.ishr, 1) := by decide +kernel
theorem dJ0_length_8abf5_10 : decode cJ0_length_8abf5 10 = .ok (.ireturn, 1) := by decide +kernel
theorem dJ0_charAt_5068e_0 : decode cJ0_charAt_5068e 0 = .ok (.aload_n 0, 1) := by decide +kernel
theorem dJ0_charAt_5068e_1 : decode cJ0_charAt_5068e 1 = .ok (.invokevirtual 492, 3) := by decide +kernel
theorem dJ0_charAt_5068e_4 : decode cJ0_charAt_5068e 4 = .ok (.ifCond .eq 12, 3) := by decide +kernel
theorem dJ0_charAt_5068e_7 : decode cJ0_charAt_5068e 7 = .ok (.aload_n 0, 1) := by decide +kernel
theorem dJ0_charAt_5068e_8 : decode cJ0_charAt_5068e 8 = .ok (.getfield 9, 3) := by decide +kernel
theorem dJ0_charAt_5068e_11 : decode cJ0_charAt_5068e 11 = .ok (.iload_n 1, 1) := by decide +kernel
theorem dJ0_charAt_5068e_12 : decode cJ0_charAt_5068e 12 = .ok (.invokestatic 495, 3) := by decide +kernel
theorem dJ0_charAt_5068e_15 : decode cJ0_charAt_5068e 15 = .ok (.ireturn, 1) := by decide +kernel
theorem dJ0_charAt_5068e_16 : decode cJ0_charAt_5068e 16 = .ok (.aload_n 0, 1) := by decide +kernel
theorem dJ0_charAt_5068e_17 : decode cJ0_charAt_5068e 17 = .ok (.getfield 9, 3) := by decide +kernel
theorem dJ0_charAt_5068e_20 : decode cJ0_charAt_5068e 20 = .ok (.iload_n 1, 1) := by decide +kernel
theorem dJ0_charAt_5068e_21 : decode cJ0_charAt_5068e 21 = .ok (.invokestatic 498, 3) := by decide +kernel
theorem dJ0_charAt_5068e_24 : decode cJ0_charAt_5068e 24 = .ok (.ireturn, 1) := by decide +kernel
theorem dJ0_coder_7d493_0 : decode cJ0_coder_7d493 0 = .ok (.getstatic 38, 3) := by decide +kernel
theorem dJ0_coder_7d493_3 : decode cJ0_coder_7d493 3 = .ok (.ifCond .eq 10, 3) := by decide +kernel
theorem dJ0_coder_7d493_6 : decode cJ0_coder_7d493 6 = .ok (.aload_n 0, 1) := by decide +kernel
theorem dJ0_coder_7d493_7 : decode cJ0_coder_7d493 7 = .ok (.getfield 15, 3) := by decide +kernel
theorem dJ0_coder_7d493_10 : decode cJ0_coder_7d493 10 = .ok (.goto 4, 3) := by decide +kernel
theorem dJ0_coder_7d493_13 : decode cJ0_coder_7d493 13 = .ok (.iconst 1, 1) := by decide +kernel
theorem dJ0_coder_7d493_14 : decode cJ0_coder_7d493 14 = .ok (.ireturn, 1) := by decide +kernel
theorem dJ0_isLatin1_aae02_0 : decode cJ0_isLatin1_aae02 0 = .ok (.getstatic 38, 3) := by decide +kernel
theorem dJ0_isLatin1_aae02_3 : decode cJ0_isLatin1_aae02 3 = .ok (.ifCond .eq 14, 3) := by decide +kernel
theorem dJ0_isLatin1_aae02_6 : decode cJ0_isLatin1_aae02 6 = .ok (.aload_n 0, 1) := by decide +kernel
theorem dJ0_isLatin1_aae02_7 : decode cJ0_isLatin1_aae02 7 = .ok (.getfield 15, 3) := by decide +kernel
theorem dJ0_isLatin1_aae02_10 : decode cJ0_isLatin1_aae02 10 = .ok (.ifCond .ne 7, 3) := by decide +kernel
theorem dJ0_isLatin1_aae02_13 : decode cJ0_isLatin1_aae02 13 = .ok (.iconst 1, 1) := by decide +kernel
theorem dJ0_isLatin1_aae02_14 : decode cJ0_isLatin1_aae02 14 = .ok (.goto 4, 3) := by decide +kernel
theorem dJ0_isLatin1_aae02_17 : decode cJ0_isLatin1_aae02 17 = .ok (.iconst 0, 1) := by decide +kernel
theorem dJ0_isLatin1_aae02_18 : decode cJ0_isLatin1_aae02 18 = .ok (.ireturn, 1) := by decide +kernel
theorem dJ0_checkIndex_df160_0 : decode cJ0_checkIndex_df160 0 = .ok (.iload_n 0, 1) := by decide +kernel
theorem dJ0_checkIndex_df160_1 : decode cJ0_checkIndex_df160 1 = .ok (.iload_n 1, 1) := by decide +kernel
theorem dJ0_checkIndex_df160_2 : decode cJ0_checkIndex_df160 2 = .ok (.getstatic 1053, 3) := by decide +kernel
theorem dJ0_checkIndex_df160_5 : decode cJ0_checkIndex_df160 5 = .ok (.invokestatic 1059, 3) := by decide +kernel
theorem dJ0_checkIndex_df160_8 : decode cJ0_checkIndex_df160 8 = .ok (.pop, 1) := by decide +kernel
theorem dJ0_checkIndex_df160_9 : decode cJ0_checkIndex_df160 9 = .ok (.return_, 1) := by decide +kernel
theorem dJ1_charAt_3b067_0 : decode cJ1_charAt_3b067 0 = .ok (.iload_n 1, 1) := by decide +kernel
theorem dJ1_charAt_3b067_1 : decode cJ1_charAt_3b067 1 = .ok (.aload_n 0, 1) := by decide +kernel
theorem dJ1_charAt_3b067_2 : decode cJ1_charAt_3b067 2 = .ok (.arraylength, 1) := by decide +kernel
theorem dJ1_charAt_3b067_3 : decode cJ1_charAt_3b067 3 = .ok (.invokestatic 9, 3) := by decide +kernel
theorem dJ1_charAt_3b067_6 : decode cJ1_charAt_3b067 6 = .ok (.aload_n 0, 1) := by decide +kernel
theorem dJ1_charAt_3b067_7 : decode cJ1_charAt_3b067 7 = .ok (.iload_n 1, 1) := by decide +kernel
theorem dJ1_charAt_3b067_8 : decode cJ1_charAt_3b067 8 = .ok (.baload, 1) := by decide +kernel
theorem dJ1_charAt_3b067_9 : decode cJ1_charAt_3b067 9 = .ok (.sipush 255, 3) := by decide +kernel
theorem dJ1_charAt_3b067_12 : decode cJ1_charAt_3b067 12 = .ok (.iand, 1) := by decide +kernel
theorem dJ1_charAt_3b067_13 : decode cJ1_charAt_3b067 13 = .ok (.i2c, 1) := by decide +kernel
theorem dJ1_charAt_3b067_14 : decode cJ1_charAt_3b067 14 = .ok (.ireturn, 1) := by decide +kernel
theorem dJ3_checkIndex_8e157_0 : decode cJ3_checkIndex_8e157 0 = .ok (.iload_n 0, 1) := by decide +kernel
theorem dJ3_checkIndex_8e157_1 : decode cJ3_checkIndex_8e157 1 = .ok (.ifCond .lt 8, 3) := by decide +kernel
theorem dJ3_checkIndex_8e157_4 : decode cJ3_checkIndex_8e157 4 = .ok (.iload_n 0, 1) := by decide +kernel
theorem dJ3_checkIndex_8e157_5 : decode cJ3_checkIndex_8e157 5 = .ok (.iload_n 1, 1) := by decide +kernel
theorem dJ3_checkIndex_8e157_6 : decode cJ3_checkIndex_8e157 6 = .ok (.if_icmp .lt 10, 3) := by decide +kernel
theorem dJ3_checkIndex_8e157_9 : decode cJ3_checkIndex_8e157 9 = .ok (.aload_n 2, 1) := by decide +kernel
theorem dJ3_checkIndex_8e157_10 : decode cJ3_checkIndex_8e157 10 = .ok (.iload_n 0, 1) := by decide +kernel
theorem dJ3_checkIndex_8e157_11 : decode cJ3_checkIndex_8e157 11 = .ok (.iload_n 1, 1) := by decide +kernel
theorem dJ3_checkIndex_8e157_12 : decode cJ3_checkIndex_8e157 12 = .ok (.invokestatic 95, 3) := by decide +kernel
theorem dJ3_checkIndex_8e157_15 : decode cJ3_checkIndex_8e157 15 = .ok (.athrow, 1) := by decide +kernel
theorem dJ3_checkIndex_8e157_16 : decode cJ3_checkIndex_8e157 16 = .ok (.iload_n 0, 1) := by decide +kernel
theorem dJ3_checkIndex_8e157_17 : decode cJ3_checkIndex_8e157 17 = .ok (.ireturn, 1) := by decide +kernel
theorem dJ6_bitCount_0f7a4_0 : decode cJ6_bitCount_0f7a4 0 = .ok (.iload_n 0, 1) := by decide +kernel
theorem dJ6_bitCount_0f7a4_1 : decode cJ6_bitCount_0f7a4 1 = .ok (.iload_n 0, 1) := by decide +kernel
theorem dJ6_bitCount_0f7a4_2 : decode cJ6_bitCount_0f7a4 2 = .ok (.iconst 1, 1) := by decide +kernel
theorem dJ6_bitCount_0f7a4_3 : decode cJ6_bitCount_0f7a4 3 = .ok (.iushr, 1) := by decide +kernel
theorem dJ6_bitCount_0f7a4_4 : decode cJ6_bitCount_0f7a4 4 = .ok (.ldc_w 265, 3) := by decide +kernel
theorem dJ6_bitCount_0f7a4_7 : decode cJ6_bitCount_0f7a4 7 = .ok (.iand, 1) := by decide +kernel
theorem dJ6_bitCount_0f7a4_8 : decode cJ6_bitCount_0f7a4 8 = .ok (.isub, 1) := by decide +kernel
theorem dJ6_bitCount_0f7a4_9 : decode cJ6_bitCount_0f7a4 9 = .ok (.istore_n 0, 1) := by decide +kernel
theorem dJ6_bitCount_0f7a4_10 : decode cJ6_bitCount_0f7a4 10 = .ok (.iload_n 0, 1) := by decide +kernel
theorem dJ6_bitCount_0f7a4_11 : decode cJ6_bitCount_0f7a4 11 = .ok (.ldc_w 266, 3) := by decide +kernel
theorem dJ6_bitCount_0f7a4_14 : decode cJ6_bitCount_0f7a4 14 = .ok (.iand, 1) := by decide +kernel
theorem dJ6_bitCount_0f7a4_15 : decode cJ6_bitCount_0f7a4 15 = .ok (.iload_n 0, 1) := by decide +kernel
theorem dJ6_bitCount_0f7a4_16 : decode cJ6_bitCount_0f7a4 16 = .ok (.iconst 2, 1) := by decide +kernel
theorem dJ6_bitCount_0f7a4_17 : decode cJ6_bitCount_0f7a4 17 = .ok (.iushr, 1) := by decide +kernel
theorem dJ6_bitCount_0f7a4_18 : decode cJ6_bitCount_0f7a4 18 = .ok (.ldc_w 266, 3) := by decide +kernel
theorem dJ6_bitCount_0f7a4_21 : decode cJ6_bitCount_0f7a4 21 = .ok (.iand, 1) := by decide +kernel
theorem dJ6_bitCount_0f7a4_22 : decode cJ6_bitCount_0f7a4 22 = .ok (.iadd, 1) := by decide +kernel
theorem dJ6_bitCount_0f7a4_23 : decode cJ6_bitCount_0f7a4 23 = .ok (.istore_n 0, 1) := by decide +kernel
theorem dJ6_bitCount_0f7a4_24 : decode cJ6_bitCount_0f7a4 24 = .ok (.iload_n 0, 1) := by decide +kernel
theorem dJ6_bitCount_0f7a4_25 : decode cJ6_bitCount_0f7a4 25 = .ok (.iload_n 0, 1) := by decide +kernel
theorem dJ6_bitCount_0f7a4_26 : decode cJ6_bitCount_0f7a4 26 = .ok (.iconst 4, 1) := by decide +kernel
theorem dJ6_bitCount_0f7a4_27 : decode cJ6_bitCount_0f7a4 27 = .ok (.iushr, 1) := by decide +kernel
theorem dJ6_bitCount_0f7a4_28 : decode cJ6_bitCount_0f7a4 28 = .ok (.iadd, 1) := by decide +kernel
theorem dJ6_bitCount_0f7a4_29 : decode cJ6_bitCount_0f7a4 29 = .ok (.ldc_w 267, 3) := by decide +kernel
theorem dJ6_bitCount_0f7a4_32 : decode cJ6_bitCount_0f7a4 32 = .ok (.iand, 1) := by decide +kernel
theorem dJ6_bitCount_0f7a4_33 : decode cJ6_bitCount_0f7a4 33 = .ok (.istore_n 0, 1) := by decide +kernel
theorem dJ6_bitCount_0f7a4_34 : decode cJ6_bitCount_0f7a4 34 = .ok (.iload_n 0, 1) := by decide +kernel
theorem dJ6_bitCount_0f7a4_35 : decode cJ6_bitCount_0f7a4 35 = .ok (.iload_n 0, 1) := by decide +kernel
theorem dJ6_bitCount_0f7a4_36 : decode cJ6_bitCount_0f7a4 36 = .ok (.bipush 8, 2) := by decide +kernel
theorem dJ6_bitCount_0f7a4_38 : decode cJ6_bitCount_0f7a4 38 = .ok (.iushr, 1) := by decide +kernel
theorem dJ6_bitCount_0f7a4_39 : decode cJ6_bitCount_0f7a4 39 = .ok (.iadd, 1) := by decide +kernel
theorem dJ6_bitCount_0f7a4_40 : decode cJ6_bitCount_0f7a4 40 = .ok (.istore_n 0, 1) := by decide +kernel
theorem dJ6_bitCount_0f7a4_41 : decode cJ6_bitCount_0f7a4 41 = .ok (.iload_n 0, 1) := by decide +kernel
theorem dJ6_bitCount_0f7a4_42 : decode cJ6_bitCount_0f7a4 42 = .ok (.iload_n 0, 1) := by decide +kernel
theorem dJ6_bitCount_0f7a4_43 : decode cJ6_bitCount_0f7a4 43 = .ok (.bipush 16, 2) := by decide +kernel
theorem dJ6_bitCount_0f7a4_45 : decode cJ6_bitCount_0f7a4 45 = .ok (.iushr, 1) := by decide +kernel
theorem dJ6_bitCount_0f7a4_46 : decode cJ6_bitCount_0f7a4 46 = .ok (.iadd, 1) := by decide +kernel
theorem dJ6_bitCount_0f7a4_47 : decode cJ6_bitCount_0f7a4 47 = .ok (.istore_n 0, 1) := by decide +kernel
theorem dJ6_bitCount_0f7a4_48 : decode cJ6_bitCount_0f7a4 48 = .ok (.iload_n 0, 1) := by decide +kernel
theorem dJ6_bitCount_0f7a4_49 : decode cJ6_bitCount_0f7a4 49 = .ok (.bipush 63, 2) := by decide +kernel
theorem dJ6_bitCount_0f7a4_51 : decode cJ6_bitCount_0f7a4 51 = .ok (.iand, 1) := by decide +kernel
theorem dJ6_bitCount_0f7a4_52 : decode cJ6_bitCount_0f7a4 52 = .ok (.ireturn, 1) := by decide +kernel
theorem dJ7_fill_53178_0 : decode cJ7_fill_53178 0 = .ok (.iconst 0, 1) := by decide +kernel
theorem dJ7_fill_53178_1 : decode cJ7_fill_53178 1 = .ok (.istore_n 2, 1) := by decide +kernel
theorem dJ7_fill_53178_2 : decode cJ7_fill_53178 2 = .ok (.aload_n 0, 1) := by decide +kernel
theorem dJ7_fill_53178_3 : decode cJ7_fill_53178 3 = .ok (.arraylength, 1) := by decide +kernel
theorem dJ7_fill_53178_4 : decode cJ7_fill_53178 4 = .ok (.istore_n 3, 1) := by decide +kernel
theorem dJ7_fill_53178_5 : decode cJ7_fill_53178 5 = .ok (.iload_n 2, 1) := by decide +kernel
theorem dJ7_fill_53178_6 : decode cJ7_fill_53178 6 = .ok (.iload_n 3, 1) := by decide +kernel
theorem dJ7_fill_53178_7 : decode cJ7_fill_53178 7 = .ok (.if_icmp .ge 13, 3) := by decide +kernel
theorem dJ7_fill_53178_10 : decode cJ7_fill_53178 10 = .ok (.aload_n 0, 1) := by decide +kernel
theorem dJ7_fill_53178_11 : decode cJ7_fill_53178 11 = .ok (.iload_n 2, 1) := by decide +kernel
theorem dJ7_fill_53178_12 : decode cJ7_fill_53178 12 = .ok (.iload_n 1, 1) := by decide +kernel
theorem dJ7_fill_53178_13 : decode cJ7_fill_53178 13 = .ok (.iastore, 1) := by decide +kernel
theorem dJ7_fill_53178_14 : decode cJ7_fill_53178 14 = .ok (.iinc 2 1, 3) := by decide +kernel
theorem dJ7_fill_53178_17 : decode cJ7_fill_53178 17 = .ok (.goto (-12), 3) := by decide +kernel
theorem dJ7_fill_53178_20 : decode cJ7_fill_53178 20 = .ok (.return_, 1) := by decide +kernel
