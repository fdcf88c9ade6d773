theorem dX3_init_0 : decode cX3_init 0 = .ok (.aload_n 0, 1) := by decide +kernel
theorem dX3_init_1 : decode cX3_init 1 = .ok (.invokespecial 3, 3) := by decide +kernel
theorem dX3_init_4 : decode cX3_init 4 = .ok (.aload_n 0, 1) := by decide +kernel
theorem dX3_init_5 : decode cX3_init 5 = .ok (.iconst 2, 1) := by decide +kernel
theorem dX3_init_6 : decode cX3_init 6 = .ok (.newarray .long, 2) := by decide +kernel
theorem dX3_init_8 : decode cX3_init 8 = .ok (.putfield 9, 3) := by decide +kernel
theorem dX3_init_11 : decode cX3_init 11 = .ok (.aload_n 0, 1) := by decide +kernel
theorem dX3_init_12 : decode cX3_init 12 = .ok (.iconst 4, 1) := by decide +kernel
theorem dX3_init_13 : decode cX3_init 13 = .ok (.newarray .long, 2) := by decide +kernel
theorem dX3_init_15 : decode cX3_init 15 = .ok (.putfield 15, 3) := by decide +kernel
theorem dX3_init_18 : decode cX3_init 18 = .ok (.aload_n 0, 1) := by decide +kernel
theorem dX3_init_19 : decode cX3_init 19 = .ok (.iconst 4, 1) := by decide +kernel
theorem dX3_init_20 : decode cX3_init 20 = .ok (.newarray .long, 2) := by decide +kernel
theorem dX3_init_22 : decode cX3_init 22 = .ok (.putfield 18, 3) := by decide +kernel
theorem dX3_init_25 : decode cX3_init 25 = .ok (.aload_n 0, 1) := by decide +kernel
theorem dX3_init_26 : decode cX3_init 26 = .ok (.bipush (-2), 2) := by decide +kernel
theorem dX3_init_28 : decode cX3_init 28 = .ok (.putfield 21, 3) := by decide +kernel
theorem dX3_init_31 : decode cX3_init 31 = .ok (.return_, 1) := by decide +kernel
theorem dX3_isThere_0 : decode cX3_isThere 0 = .ok (.aload_n 0, 1) := by decide +kernel
theorem dX3_isThere_1 : decode cX3_isThere 1 = .ok (.getfield 21, 3) := by decide +kernel
theorem dX3_isThere_4 : decode cX3_isThere 4 = .ok (.ifCond .lt 7, 3) := by decide +kernel
theorem dX3_isThere_7 : decode cX3_isThere 7 = .ok (.iconst 1, 1) := by decide +kernel
theorem dX3_isThere_8 : decode cX3_isThere 8 = .ok (.goto 4, 3) := by decide +kernel
theorem dX3_isThere_11 : decode cX3_isThere 11 = .ok (.iconst 0, 1) := by decide +kernel
theorem dX3_isThere_12 : decode cX3_isThere 12 = .ok (.ireturn, 1) := by decide +kernel
theorem dX3_clear_0 : decode cX3_clear 0 = .ok (.aload_n 0, 1) := by decide +kernel
theorem dX3_clear_1 : decode cX3_clear 1 = .ok (.bipush (-2), 2) := by decide +kernel
theorem dX3_clear_3 : decode cX3_clear 3 = .ok (.putfield 21, 3) := by decide +kernel
theorem dX3_clear_6 : decode cX3_clear 6 = .ok (.return_, 1) := by decide +kernel
theorem dX3_over_0 : decode cX3_over 0 = .ok (.aload_n 0, 1) := by decide +kernel
theorem dX3_over_1 : decode cX3_over 1 = .ok (.getfield 9, 3) := by decide +kernel
theorem dX3_over_4 : decode cX3_over 4 = .ok (.iconst 1, 1) := by decide +kernel
theorem dX3_over_5 : decode cX3_over 5 = .ok (.laload, 1) := by decide +kernel
theorem dX3_over_6 : decode cX3_over 6 = .ok (.lreturn, 1) := by decide +kernel
theorem dX3_isLaterThan_0 : decode cX3_isLaterThan 0 = .ok (.aload_n 0, 1) := by decide +kernel
theorem dX3_isLaterThan_1 : decode cX3_isLaterThan 1 = .ok (.invokevirtual 25, 3) := by decide +kernel
theorem dX3_isLaterThan_4 : decode cX3_isLaterThan 4 = .ok (.ifCond .eq 29, 3) := by decide +kernel
theorem dX3_isLaterThan_7 : decode cX3_isLaterThan 7 = .ok (.aload_n 1, 1) := by decide +kernel
theorem dX3_isLaterThan_8 : decode cX3_isLaterThan 8 = .ok (.getfield 29, 3) := by decide +kernel
theorem dX3_isLaterThan_11 : decode cX3_isLaterThan 11 = .ok (.aload_n 0, 1) := by decide +kernel
theorem dX3_isLaterThan_12 : decode cX3_isLaterThan 12 = .ok (.getfield 9, 3) := by decide +kernel
theorem dX3_isLaterThan_15 : decode cX3_isLaterThan 15 = .ok (.iconst 1, 1) := by decide +kernel
theorem dX3_isLaterThan_16 : decode cX3_isLaterThan 16 = .ok (.laload, 1) := by decide +kernel
theorem dX3_isLaterThan_17 : decode cX3_isLaterThan 17 = .ok (.lmul, 1) := by decide +kernel
theorem dX3_isLaterThan_18 : decode cX3_isLaterThan 18 = .ok (.aload_n 0, 1) := by decide +kernel
theorem dX3_isLaterThan_19 : decode cX3_isLaterThan 19 = .ok (.getfield 9, 3) := by decide +kernel
theorem dX3_isLaterThan_22 : decode cX3_isLaterThan 22 = .ok (.iconst 0, 1) := by decide +kernel
theorem dX3_isLaterThan_23 : decode cX3_isLaterThan 23 = .ok (.laload, 1) := by decide +kernel
theorem dX3_isLaterThan_24 : decode cX3_isLaterThan 24 = .ok (.aload_n 1, 1) := by decide +kernel
theorem dX3_isLaterThan_25 : decode cX3_isLaterThan 25 = .ok (.getfield 35, 3) := by decide +kernel
theorem dX3_isLaterThan_28 : decode cX3_isLaterThan 28 = .ok (.lmul, 1) := by decide +kernel
theorem dX3_isLaterThan_29 : decode cX3_isLaterThan 29 = .ok (.lcmp, 1) := by decide +kernel
theorem dX3_isLaterThan_30 : decode cX3_isLaterThan 30 = .ok (.ifCond .ge 7, 3) := by decide +kernel
theorem dX3_isLaterThan_33 : decode cX3_isLaterThan 33 = .ok (.iconst 1, 1) := by decide +kernel
theorem dX3_isLaterThan_34 : decode cX3_isLaterThan 34 = .ok (.goto 4, 3) := by decide +kernel
theorem dX3_isLaterThan_37 : decode cX3_isLaterThan 37 = .ok (.iconst 0, 1) := by decide +kernel
theorem dX3_isLaterThan_38 : decode cX3_isLaterThan 38 = .ok (.ireturn, 1) := by decide +kernel
theorem dX3_take_0 : decode cX3_take 0 = .ok (.aload_n 0, 1) := by decide +kernel
theorem dX3_take_1 : decode cX3_take 1 = .ok (.iload_n 2, 1) := by decide +kernel
theorem dX3_take_2 : decode cX3_take 2 = .ok (.putfield 21, 3) := by decide +kernel
theorem dX3_take_5 : decode cX3_take 5 = .ok (.aload_n 0, 1) := by decide +kernel
theorem dX3_take_6 : decode cX3_take 6 = .ok (.getfield 9, 3) := by decide +kernel
theorem dX3_take_9 : decode cX3_take 9 = .ok (.iconst 0, 1) := by decide +kernel
theorem dX3_take_10 : decode cX3_take 10 = .ok (.aload_n 1, 1) := by decide +kernel
theorem dX3_take_11 : decode cX3_take 11 = .ok (.getfield 29, 3) := by decide +kernel
theorem dX3_take_14 : decode cX3_take 14 = .ok (.lastore, 1) := by decide +kernel
theorem dX3_take_15 : decode cX3_take 15 = .ok (.aload_n 0, 1) := by decide +kernel
theorem dX3_take_16 : decode cX3_take 16 = .ok (.getfield 9, 3) := by decide +kernel
theorem dX3_take_19 : decode cX3_take 19 = .ok (.iconst 1, 1) := by decide +kernel
theorem dX3_take_20 : decode cX3_take 20 = .ok (.aload_n 1, 1) := by decide +kernel
theorem dX3_take_21 : decode cX3_take 21 = .ok (.getfield 35, 3) := by decide +kernel
theorem dX3_take_24 : decode cX3_take 24 = .ok (.lastore, 1) := by decide +kernel
theorem dX3_take_25 : decode cX3_take 25 = .ok (.iconst 0, 1) := by decide +kernel
theorem dX3_take_26 : decode cX3_take 26 = .ok (.istore_n 3, 1) := by decide +kernel
theorem dX3_take_27 : decode cX3_take 27 = .ok (.iload_n 3, 1) := by decide +kernel
theorem dX3_take_28 : decode cX3_take 28 = .ok (.iconst 3, 1) := by decide +kernel
theorem dX3_take_29 : decode cX3_take 29 = .ok (.if_icmp .ge 38, 3) := by decide +kernel
theorem dX3_take_32 : decode cX3_take 32 = .ok (.aload_n 0, 1) := by decide +kernel
theorem dX3_take_33 : decode cX3_take 33 = .ok (.getfield 15, 3) := by decide +kernel
theorem dX3_take_36 : decode cX3_take 36 = .ok (.iload_n 3, 1) := by decide +kernel
theorem dX3_take_37 : decode cX3_take 37 = .ok (.aload_n 1, 1) := by decide +kernel
theorem dX3_take_38 : decode cX3_take 38 = .ok (.getfield 38, 3) := by decide +kernel
theorem dX3_take_41 : decode cX3_take 41 = .ok (.iload_n 3, 1) := by decide +kernel
theorem dX3_take_42 : decode cX3_take 42 = .ok (.laload, 1) := by decide +kernel
theorem dX3_take_43 : decode cX3_take 43 = .ok (.aload_n 1, 1) := by decide +kernel
theorem dX3_take_44 : decode cX3_take 44 = .ok (.getfield 35, 3) := by decide +kernel
theorem dX3_take_47 : decode cX3_take 47 = .ok (.lmul, 1) := by decide +kernel
theorem dX3_take_48 : decode cX3_take 48 = .ok (.aload_n 1, 1) := by decide +kernel
theorem dX3_take_49 : decode cX3_take 49 = .ok (.getfield 41, 3) := by decide +kernel
theorem dX3_take_52 : decode cX3_take 52 = .ok (.iload_n 3, 1) := by decide +kernel
theorem dX3_take_53 : decode cX3_take 53 = .ok (.laload, 1) := by decide +kernel
theorem dX3_take_54 : decode cX3_take 54 = .ok (.aload_n 1, 1) := by decide +kernel
theorem dX3_take_55 : decode cX3_take 55 = .ok (.getfield 29, 3) := by decide +kernel
theorem dX3_take_58 : decode cX3_take 58 = .ok (.lmul, 1) := by decide +kernel
theorem dX3_take_59 : decode cX3_take 59 = .ok (.ladd, 1) := by decide +kernel
theorem dX3_take_60 : decode cX3_take 60 = .ok (.lastore, 1) := by decide +kernel
theorem dX3_take_61 : decode cX3_take 61 = .ok (.iinc 3 1, 3) := by decide +kernel
theorem dX3_take_64 : decode cX3_take 64 = .ok (.goto (-37), 3) := by decide +kernel
theorem dX3_take_67 : decode cX3_take 67 = .ok (.aload_n 0, 1) := by decide +kernel
theorem dX3_take_68 : decode cX3_take 68 = .ok (.getfield 15, 3) := by decide +kernel
theorem dX3_take_71 : decode cX3_take 71 = .ok (.iconst 3, 1) := by decide +kernel
theorem dX3_take_72 : decode cX3_take 72 = .ok (.aload_n 1, 1) := by decide +kernel
theorem dX3_take_73 : decode cX3_take 73 = .ok (.getfield 35, 3) := by decide +kernel
theorem dX3_take_76 : decode cX3_take 76 = .ok (.lastore, 1) := by decide +kernel
theorem dX3_take_77 : decode cX3_take 77 = .ok (.aload_n 0, 1) := by decide +kernel
theorem dX3_take_78 : decode cX3_take 78 = .ok (.getfield 18, 3) := by decide +kernel
theorem dX3_take_81 : decode cX3_take 81 = .ok (.iconst 0, 1) := by decide +kernel
theorem dX3_take_82 : decode cX3_take 82 = .ok (.aload_n 1, 1) := by decide +kernel
theorem dX3_take_83 : decode cX3_take 83 = .ok (.getfield 44, 3) := by decide +kernel
theorem dX3_take_86 : decode cX3_take 86 = .ok (.lastore, 1) := by decide +kernel
theorem dX3_take_87 : decode cX3_take 87 = .ok (.aload_n 0, 1) := by decide +kernel
theorem dX3_take_88 : decode cX3_take 88 = .ok (.getfield 18, 3) := by decide +kernel
theorem dX3_take_91 : decode cX3_take 91 = .ok (.iconst 1, 1) := by decide +kernel
theorem dX3_take_92 : decode cX3_take 92 = .ok (.aload_n 1, 1) := by decide +kernel
theorem dX3_take_93 : decode cX3_take 93 = .ok (.getfield 47, 3) := by decide +kernel
theorem dX3_take_96 : decode cX3_take 96 = .ok (.lastore, 1) := by decide +kernel
theorem dX3_take_97 : decode cX3_take 97 = .ok (.aload_n 0, 1) := by decide +kernel
theorem dX3_take_98 : decode cX3_take 98 = .ok (.getfield 18, 3) := by decide +kernel
theorem dX3_take_101 : decode cX3_take 101 = .ok (.iconst 2, 1) := by decide +kernel
theorem dX3_take_102 : decode cX3_take 102 = .ok (.aload_n 1, 1) := by decide +kernel
theorem dX3_take_103 : decode cX3_take 103 = .ok (.getfield 50, 3) := by decide +kernel
theorem dX3_take_106 : decode cX3_take 106 = .ok (.lastore, 1) := by decide +kernel
theorem dX3_take_107 : decode cX3_take 107 = .ok (.aload_n 0, 1) := by decide +kernel
theorem dX3_take_108 : decode cX3_take 108 = .ok (.getfield 18, 3) := by decide +kernel
theorem dX3_take_111 : decode cX3_take 111 = .ok (.iconst 3, 1) := by decide +kernel
theorem dX3_take_112 : decode cX3_take 112 = .ok (.aload_n 1, 1) := by decide +kernel
theorem dX3_take_113 : decode cX3_take 113 = .ok (.getfield 35, 3) := by decide +kernel
theorem dX3_take_116 : decode cX3_take 116 = .ok (.lastore, 1) := by decide +kernel
theorem dX3_take_117 : decode cX3_take 117 = .ok (.return_, 1) := by decide +kernel
theorem dX3_tell_0 : decode cX3_tell 0 = .ok (.iload_n 1, 1) := by decide +kernel
theorem dX3_tell_1 : decode cX3_tell 1 = .ok (.ifCond .ne 9, 3) := by decide +kernel
theorem dX3_tell_4 : decode cX3_tell 4 = .ok (.aload_n 0, 1) := by decide +kernel
theorem dX3_tell_5 : decode cX3_tell 5 = .ok (.getfield 21, 3) := by decide +kernel
theorem dX3_tell_8 : decode cX3_tell 8 = .ok (.i2l, 1) := by decide +kernel
theorem dX3_tell_9 : decode cX3_tell 9 = .ok (.lreturn, 1) := by decide +kernel
theorem dX3_tell_10 : decode cX3_tell 10 = .ok (.iload_n 1, 1) := by decide +kernel
theorem dX3_tell_11 : decode cX3_tell 11 = .ok (.iconst 1, 1) := by decide +kernel
theorem dX3_tell_12 : decode cX3_tell 12 = .ok (.if_icmp .lt 19, 3) := by decide +kernel
theorem dX3_tell_15 : decode cX3_tell 15 = .ok (.iload_n 1, 1) := by decide +kernel
theorem dX3_tell_16 : decode cX3_tell 16 = .ok (.iconst 2, 1) := by decide +kernel
theorem dX3_tell_17 : decode cX3_tell 17 = .ok (.if_icmp .gt 14, 3) := by decide +kernel
theorem dX3_tell_20 : decode cX3_tell 20 = .ok (.aload_n 0, 1) := by decide +kernel
theorem dX3_tell_21 : decode cX3_tell 21 = .ok (.getfield 9, 3) := by decide +kernel
theorem dX3_tell_24 : decode cX3_tell 24 = .ok (.iload_n 1, 1) := by decide +kernel
theorem dX3_tell_25 : decode cX3_tell 25 = .ok (.iconst 1, 1) := by decide +kernel
theorem dX3_tell_26 : decode cX3_tell 26 = .ok (.isub, 1) := by decide +kernel
theorem dX3_tell_27 : decode cX3_tell 27 = .ok (.invokestatic 53, 3) := by decide +kernel
theorem dX3_tell_30 : decode cX3_tell 30 = .ok (.lreturn, 1) := by decide +kernel
theorem dX3_tell_31 : decode cX3_tell 31 = .ok (.iload_n 1, 1) := by decide +kernel
theorem dX3_tell_32 : decode cX3_tell 32 = .ok (.iconst 3, 1) := by decide +kernel
theorem dX3_tell_33 : decode cX3_tell 33 = .ok (.if_icmp .lt 20, 3) := by decide +kernel
theorem dX3_tell_36 : decode cX3_tell 36 = .ok (.iload_n 1, 1) := by decide +kernel
theorem dX3_tell_37 : decode cX3_tell 37 = .ok (.bipush 6, 2) := by decide +kernel
theorem dX3_tell_39 : decode cX3_tell 39 = .ok (.if_icmp .gt 14, 3) := by decide +kernel
theorem dX3_tell_42 : decode cX3_tell 42 = .ok (.aload_n 0, 1) := by decide +kernel
theorem dX3_tell_43 : decode cX3_tell 43 = .ok (.getfield 15, 3) := by decide +kernel
theorem dX3_tell_46 : decode cX3_tell 46 = .ok (.iload_n 1, 1) := by decide +kernel
theorem dX3_tell_47 : decode cX3_tell 47 = .ok (.iconst 3, 1) := by decide +kernel
theorem dX3_tell_48 : decode cX3_tell 48 = .ok (.isub, 1) := by decide +kernel
theorem dX3_tell_49 : decode cX3_tell 49 = .ok (.invokestatic 53, 3) := by decide +kernel
theorem dX3_tell_52 : decode cX3_tell 52 = .ok (.lreturn, 1) := by decide +kernel
theorem dX3_tell_53 : decode cX3_tell 53 = .ok (.iload_n 1, 1) := by decide +kernel
theorem dX3_tell_54 : decode cX3_tell 54 = .ok (.bipush 7, 2) := by decide +kernel
theorem dX3_tell_56 : decode cX3_tell 56 = .ok (.if_icmp .lt 21, 3) := by decide +kernel
theorem dX3_tell_59 : decode cX3_tell 59 = .ok (.iload_n 1, 1) := by decide +kernel
theorem dX3_tell_60 : decode cX3_tell 60 = .ok (.bipush 10, 2) := by decide +kernel
theorem dX3_tell_62 : decode cX3_tell 62 = .ok (.if_icmp .gt 15, 3) := by decide +kernel
theorem dX3_tell_65 : decode cX3_tell 65 = .ok (.aload_n 0, 1) := by decide +kernel
theorem dX3_tell_66 : decode cX3_tell 66 = .ok (.getfield 18, 3) := by decide +kernel
theorem dX3_tell_69 : decode cX3_tell 69 = .ok (.iload_n 1, 1) := by decide +kernel
theorem dX3_tell_70 : decode cX3_tell 70 = .ok (.bipush 7, 2) := by decide +kernel
theorem dX3_tell_72 : decode cX3_tell 72 = .ok (.isub, 1) := by decide +kernel
theorem dX3_tell_73 : decode cX3_tell 73 = .ok (.invokestatic 53, 3) := by decide +kernel
theorem dX3_tell_76 : decode cX3_tell 76 = .ok (.lreturn, 1) := by decide +kernel
theorem dX3_tell_77 : decode cX3_tell 77 = .ok (.ldc2_w 57, 3) := by decide +kernel
theorem dX3_tell_80 : decode cX3_tell 80 = .ok (.lreturn, 1) := by decide +kernel
theorem dX3_inLeastTerms_0 : decode cX3_inLeastTerms 0 = .ok (.lconst 0, 1) := by decide +kernel
theorem dX3_inLeastTerms_1 : decode cX3_inLeastTerms 1 = .ok (.lstore_n 2, 1) := by decide +kernel
theorem dX3_inLeastTerms_2 : decode cX3_inLeastTerms 2 = .ok (.iconst 0, 1) := by decide +kernel
theorem dX3_inLeastTerms_3 : decode cX3_inLeastTerms 3 = .ok (.istore 4, 2) := by decide +kernel
theorem dX3_inLeastTerms_5 : decode cX3_inLeastTerms 5 = .ok (.iload 4, 2) := by decide +kernel
theorem dX3_inLeastTerms_7 : decode cX3_inLeastTerms 7 = .ok (.aload_n 0, 1) := by decide +kernel
theorem dX3_inLeastTerms_8 : decode cX3_inLeastTerms 8 = .ok (.arraylength, 1) := by decide +kernel
theorem dX3_inLeastTerms_9 : decode cX3_inLeastTerms 9 = .ok (.if_icmp .ge 21, 3) := by decide +kernel
theorem dX3_inLeastTerms_12 : decode cX3_inLeastTerms 12 = .ok (.lload_n 2, 1) := by decide +kernel
theorem dX3_inLeastTerms_13 : decode cX3_inLeastTerms 13 = .ok (.aload_n 0, 1) := by decide +kernel
theorem dX3_inLeastTerms_14 : decode cX3_inLeastTerms 14 = .ok (.iload 4, 2) := by decide +kernel
theorem dX3_inLeastTerms_16 : decode cX3_inLeastTerms 16 = .ok (.laload, 1) := by decide +kernel
theorem dX3_inLeastTerms_17 : decode cX3_inLeastTerms 17 = .ok (.invokestatic 59, 3) := by decide +kernel
theorem dX3_inLeastTerms_20 : decode cX3_inLeastTerms 20 = .ok (.invokestatic 65, 3) := by decide +kernel
theorem dX3_inLeastTerms_23 : decode cX3_inLeastTerms 23 = .ok (.lstore_n 2, 1) := by decide +kernel
theorem dX3_inLeastTerms_24 : decode cX3_inLeastTerms 24 = .ok (.iinc 4 1, 3) := by decide +kernel
theorem dX3_inLeastTerms_27 : decode cX3_inLeastTerms 27 = .ok (.goto (-22), 3) := by decide +kernel
theorem dX3_inLeastTerms_30 : decode cX3_inLeastTerms 30 = .ok (.lload_n 2, 1) := by decide +kernel
theorem dX3_inLeastTerms_31 : decode cX3_inLeastTerms 31 = .ok (.lconst 0, 1) := by decide +kernel
theorem dX3_inLeastTerms_32 : decode cX3_inLeastTerms 32 = .ok (.lcmp, 1) := by decide +kernel
theorem dX3_inLeastTerms_33 : decode cX3_inLeastTerms 33 = .ok (.ifCond .ne 9, 3) := by decide +kernel
theorem dX3_inLeastTerms_36 : decode cX3_inLeastTerms 36 = .ok (.aload_n 0, 1) := by decide +kernel
theorem dX3_inLeastTerms_37 : decode cX3_inLeastTerms 37 = .ok (.iload_n 1, 1) := by decide +kernel
theorem dX3_inLeastTerms_38 : decode cX3_inLeastTerms 38 = .ok (.laload, 1) := by decide +kernel
theorem dX3_inLeastTerms_39 : decode cX3_inLeastTerms 39 = .ok (.goto 8, 3) := by decide +kernel
theorem dX3_inLeastTerms_42 : decode cX3_inLeastTerms 42 = .ok (.aload_n 0, 1) := by decide +kernel
theorem dX3_inLeastTerms_43 : decode cX3_inLeastTerms 43 = .ok (.iload_n 1, 1) := by decide +kernel
theorem dX3_inLeastTerms_44 : decode cX3_inLeastTerms 44 = .ok (.laload, 1) := by decide +kernel
theorem dX3_inLeastTerms_45 : decode cX3_inLeastTerms 45 = .ok (.lload_n 2, 1) := by decide +kernel
theorem dX3_inLeastTerms_46 : decode cX3_inLeastTerms 46 = .ok (.ldiv, 1) := by decide +kernel
theorem dX3_inLeastTerms_47 : decode cX3_inLeastTerms 47 = .ok (.lreturn, 1) := by decide +kernel
theorem dX3_commonDivisor_0 : decode cX3_commonDivisor 0 = .ok (.lload_n 0, 1) := by decide +kernel
theorem dX3_commonDivisor_1 : decode cX3_commonDivisor 1 = .ok (.lstore 4, 2) := by decide +kernel
theorem dX3_commonDivisor_3 : decode cX3_commonDivisor 3 = .ok (.lload_n 2, 1) := by decide +kernel
theorem dX3_commonDivisor_4 : decode cX3_commonDivisor 4 = .ok (.lstore 6, 2) := by decide +kernel
theorem dX3_commonDivisor_6 : decode cX3_commonDivisor 6 = .ok (.iconst 0, 1) := by decide +kernel
theorem dX3_commonDivisor_7 : decode cX3_commonDivisor 7 = .ok (.istore 8, 2) := by decide +kernel
theorem dX3_commonDivisor_9 : decode cX3_commonDivisor 9 = .ok (.iload 8, 2) := by decide +kernel
theorem dX3_commonDivisor_11 : decode cX3_commonDivisor 11 = .ok (.sipush 128, 3) := by decide +kernel
theorem dX3_commonDivisor_14 : decode cX3_commonDivisor 14 = .ok (.if_icmp .ge 31, 3) := by decide +kernel
theorem dX3_commonDivisor_17 : decode cX3_commonDivisor 17 = .ok (.lload 6, 2) := by decide +kernel
theorem dX3_commonDivisor_19 : decode cX3_commonDivisor 19 = .ok (.lconst 0, 1) := by decide +kernel
theorem dX3_commonDivisor_20 : decode cX3_commonDivisor 20 = .ok (.lcmp, 1) := by decide +kernel
theorem dX3_commonDivisor_21 : decode cX3_commonDivisor 21 = .ok (.ifCond .eq 24, 3) := by decide +kernel
theorem dX3_commonDivisor_24 : decode cX3_commonDivisor 24 = .ok (.lload 4, 2) := by decide +kernel
theorem dX3_commonDivisor_26 : decode cX3_commonDivisor 26 = .ok (.lload 6, 2) := by decide +kernel
theorem dX3_commonDivisor_28 : decode cX3_commonDivisor 28 = .ok (.lrem, 1) := by decide +kernel
theorem dX3_commonDivisor_29 : decode cX3_commonDivisor 29 = .ok (.lstore 9, 2) := by decide +kernel
theorem dX3_commonDivisor_31 : decode cX3_commonDivisor 31 = .ok (.lload 6, 2) := by decide +kernel
theorem dX3_commonDivisor_33 : decode cX3_commonDivisor 33 = .ok (.lstore 4, 2) := by decide +kernel
theorem dX3_commonDivisor_35 : decode cX3_commonDivisor 35 = .ok (.lload 9, 2) := by decide +kernel
theorem dX3_commonDivisor_37 : decode cX3_commonDivisor 37 = .ok (.lstore 6, 2) := by decide +kernel
theorem dX3_commonDivisor_39 : decode cX3_commonDivisor 39 = .ok (.iinc 8 1, 3) := by decide +kernel
theorem dX3_commonDivisor_42 : decode cX3_commonDivisor 42 = .ok (.goto (-33), 3) := by decide +kernel
theorem dX3_commonDivisor_45 : decode cX3_commonDivisor 45 = .ok (.lload 4, 2) := by decide +kernel
theorem dX3_commonDivisor_47 : decode cX3_commonDivisor 47 = .ok (.lreturn, 1) := by decide +kernel
