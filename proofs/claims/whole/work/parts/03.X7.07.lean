theorem dX7_init_0 : decode cX7_init 0 = .ok (.aload_n 0, 1) := by decide +kernel
theorem dX7_init_1 : decode cX7_init 1 = .ok (.invokespecial 1, 3) := by decide +kernel
theorem dX7_init_4 : decode cX7_init 4 = .ok (.aload_n 0, 1) := by decide +kernel
theorem dX7_init_5 : decode cX7_init 5 = .ok (.iconst 3, 1) := by decide +kernel
theorem dX7_init_6 : decode cX7_init 6 = .ok (.newarray .long, 2) := by decide +kernel
theorem dX7_init_8 : decode cX7_init 8 = .ok (.putfield 7, 3) := by decide +kernel
theorem dX7_init_11 : decode cX7_init 11 = .ok (.aload_n 0, 1) := by decide +kernel
theorem dX7_init_12 : decode cX7_init 12 = .ok (.iconst 3, 1) := by decide +kernel
theorem dX7_init_13 : decode cX7_init 13 = .ok (.newarray .long, 2) := by decide +kernel
theorem dX7_init_15 : decode cX7_init 15 = .ok (.putfield 13, 3) := by decide +kernel
theorem dX7_init_18 : decode cX7_init 18 = .ok (.aload_n 0, 1) := by decide +kernel
theorem dX7_init_19 : decode cX7_init 19 = .ok (.lconst 1, 1) := by decide +kernel
theorem dX7_init_20 : decode cX7_init 20 = .ok (.putfield 16, 3) := by decide +kernel
theorem dX7_init_23 : decode cX7_init 23 = .ok (.aload_n 0, 1) := by decide +kernel
theorem dX7_init_24 : decode cX7_init 24 = .ok (.lconst 0, 1) := by decide +kernel
theorem dX7_init_25 : decode cX7_init 25 = .ok (.putfield 20, 3) := by decide +kernel
theorem dX7_init_28 : decode cX7_init 28 = .ok (.aload_n 0, 1) := by decide +kernel
theorem dX7_init_29 : decode cX7_init 29 = .ok (.lconst 1, 1) := by decide +kernel
theorem dX7_init_30 : decode cX7_init 30 = .ok (.putfield 23, 3) := by decide +kernel
theorem dX7_init_33 : decode cX7_init 33 = .ok (.aload_n 0, 1) := by decide +kernel
theorem dX7_init_34 : decode cX7_init 34 = .ok (.lconst 0, 1) := by decide +kernel
theorem dX7_init_35 : decode cX7_init 35 = .ok (.putfield 26, 3) := by decide +kernel
theorem dX7_init_38 : decode cX7_init 38 = .ok (.aload_n 0, 1) := by decide +kernel
theorem dX7_init_39 : decode cX7_init 39 = .ok (.lconst 0, 1) := by decide +kernel
theorem dX7_init_40 : decode cX7_init 40 = .ok (.putfield 29, 3) := by decide +kernel
theorem dX7_init_43 : decode cX7_init 43 = .ok (.aload_n 0, 1) := by decide +kernel
theorem dX7_init_44 : decode cX7_init 44 = .ok (.lconst 0, 1) := by decide +kernel
theorem dX7_init_45 : decode cX7_init 45 = .ok (.putfield 32, 3) := by decide +kernel
theorem dX7_init_48 : decode cX7_init 48 = .ok (.return_, 1) := by decide +kernel
theorem dX7_strikes_0 : decode cX7_strikes 0 = .ok (.aload_n 0, 1) := by decide +kernel
theorem dX7_strikes_1 : decode cX7_strikes 1 = .ok (.aload_n 1, 1) := by decide +kernel
theorem dX7_strikes_2 : decode cX7_strikes 2 = .ok (.iload_n 2, 1) := by decide +kernel
theorem dX7_strikes_3 : decode cX7_strikes 3 = .ok (.invokevirtual 35, 3) := by decide +kernel
theorem dX7_strikes_6 : decode cX7_strikes 6 = .ok (.ifCond .eq 16, 3) := by decide +kernel
theorem dX7_strikes_9 : decode cX7_strikes 9 = .ok (.aload_n 0, 1) := by decide +kernel
theorem dX7_strikes_10 : decode cX7_strikes 10 = .ok (.aload_n 1, 1) := by decide +kernel
theorem dX7_strikes_11 : decode cX7_strikes 11 = .ok (.iload_n 2, 1) := by decide +kernel
theorem dX7_strikes_12 : decode cX7_strikes 12 = .ok (.invokevirtual 39, 3) := by decide +kernel
theorem dX7_strikes_15 : decode cX7_strikes 15 = .ok (.ifCond .eq 7, 3) := by decide +kernel
theorem dX7_strikes_18 : decode cX7_strikes 18 = .ok (.iconst 1, 1) := by decide +kernel
theorem dX7_strikes_19 : decode cX7_strikes 19 = .ok (.goto 4, 3) := by decide +kernel
theorem dX7_strikes_22 : decode cX7_strikes 22 = .ok (.iconst 0, 1) := by decide +kernel
theorem dX7_strikes_23 : decode cX7_strikes 23 = .ok (.ireturn, 1) := by decide +kernel
theorem dX7_comesToPlane_0 : decode cX7_comesToPlane 0 = .ok (.aload_n 1, 1) := by decide +kernel
theorem dX7_comesToPlane_1 : decode cX7_comesToPlane 1 = .ok (.iload_n 2, 1) := by decide +kernel
theorem dX7_comesToPlane_2 : decode cX7_comesToPlane 2 = .ok (.aload_n 0, 1) := by decide +kernel
theorem dX7_comesToPlane_3 : decode cX7_comesToPlane 3 = .ok (.getfield 13, 3) := by decide +kernel
theorem dX7_comesToPlane_6 : decode cX7_comesToPlane 6 = .ok (.iconst 0, 1) := by decide +kernel
theorem dX7_comesToPlane_7 : decode cX7_comesToPlane 7 = .ok (.laload, 1) := by decide +kernel
theorem dX7_comesToPlane_8 : decode cX7_comesToPlane 8 = .ok (.aload_n 0, 1) := by decide +kernel
theorem dX7_comesToPlane_9 : decode cX7_comesToPlane 9 = .ok (.getfield 13, 3) := by decide +kernel
theorem dX7_comesToPlane_12 : decode cX7_comesToPlane 12 = .ok (.iconst 1, 1) := by decide +kernel
theorem dX7_comesToPlane_13 : decode cX7_comesToPlane 13 = .ok (.laload, 1) := by decide +kernel
theorem dX7_comesToPlane_14 : decode cX7_comesToPlane 14 = .ok (.aload_n 0, 1) := by decide +kernel
theorem dX7_comesToPlane_15 : decode cX7_comesToPlane 15 = .ok (.getfield 13, 3) := by decide +kernel
theorem dX7_comesToPlane_18 : decode cX7_comesToPlane 18 = .ok (.iconst 2, 1) := by decide +kernel
theorem dX7_comesToPlane_19 : decode cX7_comesToPlane 19 = .ok (.laload, 1) := by decide +kernel
theorem dX7_comesToPlane_20 : decode cX7_comesToPlane 20 = .ok (.invokevirtual 42, 3) := by decide +kernel
theorem dX7_comesToPlane_23 : decode cX7_comesToPlane 23 = .ok (.lstore_n 3, 1) := by decide +kernel
theorem dX7_comesToPlane_24 : decode cX7_comesToPlane 24 = .ok (.aload_n 0, 1) := by decide +kernel
theorem dX7_comesToPlane_25 : decode cX7_comesToPlane 25 = .ok (.lload_n 3, 1) := by decide +kernel
theorem dX7_comesToPlane_26 : decode cX7_comesToPlane 26 = .ok (.lconst 0, 1) := by decide +kernel
theorem dX7_comesToPlane_27 : decode cX7_comesToPlane 27 = .ok (.lcmp, 1) := by decide +kernel
theorem dX7_comesToPlane_28 : decode cX7_comesToPlane 28 = .ok (.ifCond .ge 9, 3) := by decide +kernel
theorem dX7_comesToPlane_31 : decode cX7_comesToPlane 31 = .ok (.ldc2_w 48, 3) := by decide +kernel
theorem dX7_comesToPlane_34 : decode cX7_comesToPlane 34 = .ok (.goto 4, 3) := by decide +kernel
theorem dX7_comesToPlane_37 : decode cX7_comesToPlane 37 = .ok (.lconst 1, 1) := by decide +kernel
theorem dX7_comesToPlane_38 : decode cX7_comesToPlane 38 = .ok (.putfield 16, 3) := by decide +kernel
theorem dX7_comesToPlane_41 : decode cX7_comesToPlane 41 = .ok (.aload_n 0, 1) := by decide +kernel
theorem dX7_comesToPlane_42 : decode cX7_comesToPlane 42 = .ok (.aload_n 0, 1) := by decide +kernel
theorem dX7_comesToPlane_43 : decode cX7_comesToPlane 43 = .ok (.getfield 16, 3) := by decide +kernel
theorem dX7_comesToPlane_46 : decode cX7_comesToPlane 46 = .ok (.lload_n 3, 1) := by decide +kernel
theorem dX7_comesToPlane_47 : decode cX7_comesToPlane 47 = .ok (.lmul, 1) := by decide +kernel
theorem dX7_comesToPlane_48 : decode cX7_comesToPlane 48 = .ok (.putfield 23, 3) := by decide +kernel
theorem dX7_comesToPlane_51 : decode cX7_comesToPlane 51 = .ok (.aload_n 0, 1) := by decide +kernel
theorem dX7_comesToPlane_52 : decode cX7_comesToPlane 52 = .ok (.aload_n 0, 1) := by decide +kernel
theorem dX7_comesToPlane_53 : decode cX7_comesToPlane 53 = .ok (.getfield 16, 3) := by decide +kernel
theorem dX7_comesToPlane_56 : decode cX7_comesToPlane 56 = .ok (.lneg, 1) := by decide +kernel
theorem dX7_comesToPlane_57 : decode cX7_comesToPlane 57 = .ok (.aload_n 1, 1) := by decide +kernel
theorem dX7_comesToPlane_58 : decode cX7_comesToPlane 58 = .ok (.iload_n 2, 1) := by decide +kernel
theorem dX7_comesToPlane_59 : decode cX7_comesToPlane 59 = .ok (.aload_n 0, 1) := by decide +kernel
theorem dX7_comesToPlane_60 : decode cX7_comesToPlane 60 = .ok (.getfield 7, 3) := by decide +kernel
theorem dX7_comesToPlane_63 : decode cX7_comesToPlane 63 = .ok (.iconst 0, 1) := by decide +kernel
theorem dX7_comesToPlane_64 : decode cX7_comesToPlane 64 = .ok (.laload, 1) := by decide +kernel
theorem dX7_comesToPlane_65 : decode cX7_comesToPlane 65 = .ok (.aload_n 0, 1) := by decide +kernel
theorem dX7_comesToPlane_66 : decode cX7_comesToPlane 66 = .ok (.getfield 7, 3) := by decide +kernel
theorem dX7_comesToPlane_69 : decode cX7_comesToPlane 69 = .ok (.iconst 1, 1) := by decide +kernel
theorem dX7_comesToPlane_70 : decode cX7_comesToPlane 70 = .ok (.laload, 1) := by decide +kernel
theorem dX7_comesToPlane_71 : decode cX7_comesToPlane 71 = .ok (.aload_n 0, 1) := by decide +kernel
theorem dX7_comesToPlane_72 : decode cX7_comesToPlane 72 = .ok (.getfield 7, 3) := by decide +kernel
theorem dX7_comesToPlane_75 : decode cX7_comesToPlane 75 = .ok (.iconst 2, 1) := by decide +kernel
theorem dX7_comesToPlane_76 : decode cX7_comesToPlane 76 = .ok (.laload, 1) := by decide +kernel
theorem dX7_comesToPlane_77 : decode cX7_comesToPlane 77 = .ok (.invokevirtual 50, 3) := by decide +kernel
theorem dX7_comesToPlane_80 : decode cX7_comesToPlane 80 = .ok (.lmul, 1) := by decide +kernel
theorem dX7_comesToPlane_81 : decode cX7_comesToPlane 81 = .ok (.putfield 20, 3) := by decide +kernel
theorem dX7_comesToPlane_84 : decode cX7_comesToPlane 84 = .ok (.aload_n 0, 1) := by decide +kernel
theorem dX7_comesToPlane_85 : decode cX7_comesToPlane 85 = .ok (.getfield 23, 3) := by decide +kernel
theorem dX7_comesToPlane_88 : decode cX7_comesToPlane 88 = .ok (.lconst 0, 1) := by decide +kernel
theorem dX7_comesToPlane_89 : decode cX7_comesToPlane 89 = .ok (.lcmp, 1) := by decide +kernel
theorem dX7_comesToPlane_90 : decode cX7_comesToPlane 90 = .ok (.ifCond .le 16, 3) := by decide +kernel
theorem dX7_comesToPlane_93 : decode cX7_comesToPlane 93 = .ok (.aload_n 0, 1) := by decide +kernel
theorem dX7_comesToPlane_94 : decode cX7_comesToPlane 94 = .ok (.getfield 20, 3) := by decide +kernel
theorem dX7_comesToPlane_97 : decode cX7_comesToPlane 97 = .ok (.lconst 0, 1) := by decide +kernel
theorem dX7_comesToPlane_98 : decode cX7_comesToPlane 98 = .ok (.lcmp, 1) := by decide +kernel
theorem dX7_comesToPlane_99 : decode cX7_comesToPlane 99 = .ok (.ifCond .le 7, 3) := by decide +kernel
theorem dX7_comesToPlane_102 : decode cX7_comesToPlane 102 = .ok (.iconst 1, 1) := by decide +kernel
theorem dX7_comesToPlane_103 : decode cX7_comesToPlane 103 = .ok (.goto 4, 3) := by decide +kernel
theorem dX7_comesToPlane_106 : decode cX7_comesToPlane 106 = .ok (.iconst 0, 1) := by decide +kernel
theorem dX7_comesToPlane_107 : decode cX7_comesToPlane 107 = .ok (.ireturn, 1) := by decide +kernel
theorem dX7_isInside_0 : decode cX7_isInside 0 = .ok (.aload_n 0, 1) := by decide +kernel
theorem dX7_isInside_1 : decode cX7_isInside 1 = .ok (.getfield 7, 3) := by decide +kernel
theorem dX7_isInside_4 : decode cX7_isInside 4 = .ok (.iconst 0, 1) := by decide +kernel
theorem dX7_isInside_5 : decode cX7_isInside 5 = .ok (.laload, 1) := by decide +kernel
theorem dX7_isInside_6 : decode cX7_isInside 6 = .ok (.aload_n 1, 1) := by decide +kernel
theorem dX7_isInside_7 : decode cX7_isInside 7 = .ok (.iload_n 2, 1) := by decide +kernel
theorem dX7_isInside_8 : decode cX7_isInside 8 = .ok (.iconst 0, 1) := by decide +kernel
theorem dX7_isInside_9 : decode cX7_isInside 9 = .ok (.iconst 0, 1) := by decide +kernel
theorem dX7_isInside_10 : decode cX7_isInside 10 = .ok (.invokevirtual 53, 3) := by decide +kernel
theorem dX7_isInside_13 : decode cX7_isInside 13 = .ok (.i2l, 1) := by decide +kernel
theorem dX7_isInside_14 : decode cX7_isInside 14 = .ok (.lsub, 1) := by decide +kernel
theorem dX7_isInside_15 : decode cX7_isInside 15 = .ok (.lstore_n 3, 1) := by decide +kernel
theorem dX7_isInside_16 : decode cX7_isInside 16 = .ok (.aload_n 0, 1) := by decide +kernel
theorem dX7_isInside_17 : decode cX7_isInside 17 = .ok (.getfield 7, 3) := by decide +kernel
theorem dX7_isInside_20 : decode cX7_isInside 20 = .ok (.iconst 1, 1) := by decide +kernel
theorem dX7_isInside_21 : decode cX7_isInside 21 = .ok (.laload, 1) := by decide +kernel
theorem dX7_isInside_22 : decode cX7_isInside 22 = .ok (.aload_n 1, 1) := by decide +kernel
theorem dX7_isInside_23 : decode cX7_isInside 23 = .ok (.iload_n 2, 1) := by decide +kernel
theorem dX7_isInside_24 : decode cX7_isInside 24 = .ok (.iconst 0, 1) := by decide +kernel
theorem dX7_isInside_25 : decode cX7_isInside 25 = .ok (.iconst 1, 1) := by decide +kernel
theorem dX7_isInside_26 : decode cX7_isInside 26 = .ok (.invokevirtual 53, 3) := by decide +kernel
theorem dX7_isInside_29 : decode cX7_isInside 29 = .ok (.i2l, 1) := by decide +kernel
theorem dX7_isInside_30 : decode cX7_isInside 30 = .ok (.lsub, 1) := by decide +kernel
theorem dX7_isInside_31 : decode cX7_isInside 31 = .ok (.lstore 5, 2) := by decide +kernel
theorem dX7_isInside_33 : decode cX7_isInside 33 = .ok (.aload_n 0, 1) := by decide +kernel
theorem dX7_isInside_34 : decode cX7_isInside 34 = .ok (.getfield 7, 3) := by decide +kernel
theorem dX7_isInside_37 : decode cX7_isInside 37 = .ok (.iconst 2, 1) := by decide +kernel
theorem dX7_isInside_38 : decode cX7_isInside 38 = .ok (.laload, 1) := by decide +kernel
theorem dX7_isInside_39 : decode cX7_isInside 39 = .ok (.aload_n 1, 1) := by decide +kernel
theorem dX7_isInside_40 : decode cX7_isInside 40 = .ok (.iload_n 2, 1) := by decide +kernel
theorem dX7_isInside_41 : decode cX7_isInside 41 = .ok (.iconst 0, 1) := by decide +kernel
theorem dX7_isInside_42 : decode cX7_isInside 42 = .ok (.iconst 2, 1) := by decide +kernel
theorem dX7_isInside_43 : decode cX7_isInside 43 = .ok (.invokevirtual 53, 3) := by decide +kernel
theorem dX7_isInside_46 : decode cX7_isInside 46 = .ok (.i2l, 1) := by decide +kernel
theorem dX7_isInside_47 : decode cX7_isInside 47 = .ok (.lsub, 1) := by decide +kernel
theorem dX7_isInside_48 : decode cX7_isInside 48 = .ok (.lstore 7, 2) := by decide +kernel
theorem dX7_isInside_50 : decode cX7_isInside 50 = .ok (.aload_n 0, 1) := by decide +kernel
theorem dX7_isInside_51 : decode cX7_isInside 51 = .ok (.getfield 16, 3) := by decide +kernel
theorem dX7_isInside_54 : decode cX7_isInside 54 = .ok (.aload_n 0, 1) := by decide +kernel
theorem dX7_isInside_55 : decode cX7_isInside 55 = .ok (.getfield 13, 3) := by decide +kernel
theorem dX7_isInside_58 : decode cX7_isInside 58 = .ok (.iconst 1, 1) := by decide +kernel
theorem dX7_isInside_59 : decode cX7_isInside 59 = .ok (.laload, 1) := by decide +kernel
theorem dX7_isInside_60 : decode cX7_isInside 60 = .ok (.lload 7, 2) := by decide +kernel
theorem dX7_isInside_62 : decode cX7_isInside 62 = .ok (.lmul, 1) := by decide +kernel
theorem dX7_isInside_63 : decode cX7_isInside 63 = .ok (.aload_n 0, 1) := by decide +kernel
theorem dX7_isInside_64 : decode cX7_isInside 64 = .ok (.getfield 13, 3) := by decide +kernel
theorem dX7_isInside_67 : decode cX7_isInside 67 = .ok (.iconst 2, 1) := by decide +kernel
theorem dX7_isInside_68 : decode cX7_isInside 68 = .ok (.laload, 1) := by decide +kernel
theorem dX7_isInside_69 : decode cX7_isInside 69 = .ok (.lload 5, 2) := by decide +kernel
theorem dX7_isInside_71 : decode cX7_isInside 71 = .ok (.lmul, 1) := by decide +kernel
theorem dX7_isInside_72 : decode cX7_isInside 72 = .ok (.lsub, 1) := by decide +kernel
theorem dX7_isInside_73 : decode cX7_isInside 73 = .ok (.lmul, 1) := by decide +kernel
theorem dX7_isInside_74 : decode cX7_isInside 74 = .ok (.lstore 9, 2) := by decide +kernel
theorem dX7_isInside_76 : decode cX7_isInside 76 = .ok (.aload_n 0, 1) := by decide +kernel
theorem dX7_isInside_77 : decode cX7_isInside 77 = .ok (.getfield 16, 3) := by decide +kernel
theorem dX7_isInside_80 : decode cX7_isInside 80 = .ok (.aload_n 0, 1) := by decide +kernel
theorem dX7_isInside_81 : decode cX7_isInside 81 = .ok (.getfield 13, 3) := by decide +kernel
theorem dX7_isInside_84 : decode cX7_isInside 84 = .ok (.iconst 2, 1) := by decide +kernel
theorem dX7_isInside_85 : decode cX7_isInside 85 = .ok (.laload, 1) := by decide +kernel
theorem dX7_isInside_86 : decode cX7_isInside 86 = .ok (.lload_n 3, 1) := by decide +kernel
theorem dX7_isInside_87 : decode cX7_isInside 87 = .ok (.lmul, 1) := by decide +kernel
theorem dX7_isInside_88 : decode cX7_isInside 88 = .ok (.aload_n 0, 1) := by decide +kernel
theorem dX7_isInside_89 : decode cX7_isInside 89 = .ok (.getfield 13, 3) := by decide +kernel
theorem dX7_isInside_92 : decode cX7_isInside 92 = .ok (.iconst 0, 1) := by decide +kernel
theorem dX7_isInside_93 : decode cX7_isInside 93 = .ok (.laload, 1) := by decide +kernel
theorem dX7_isInside_94 : decode cX7_isInside 94 = .ok (.lload 7, 2) := by decide +kernel
theorem dX7_isInside_96 : decode cX7_isInside 96 = .ok (.lmul, 1) := by decide +kernel
theorem dX7_isInside_97 : decode cX7_isInside 97 = .ok (.lsub, 1) := by decide +kernel
theorem dX7_isInside_98 : decode cX7_isInside 98 = .ok (.lmul, 1) := by decide +kernel
theorem dX7_isInside_99 : decode cX7_isInside 99 = .ok (.lstore 11, 2) := by decide +kernel
theorem dX7_isInside_101 : decode cX7_isInside 101 = .ok (.aload_n 0, 1) := by decide +kernel
theorem dX7_isInside_102 : decode cX7_isInside 102 = .ok (.getfield 16, 3) := by decide +kernel
theorem dX7_isInside_105 : decode cX7_isInside 105 = .ok (.aload_n 0, 1) := by decide +kernel
theorem dX7_isInside_106 : decode cX7_isInside 106 = .ok (.getfield 13, 3) := by decide +kernel
theorem dX7_isInside_109 : decode cX7_isInside 109 = .ok (.iconst 0, 1) := by decide +kernel
theorem dX7_isInside_110 : decode cX7_isInside 110 = .ok (.laload, 1) := by decide +kernel
theorem dX7_isInside_111 : decode cX7_isInside 111 = .ok (.lload 5, 2) := by decide +kernel
theorem dX7_isInside_113 : decode cX7_isInside 113 = .ok (.lmul, 1) := by decide +kernel
theorem dX7_isInside_114 : decode cX7_isInside 114 = .ok (.aload_n 0, 1) := by decide +kernel
theorem dX7_isInside_115 : decode cX7_isInside 115 = .ok (.getfield 13, 3) := by decide +kernel
theorem dX7_isInside_118 : decode cX7_isInside 118 = .ok (.iconst 1, 1) := by decide +kernel
theorem dX7_isInside_119 : decode cX7_isInside 119 = .ok (.laload, 1) := by decide +kernel
theorem dX7_isInside_120 : decode cX7_isInside 120 = .ok (.lload_n 3, 1) := by decide +kernel
theorem dX7_isInside_121 : decode cX7_isInside 121 = .ok (.lmul, 1) := by decide +kernel
theorem dX7_isInside_122 : decode cX7_isInside 122 = .ok (.lsub, 1) := by decide +kernel
theorem dX7_isInside_123 : decode cX7_isInside 123 = .ok (.lmul, 1) := by decide +kernel
theorem dX7_isInside_124 : decode cX7_isInside 124 = .ok (.lstore 13, 2) := by decide +kernel
theorem dX7_isInside_126 : decode cX7_isInside 126 = .ok (.aload_n 0, 1) := by decide +kernel
theorem dX7_isInside_127 : decode cX7_isInside 127 = .ok (.aload_n 1, 1) := by decide +kernel
theorem dX7_isInside_128 : decode cX7_isInside 128 = .ok (.iload_n 2, 1) := by decide +kernel
theorem dX7_isInside_129 : decode cX7_isInside 129 = .ok (.iconst 2, 1) := by decide +kernel
theorem dX7_isInside_130 : decode cX7_isInside 130 = .ok (.lload 9, 2) := by decide +kernel
theorem dX7_isInside_132 : decode cX7_isInside 132 = .ok (.lload 11, 2) := by decide +kernel
theorem dX7_isInside_134 : decode cX7_isInside 134 = .ok (.lload 13, 2) := by decide +kernel
theorem dX7_isInside_136 : decode cX7_isInside 136 = .ok (.invokevirtual 57, 3) := by decide +kernel
theorem dX7_isInside_139 : decode cX7_isInside 139 = .ok (.putfield 29, 3) := by decide +kernel
theorem dX7_isInside_142 : decode cX7_isInside 142 = .ok (.aload_n 0, 1) := by decide +kernel
theorem dX7_isInside_143 : decode cX7_isInside 143 = .ok (.aload_n 1, 1) := by decide +kernel
theorem dX7_isInside_144 : decode cX7_isInside 144 = .ok (.iload_n 2, 1) := by decide +kernel
theorem dX7_isInside_145 : decode cX7_isInside 145 = .ok (.iconst 1, 1) := by decide +kernel
theorem dX7_isInside_146 : decode cX7_isInside 146 = .ok (.lload 9, 2) := by decide +kernel
theorem dX7_isInside_148 : decode cX7_isInside 148 = .ok (.lload 11, 2) := by decide +kernel
theorem dX7_isInside_150 : decode cX7_isInside 150 = .ok (.lload 13, 2) := by decide +kernel
theorem dX7_isInside_152 : decode cX7_isInside 152 = .ok (.invokevirtual 57, 3) := by decide +kernel
theorem dX7_isInside_155 : decode cX7_isInside 155 = .ok (.lneg, 1) := by decide +kernel
theorem dX7_isInside_156 : decode cX7_isInside 156 = .ok (.putfield 32, 3) := by decide +kernel
theorem dX7_isInside_159 : decode cX7_isInside 159 = .ok (.aload_n 0, 1) := by decide +kernel
theorem dX7_isInside_160 : decode cX7_isInside 160 = .ok (.aload_n 0, 1) := by decide +kernel
theorem dX7_isInside_161 : decode cX7_isInside 161 = .ok (.getfield 23, 3) := by decide +kernel
theorem dX7_isInside_164 : decode cX7_isInside 164 = .ok (.aload_n 0, 1) := by decide +kernel
theorem dX7_isInside_165 : decode cX7_isInside 165 = .ok (.getfield 29, 3) := by decide +kernel
theorem dX7_isInside_168 : decode cX7_isInside 168 = .ok (.lsub, 1) := by decide +kernel
theorem dX7_isInside_169 : decode cX7_isInside 169 = .ok (.aload_n 0, 1) := by decide +kernel
theorem dX7_isInside_170 : decode cX7_isInside 170 = .ok (.getfield 32, 3) := by decide +kernel
theorem dX7_isInside_173 : decode cX7_isInside 173 = .ok (.lsub, 1) := by decide +kernel
theorem dX7_isInside_174 : decode cX7_isInside 174 = .ok (.putfield 26, 3) := by decide +kernel
theorem dX7_isInside_177 : decode cX7_isInside 177 = .ok (.aload_n 0, 1) := by decide +kernel
theorem dX7_isInside_178 : decode cX7_isInside 178 = .ok (.getfield 26, 3) := by decide +kernel
theorem dX7_isInside_181 : decode cX7_isInside 181 = .ok (.lconst 0, 1) := by decide +kernel
theorem dX7_isInside_182 : decode cX7_isInside 182 = .ok (.lcmp, 1) := by decide +kernel
theorem dX7_isInside_183 : decode cX7_isInside 183 = .ok (.ifCond .lt 25, 3) := by decide +kernel
theorem dX7_isInside_186 : decode cX7_isInside 186 = .ok (.aload_n 0, 1) := by decide +kernel
theorem dX7_isInside_187 : decode cX7_isInside 187 = .ok (.getfield 29, 3) := by decide +kernel
theorem dX7_isInside_190 : decode cX7_isInside 190 = .ok (.lconst 0, 1) := by decide +kernel
theorem dX7_isInside_191 : decode cX7_isInside 191 = .ok (.lcmp, 1) := by decide +kernel
theorem dX7_isInside_192 : decode cX7_isInside 192 = .ok (.ifCond .lt 16, 3) := by decide +kernel
theorem dX7_isInside_195 : decode cX7_isInside 195 = .ok (.aload_n 0, 1) := by decide +kernel
theorem dX7_isInside_196 : decode cX7_isInside 196 = .ok (.getfield 32, 3) := by decide +kernel
theorem dX7_isInside_199 : decode cX7_isInside 199 = .ok (.lconst 0, 1) := by decide +kernel
theorem dX7_isInside_200 : decode cX7_isInside 200 = .ok (.lcmp, 1) := by decide +kernel
theorem dX7_isInside_201 : decode cX7_isInside 201 = .ok (.ifCond .lt 7, 3) := by decide +kernel
theorem dX7_isInside_204 : decode cX7_isInside 204 = .ok (.iconst 1, 1) := by decide +kernel
theorem dX7_isInside_205 : decode cX7_isInside 205 = .ok (.goto 4, 3) := by decide +kernel
theorem dX7_isInside_208 : decode cX7_isInside 208 = .ok (.iconst 0, 1) := by decide +kernel
theorem dX7_isInside_209 : decode cX7_isInside 209 = .ok (.ireturn, 1) := by decide +kernel
