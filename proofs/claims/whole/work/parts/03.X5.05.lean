theorem dX5_init_0 : decode cX5_init 0 = .ok (.aload_n 0, 1) := by decide +kernel
theorem dX5_init_1 : decode cX5_init 1 = .ok (.invokespecial 3, 3) := by decide +kernel
theorem dX5_init_4 : decode cX5_init 4 = .ok (.aload_n 0, 1) := by decide +kernel
theorem dX5_init_5 : decode cX5_init 5 = .ok (.sipush 1152, 3) := by decide +kernel
theorem dX5_init_8 : decode cX5_init 8 = .ok (.newarray .int, 2) := by decide +kernel
theorem dX5_init_10 : decode cX5_init 10 = .ok (.putfield 9, 3) := by decide +kernel
theorem dX5_init_13 : decode cX5_init 13 = .ok (.aload_n 0, 1) := by decide +kernel
theorem dX5_init_14 : decode cX5_init 14 = .ok (.sipush 384, 3) := by decide +kernel
theorem dX5_init_17 : decode cX5_init 17 = .ok (.newarray .int, 2) := by decide +kernel
theorem dX5_init_19 : decode cX5_init 19 = .ok (.putfield 15, 3) := by decide +kernel
theorem dX5_init_22 : decode cX5_init 22 = .ok (.aload_n 0, 1) := by decide +kernel
theorem dX5_init_23 : decode cX5_init 23 = .ok (.sipush 128, 3) := by decide +kernel
theorem dX5_init_26 : decode cX5_init 26 = .ok (.newarray .int, 2) := by decide +kernel
theorem dX5_init_28 : decode cX5_init 28 = .ok (.putfield 18, 3) := by decide +kernel
theorem dX5_init_31 : decode cX5_init 31 = .ok (.aload_n 0, 1) := by decide +kernel
theorem dX5_init_32 : decode cX5_init 32 = .ok (.bipush 9, 2) := by decide +kernel
theorem dX5_init_34 : decode cX5_init 34 = .ok (.newarray .int, 2) := by decide +kernel
theorem dX5_init_36 : decode cX5_init 36 = .ok (.putfield 21, 3) := by decide +kernel
theorem dX5_init_39 : decode cX5_init 39 = .ok (.aload_n 0, 1) := by decide +kernel
theorem dX5_init_40 : decode cX5_init 40 = .ok (.iconst 3, 1) := by decide +kernel
theorem dX5_init_41 : decode cX5_init 41 = .ok (.newarray .int, 2) := by decide +kernel
theorem dX5_init_43 : decode cX5_init 43 = .ok (.putfield 24, 3) := by decide +kernel
theorem dX5_init_46 : decode cX5_init 46 = .ok (.aload_n 0, 1) := by decide +kernel
theorem dX5_init_47 : decode cX5_init 47 = .ok (.iconst 0, 1) := by decide +kernel
theorem dX5_init_48 : decode cX5_init 48 = .ok (.putfield 27, 3) := by decide +kernel
theorem dX5_init_51 : decode cX5_init 51 = .ok (.return_, 1) := by decide +kernel
theorem dX5_many_0 : decode cX5_many 0 = .ok (.aload_n 0, 1) := by decide +kernel
theorem dX5_many_1 : decode cX5_many 1 = .ok (.getfield 27, 3) := by decide +kernel
theorem dX5_many_4 : decode cX5_many 4 = .ok (.ireturn, 1) := by decide +kernel
theorem dX5_has_0 : decode cX5_has 0 = .ok (.iload_n 1, 1) := by decide +kernel
theorem dX5_has_1 : decode cX5_has 1 = .ok (.ifCond .lt 15, 3) := by decide +kernel
theorem dX5_has_4 : decode cX5_has 4 = .ok (.iload_n 1, 1) := by decide +kernel
theorem dX5_has_5 : decode cX5_has 5 = .ok (.aload_n 0, 1) := by decide +kernel
theorem dX5_has_6 : decode cX5_has 6 = .ok (.getfield 27, 3) := by decide +kernel
theorem dX5_has_9 : decode cX5_has 9 = .ok (.if_icmp .ge 7, 3) := by decide +kernel
theorem dX5_has_12 : decode cX5_has 12 = .ok (.iconst 1, 1) := by decide +kernel
theorem dX5_has_13 : decode cX5_has 13 = .ok (.goto 4, 3) := by decide +kernel
theorem dX5_has_16 : decode cX5_has 16 = .ok (.iconst 0, 1) := by decide +kernel
theorem dX5_has_17 : decode cX5_has 17 = .ok (.ireturn, 1) := by decide +kernel
theorem dX5_append_0 : decode cX5_append 0 = .ok (.aload_n 0, 1) := by decide +kernel
theorem dX5_append_1 : decode cX5_append 1 = .ok (.getfield 27, 3) := by decide +kernel
theorem dX5_append_4 : decode cX5_append 4 = .ok (.sipush 128, 3) := by decide +kernel
theorem dX5_append_7 : decode cX5_append 7 = .ok (.if_icmp .lt 5, 3) := by decide +kernel
theorem dX5_append_10 : decode cX5_append 10 = .ok (.iconst (-1), 1) := by decide +kernel
theorem dX5_append_11 : decode cX5_append 11 = .ok (.ireturn, 1) := by decide +kernel
theorem dX5_append_12 : decode cX5_append 12 = .ok (.iconst 0, 1) := by decide +kernel
theorem dX5_append_13 : decode cX5_append 13 = .ok (.istore_n 3, 1) := by decide +kernel
theorem dX5_append_14 : decode cX5_append 14 = .ok (.iload_n 3, 1) := by decide +kernel
theorem dX5_append_15 : decode cX5_append 15 = .ok (.iconst 3, 1) := by decide +kernel
theorem dX5_append_16 : decode cX5_append 16 = .ok (.if_icmp .ge 16, 3) := by decide +kernel
theorem dX5_append_19 : decode cX5_append 19 = .ok (.aload_n 0, 1) := by decide +kernel
theorem dX5_append_20 : decode cX5_append 20 = .ok (.iload_n 3, 1) := by decide +kernel
theorem dX5_append_21 : decode cX5_append 21 = .ok (.aload_n 1, 1) := by decide +kernel
theorem dX5_append_22 : decode cX5_append 22 = .ok (.iload_n 3, 1) := by decide +kernel
theorem dX5_append_23 : decode cX5_append 23 = .ok (.invokevirtual 31, 3) := by decide +kernel
theorem dX5_append_26 : decode cX5_append 26 = .ok (.iinc 3 1, 3) := by decide +kernel
theorem dX5_append_29 : decode cX5_append 29 = .ok (.goto (-15), 3) := by decide +kernel
theorem dX5_append_32 : decode cX5_append 32 = .ok (.aload_n 0, 1) := by decide +kernel
theorem dX5_append_33 : decode cX5_append 33 = .ok (.invokevirtual 35, 3) := by decide +kernel
theorem dX5_append_36 : decode cX5_append 36 = .ok (.ifCond .eq 6, 3) := by decide +kernel
theorem dX5_append_39 : decode cX5_append 39 = .ok (.bipush (-2), 2) := by decide +kernel
theorem dX5_append_41 : decode cX5_append 41 = .ok (.ireturn, 1) := by decide +kernel
theorem dX5_append_42 : decode cX5_append 42 = .ok (.aload_n 0, 1) := by decide +kernel
theorem dX5_append_43 : decode cX5_append 43 = .ok (.aload_n 0, 1) := by decide +kernel
theorem dX5_append_44 : decode cX5_append 44 = .ok (.getfield 27, 3) := by decide +kernel
theorem dX5_append_47 : decode cX5_append 47 = .ok (.invokevirtual 39, 3) := by decide +kernel
theorem dX5_append_50 : decode cX5_append 50 = .ok (.aload_n 0, 1) := by decide +kernel
theorem dX5_append_51 : decode cX5_append 51 = .ok (.getfield 18, 3) := by decide +kernel
theorem dX5_append_54 : decode cX5_append 54 = .ok (.aload_n 0, 1) := by decide +kernel
theorem dX5_append_55 : decode cX5_append 55 = .ok (.getfield 27, 3) := by decide +kernel
theorem dX5_append_58 : decode cX5_append 58 = .ok (.iload_n 2, 1) := by decide +kernel
theorem dX5_append_59 : decode cX5_append 59 = .ok (.iastore, 1) := by decide +kernel
theorem dX5_append_60 : decode cX5_append 60 = .ok (.aload_n 0, 1) := by decide +kernel
theorem dX5_append_61 : decode cX5_append 61 = .ok (.dup, 1) := by decide +kernel
theorem dX5_append_62 : decode cX5_append 62 = .ok (.getfield 27, 3) := by decide +kernel
theorem dX5_append_65 : decode cX5_append 65 = .ok (.iconst 1, 1) := by decide +kernel
theorem dX5_append_66 : decode cX5_append 66 = .ok (.iadd, 1) := by decide +kernel
theorem dX5_append_67 : decode cX5_append 67 = .ok (.putfield 27, 3) := by decide +kernel
theorem dX5_append_70 : decode cX5_append 70 = .ok (.aload_n 0, 1) := by decide +kernel
theorem dX5_append_71 : decode cX5_append 71 = .ok (.getfield 27, 3) := by decide +kernel
theorem dX5_append_74 : decode cX5_append 74 = .ok (.iconst 1, 1) := by decide +kernel
theorem dX5_append_75 : decode cX5_append 75 = .ok (.isub, 1) := by decide +kernel
theorem dX5_append_76 : decode cX5_append 76 = .ok (.ireturn, 1) := by decide +kernel
theorem dX5_bend_0 : decode cX5_bend 0 = .ok (.aload_n 0, 1) := by decide +kernel
theorem dX5_bend_1 : decode cX5_bend 1 = .ok (.getfield 9, 3) := by decide +kernel
theorem dX5_bend_4 : decode cX5_bend 4 = .ok (.bipush 9, 2) := by decide +kernel
theorem dX5_bend_6 : decode cX5_bend 6 = .ok (.iload_n 1, 1) := by decide +kernel
theorem dX5_bend_7 : decode cX5_bend 7 = .ok (.imul, 1) := by decide +kernel
theorem dX5_bend_8 : decode cX5_bend 8 = .ok (.aload_n 0, 1) := by decide +kernel
theorem dX5_bend_9 : decode cX5_bend 9 = .ok (.getfield 21, 3) := by decide +kernel
theorem dX5_bend_12 : decode cX5_bend 12 = .ok (.iconst 0, 1) := by decide +kernel
theorem dX5_bend_13 : decode cX5_bend 13 = .ok (.bipush 9, 2) := by decide +kernel
theorem dX5_bend_15 : decode cX5_bend 15 = .ok (.invokestatic 43, 3) := by decide +kernel
theorem dX5_bend_18 : decode cX5_bend 18 = .ok (.aload_n 0, 1) := by decide +kernel
theorem dX5_bend_19 : decode cX5_bend 19 = .ok (.iload_n 2, 1) := by decide +kernel
theorem dX5_bend_20 : decode cX5_bend 20 = .ok (.aload_n 3, 1) := by decide +kernel
theorem dX5_bend_21 : decode cX5_bend 21 = .ok (.iconst 0, 1) := by decide +kernel
theorem dX5_bend_22 : decode cX5_bend 22 = .ok (.invokevirtual 31, 3) := by decide +kernel
theorem dX5_bend_25 : decode cX5_bend 25 = .ok (.aload_n 0, 1) := by decide +kernel
theorem dX5_bend_26 : decode cX5_bend 26 = .ok (.invokevirtual 35, 3) := by decide +kernel
theorem dX5_bend_29 : decode cX5_bend 29 = .ok (.ifCond .eq 5, 3) := by decide +kernel
theorem dX5_bend_32 : decode cX5_bend 32 = .ok (.iconst 0, 1) := by decide +kernel
theorem dX5_bend_33 : decode cX5_bend 33 = .ok (.ireturn, 1) := by decide +kernel
theorem dX5_bend_34 : decode cX5_bend 34 = .ok (.aload_n 0, 1) := by decide +kernel
theorem dX5_bend_35 : decode cX5_bend 35 = .ok (.iload_n 1, 1) := by decide +kernel
theorem dX5_bend_36 : decode cX5_bend 36 = .ok (.invokevirtual 39, 3) := by decide +kernel
theorem dX5_bend_39 : decode cX5_bend 39 = .ok (.iconst 1, 1) := by decide +kernel
theorem dX5_bend_40 : decode cX5_bend 40 = .ok (.ireturn, 1) := by decide +kernel
theorem dX5_tryCorner_0 : decode cX5_tryCorner 0 = .ok (.iconst 0, 1) := by decide +kernel
theorem dX5_tryCorner_1 : decode cX5_tryCorner 1 = .ok (.istore 4, 2) := by decide +kernel
theorem dX5_tryCorner_3 : decode cX5_tryCorner 3 = .ok (.iload 4, 2) := by decide +kernel
theorem dX5_tryCorner_5 : decode cX5_tryCorner 5 = .ok (.iconst 3, 1) := by decide +kernel
theorem dX5_tryCorner_6 : decode cX5_tryCorner 6 = .ok (.if_icmp .ge 27, 3) := by decide +kernel
theorem dX5_tryCorner_9 : decode cX5_tryCorner 9 = .ok (.aload_n 0, 1) := by decide +kernel
theorem dX5_tryCorner_10 : decode cX5_tryCorner 10 = .ok (.getfield 21, 3) := by decide +kernel
theorem dX5_tryCorner_13 : decode cX5_tryCorner 13 = .ok (.iconst 3, 1) := by decide +kernel
theorem dX5_tryCorner_14 : decode cX5_tryCorner 14 = .ok (.iload_n 1, 1) := by decide +kernel
theorem dX5_tryCorner_15 : decode cX5_tryCorner 15 = .ok (.imul, 1) := by decide +kernel
theorem dX5_tryCorner_16 : decode cX5_tryCorner 16 = .ok (.iload 4, 2) := by decide +kernel
theorem dX5_tryCorner_18 : decode cX5_tryCorner 18 = .ok (.iadd, 1) := by decide +kernel
theorem dX5_tryCorner_19 : decode cX5_tryCorner 19 = .ok (.aload_n 2, 1) := by decide +kernel
theorem dX5_tryCorner_20 : decode cX5_tryCorner 20 = .ok (.iload_n 3, 1) := by decide +kernel
theorem dX5_tryCorner_21 : decode cX5_tryCorner 21 = .ok (.iload 4, 2) := by decide +kernel
theorem dX5_tryCorner_23 : decode cX5_tryCorner 23 = .ok (.invokevirtual 49, 3) := by decide +kernel
theorem dX5_tryCorner_26 : decode cX5_tryCorner 26 = .ok (.iastore, 1) := by decide +kernel
theorem dX5_tryCorner_27 : decode cX5_tryCorner 27 = .ok (.iinc 4 1, 3) := by decide +kernel
theorem dX5_tryCorner_30 : decode cX5_tryCorner 30 = .ok (.goto (-27), 3) := by decide +kernel
theorem dX5_tryCorner_33 : decode cX5_tryCorner 33 = .ok (.return_, 1) := by decide +kernel
theorem dX5_trialIsFlat_0 : decode cX5_trialIsFlat 0 = .ok (.aload_n 0, 1) := by decide +kernel
theorem dX5_trialIsFlat_1 : decode cX5_trialIsFlat 1 = .ok (.getfield 21, 3) := by decide +kernel
theorem dX5_trialIsFlat_4 : decode cX5_trialIsFlat 4 = .ok (.iconst 3, 1) := by decide +kernel
theorem dX5_trialIsFlat_5 : decode cX5_trialIsFlat 5 = .ok (.iaload, 1) := by decide +kernel
theorem dX5_trialIsFlat_6 : decode cX5_trialIsFlat 6 = .ok (.aload_n 0, 1) := by decide +kernel
theorem dX5_trialIsFlat_7 : decode cX5_trialIsFlat 7 = .ok (.getfield 21, 3) := by decide +kernel
theorem dX5_trialIsFlat_10 : decode cX5_trialIsFlat 10 = .ok (.iconst 0, 1) := by decide +kernel
theorem dX5_trialIsFlat_11 : decode cX5_trialIsFlat 11 = .ok (.iaload, 1) := by decide +kernel
theorem dX5_trialIsFlat_12 : decode cX5_trialIsFlat 12 = .ok (.isub, 1) := by decide +kernel
theorem dX5_trialIsFlat_13 : decode cX5_trialIsFlat 13 = .ok (.istore_n 1, 1) := by decide +kernel
theorem dX5_trialIsFlat_14 : decode cX5_trialIsFlat 14 = .ok (.aload_n 0, 1) := by decide +kernel
theorem dX5_trialIsFlat_15 : decode cX5_trialIsFlat 15 = .ok (.getfield 21, 3) := by decide +kernel
theorem dX5_trialIsFlat_18 : decode cX5_trialIsFlat 18 = .ok (.iconst 4, 1) := by decide +kernel
theorem dX5_trialIsFlat_19 : decode cX5_trialIsFlat 19 = .ok (.iaload, 1) := by decide +kernel
theorem dX5_trialIsFlat_20 : decode cX5_trialIsFlat 20 = .ok (.aload_n 0, 1) := by decide +kernel
theorem dX5_trialIsFlat_21 : decode cX5_trialIsFlat 21 = .ok (.getfield 21, 3) := by decide +kernel
theorem dX5_trialIsFlat_24 : decode cX5_trialIsFlat 24 = .ok (.iconst 1, 1) := by decide +kernel
theorem dX5_trialIsFlat_25 : decode cX5_trialIsFlat 25 = .ok (.iaload, 1) := by decide +kernel
theorem dX5_trialIsFlat_26 : decode cX5_trialIsFlat 26 = .ok (.isub, 1) := by decide +kernel
theorem dX5_trialIsFlat_27 : decode cX5_trialIsFlat 27 = .ok (.istore_n 2, 1) := by decide +kernel
theorem dX5_trialIsFlat_28 : decode cX5_trialIsFlat 28 = .ok (.aload_n 0, 1) := by decide +kernel
theorem dX5_trialIsFlat_29 : decode cX5_trialIsFlat 29 = .ok (.getfield 21, 3) := by decide +kernel
theorem dX5_trialIsFlat_32 : decode cX5_trialIsFlat 32 = .ok (.iconst 5, 1) := by decide +kernel
theorem dX5_trialIsFlat_33 : decode cX5_trialIsFlat 33 = .ok (.iaload, 1) := by decide +kernel
theorem dX5_trialIsFlat_34 : decode cX5_trialIsFlat 34 = .ok (.aload_n 0, 1) := by decide +kernel
theorem dX5_trialIsFlat_35 : decode cX5_trialIsFlat 35 = .ok (.getfield 21, 3) := by decide +kernel
theorem dX5_trialIsFlat_38 : decode cX5_trialIsFlat 38 = .ok (.iconst 2, 1) := by decide +kernel
theorem dX5_trialIsFlat_39 : decode cX5_trialIsFlat 39 = .ok (.iaload, 1) := by decide +kernel
theorem dX5_trialIsFlat_40 : decode cX5_trialIsFlat 40 = .ok (.isub, 1) := by decide +kernel
theorem dX5_trialIsFlat_41 : decode cX5_trialIsFlat 41 = .ok (.istore_n 3, 1) := by decide +kernel
theorem dX5_trialIsFlat_42 : decode cX5_trialIsFlat 42 = .ok (.aload_n 0, 1) := by decide +kernel
theorem dX5_trialIsFlat_43 : decode cX5_trialIsFlat 43 = .ok (.getfield 21, 3) := by decide +kernel
theorem dX5_trialIsFlat_46 : decode cX5_trialIsFlat 46 = .ok (.bipush 6, 2) := by decide +kernel
theorem dX5_trialIsFlat_48 : decode cX5_trialIsFlat 48 = .ok (.iaload, 1) := by decide +kernel
theorem dX5_trialIsFlat_49 : decode cX5_trialIsFlat 49 = .ok (.aload_n 0, 1) := by decide +kernel
theorem dX5_trialIsFlat_50 : decode cX5_trialIsFlat 50 = .ok (.getfield 21, 3) := by decide +kernel
theorem dX5_trialIsFlat_53 : decode cX5_trialIsFlat 53 = .ok (.iconst 0, 1) := by decide +kernel
theorem dX5_trialIsFlat_54 : decode cX5_trialIsFlat 54 = .ok (.iaload, 1) := by decide +kernel
theorem dX5_trialIsFlat_55 : decode cX5_trialIsFlat 55 = .ok (.isub, 1) := by decide +kernel
theorem dX5_trialIsFlat_56 : decode cX5_trialIsFlat 56 = .ok (.istore 4, 2) := by decide +kernel
theorem dX5_trialIsFlat_58 : decode cX5_trialIsFlat 58 = .ok (.aload_n 0, 1) := by decide +kernel
theorem dX5_trialIsFlat_59 : decode cX5_trialIsFlat 59 = .ok (.getfield 21, 3) := by decide +kernel
theorem dX5_trialIsFlat_62 : decode cX5_trialIsFlat 62 = .ok (.bipush 7, 2) := by decide +kernel
theorem dX5_trialIsFlat_64 : decode cX5_trialIsFlat 64 = .ok (.iaload, 1) := by decide +kernel
theorem dX5_trialIsFlat_65 : decode cX5_trialIsFlat 65 = .ok (.aload_n 0, 1) := by decide +kernel
theorem dX5_trialIsFlat_66 : decode cX5_trialIsFlat 66 = .ok (.getfield 21, 3) := by decide +kernel
theorem dX5_trialIsFlat_69 : decode cX5_trialIsFlat 69 = .ok (.iconst 1, 1) := by decide +kernel
theorem dX5_trialIsFlat_70 : decode cX5_trialIsFlat 70 = .ok (.iaload, 1) := by decide +kernel
theorem dX5_trialIsFlat_71 : decode cX5_trialIsFlat 71 = .ok (.isub, 1) := by decide +kernel
theorem dX5_trialIsFlat_72 : decode cX5_trialIsFlat 72 = .ok (.istore 5, 2) := by decide +kernel
theorem dX5_trialIsFlat_74 : decode cX5_trialIsFlat 74 = .ok (.aload_n 0, 1) := by decide +kernel
theorem dX5_trialIsFlat_75 : decode cX5_trialIsFlat 75 = .ok (.getfield 21, 3) := by decide +kernel
theorem dX5_trialIsFlat_78 : decode cX5_trialIsFlat 78 = .ok (.bipush 8, 2) := by decide +kernel
theorem dX5_trialIsFlat_80 : decode cX5_trialIsFlat 80 = .ok (.iaload, 1) := by decide +kernel
theorem dX5_trialIsFlat_81 : decode cX5_trialIsFlat 81 = .ok (.aload_n 0, 1) := by decide +kernel
theorem dX5_trialIsFlat_82 : decode cX5_trialIsFlat 82 = .ok (.getfield 21, 3) := by decide +kernel
theorem dX5_trialIsFlat_85 : decode cX5_trialIsFlat 85 = .ok (.iconst 2, 1) := by decide +kernel
theorem dX5_trialIsFlat_86 : decode cX5_trialIsFlat 86 = .ok (.iaload, 1) := by decide +kernel
theorem dX5_trialIsFlat_87 : decode cX5_trialIsFlat 87 = .ok (.isub, 1) := by decide +kernel
theorem dX5_trialIsFlat_88 : decode cX5_trialIsFlat 88 = .ok (.istore 6, 2) := by decide +kernel
theorem dX5_trialIsFlat_90 : decode cX5_trialIsFlat 90 = .ok (.aload_n 0, 1) := by decide +kernel
theorem dX5_trialIsFlat_91 : decode cX5_trialIsFlat 91 = .ok (.getfield 24, 3) := by decide +kernel
theorem dX5_trialIsFlat_94 : decode cX5_trialIsFlat 94 = .ok (.iconst 0, 1) := by decide +kernel
theorem dX5_trialIsFlat_95 : decode cX5_trialIsFlat 95 = .ok (.iload_n 2, 1) := by decide +kernel
theorem dX5_trialIsFlat_96 : decode cX5_trialIsFlat 96 = .ok (.iload 6, 2) := by decide +kernel
theorem dX5_trialIsFlat_98 : decode cX5_trialIsFlat 98 = .ok (.imul, 1) := by decide +kernel
theorem dX5_trialIsFlat_99 : decode cX5_trialIsFlat 99 = .ok (.iload_n 3, 1) := by decide +kernel
theorem dX5_trialIsFlat_100 : decode cX5_trialIsFlat 100 = .ok (.iload 5, 2) := by decide +kernel
theorem dX5_trialIsFlat_102 : decode cX5_trialIsFlat 102 = .ok (.imul, 1) := by decide +kernel
theorem dX5_trialIsFlat_103 : decode cX5_trialIsFlat 103 = .ok (.isub, 1) := by decide +kernel
theorem dX5_trialIsFlat_104 : decode cX5_trialIsFlat 104 = .ok (.iastore, 1) := by decide +kernel
theorem dX5_trialIsFlat_105 : decode cX5_trialIsFlat 105 = .ok (.aload_n 0, 1) := by decide +kernel
theorem dX5_trialIsFlat_106 : decode cX5_trialIsFlat 106 = .ok (.getfield 24, 3) := by decide +kernel
theorem dX5_trialIsFlat_109 : decode cX5_trialIsFlat 109 = .ok (.iconst 1, 1) := by decide +kernel
theorem dX5_trialIsFlat_110 : decode cX5_trialIsFlat 110 = .ok (.iload_n 3, 1) := by decide +kernel
theorem dX5_trialIsFlat_111 : decode cX5_trialIsFlat 111 = .ok (.iload 4, 2) := by decide +kernel
theorem dX5_trialIsFlat_113 : decode cX5_trialIsFlat 113 = .ok (.imul, 1) := by decide +kernel
theorem dX5_trialIsFlat_114 : decode cX5_trialIsFlat 114 = .ok (.iload_n 1, 1) := by decide +kernel
theorem dX5_trialIsFlat_115 : decode cX5_trialIsFlat 115 = .ok (.iload 6, 2) := by decide +kernel
theorem dX5_trialIsFlat_117 : decode cX5_trialIsFlat 117 = .ok (.imul, 1) := by decide +kernel
theorem dX5_trialIsFlat_118 : decode cX5_trialIsFlat 118 = .ok (.isub, 1) := by decide +kernel
theorem dX5_trialIsFlat_119 : decode cX5_trialIsFlat 119 = .ok (.iastore, 1) := by decide +kernel
theorem dX5_trialIsFlat_120 : decode cX5_trialIsFlat 120 = .ok (.aload_n 0, 1) := by decide +kernel
theorem dX5_trialIsFlat_121 : decode cX5_trialIsFlat 121 = .ok (.getfield 24, 3) := by decide +kernel
theorem dX5_trialIsFlat_124 : decode cX5_trialIsFlat 124 = .ok (.iconst 2, 1) := by decide +kernel
theorem dX5_trialIsFlat_125 : decode cX5_trialIsFlat 125 = .ok (.iload_n 1, 1) := by decide +kernel
theorem dX5_trialIsFlat_126 : decode cX5_trialIsFlat 126 = .ok (.iload 5, 2) := by decide +kernel
theorem dX5_trialIsFlat_128 : decode cX5_trialIsFlat 128 = .ok (.imul, 1) := by decide +kernel
theorem dX5_trialIsFlat_129 : decode cX5_trialIsFlat 129 = .ok (.iload_n 2, 1) := by decide +kernel
theorem dX5_trialIsFlat_130 : decode cX5_trialIsFlat 130 = .ok (.iload 4, 2) := by decide +kernel
theorem dX5_trialIsFlat_132 : decode cX5_trialIsFlat 132 = .ok (.imul, 1) := by decide +kernel
theorem dX5_trialIsFlat_133 : decode cX5_trialIsFlat 133 = .ok (.isub, 1) := by decide +kernel
theorem dX5_trialIsFlat_134 : decode cX5_trialIsFlat 134 = .ok (.iastore, 1) := by decide +kernel
theorem dX5_trialIsFlat_135 : decode cX5_trialIsFlat 135 = .ok (.aload_n 0, 1) := by decide +kernel
theorem dX5_trialIsFlat_136 : decode cX5_trialIsFlat 136 = .ok (.getfield 24, 3) := by decide +kernel
theorem dX5_trialIsFlat_139 : decode cX5_trialIsFlat 139 = .ok (.iconst 0, 1) := by decide +kernel
theorem dX5_trialIsFlat_140 : decode cX5_trialIsFlat 140 = .ok (.iaload, 1) := by decide +kernel
theorem dX5_trialIsFlat_141 : decode cX5_trialIsFlat 141 = .ok (.ifCond .ne 25, 3) := by decide +kernel
theorem dX5_trialIsFlat_144 : decode cX5_trialIsFlat 144 = .ok (.aload_n 0, 1) := by decide +kernel
theorem dX5_trialIsFlat_145 : decode cX5_trialIsFlat 145 = .ok (.getfield 24, 3) := by decide +kernel
theorem dX5_trialIsFlat_148 : decode cX5_trialIsFlat 148 = .ok (.iconst 1, 1) := by decide +kernel
theorem dX5_trialIsFlat_149 : decode cX5_trialIsFlat 149 = .ok (.iaload, 1) := by decide +kernel
theorem dX5_trialIsFlat_150 : decode cX5_trialIsFlat 150 = .ok (.ifCond .ne 16, 3) := by decide +kernel
theorem dX5_trialIsFlat_153 : decode cX5_trialIsFlat 153 = .ok (.aload_n 0, 1) := by decide +kernel
theorem dX5_trialIsFlat_154 : decode cX5_trialIsFlat 154 = .ok (.getfield 24, 3) := by decide +kernel
theorem dX5_trialIsFlat_157 : decode cX5_trialIsFlat 157 = .ok (.iconst 2, 1) := by decide +kernel
theorem dX5_trialIsFlat_158 : decode cX5_trialIsFlat 158 = .ok (.iaload, 1) := by decide +kernel
theorem dX5_trialIsFlat_159 : decode cX5_trialIsFlat 159 = .ok (.ifCond .ne 7, 3) := by decide +kernel
theorem dX5_trialIsFlat_162 : decode cX5_trialIsFlat 162 = .ok (.iconst 1, 1) := by decide +kernel
theorem dX5_trialIsFlat_163 : decode cX5_trialIsFlat 163 = .ok (.goto 4, 3) := by decide +kernel
theorem dX5_trialIsFlat_166 : decode cX5_trialIsFlat 166 = .ok (.iconst 0, 1) := by decide +kernel
theorem dX5_trialIsFlat_167 : decode cX5_trialIsFlat 167 = .ok (.ireturn, 1) := by decide +kernel
theorem dX5_storeTrial_0 : decode cX5_storeTrial 0 = .ok (.aload_n 0, 1) := by decide +kernel
theorem dX5_storeTrial_1 : decode cX5_storeTrial 1 = .ok (.getfield 21, 3) := by decide +kernel
theorem dX5_storeTrial_4 : decode cX5_storeTrial 4 = .ok (.iconst 0, 1) := by decide +kernel
theorem dX5_storeTrial_5 : decode cX5_storeTrial 5 = .ok (.aload_n 0, 1) := by decide +kernel
theorem dX5_storeTrial_6 : decode cX5_storeTrial 6 = .ok (.getfield 9, 3) := by decide +kernel
theorem dX5_storeTrial_9 : decode cX5_storeTrial 9 = .ok (.bipush 9, 2) := by decide +kernel
theorem dX5_storeTrial_11 : decode cX5_storeTrial 11 = .ok (.iload_n 1, 1) := by decide +kernel
theorem dX5_storeTrial_12 : decode cX5_storeTrial 12 = .ok (.imul, 1) := by decide +kernel
theorem dX5_storeTrial_13 : decode cX5_storeTrial 13 = .ok (.bipush 9, 2) := by decide +kernel
theorem dX5_storeTrial_15 : decode cX5_storeTrial 15 = .ok (.invokestatic 43, 3) := by decide +kernel
theorem dX5_storeTrial_18 : decode cX5_storeTrial 18 = .ok (.aload_n 0, 1) := by decide +kernel
theorem dX5_storeTrial_19 : decode cX5_storeTrial 19 = .ok (.getfield 24, 3) := by decide +kernel
theorem dX5_storeTrial_22 : decode cX5_storeTrial 22 = .ok (.iconst 0, 1) := by decide +kernel
theorem dX5_storeTrial_23 : decode cX5_storeTrial 23 = .ok (.aload_n 0, 1) := by decide +kernel
theorem dX5_storeTrial_24 : decode cX5_storeTrial 24 = .ok (.getfield 15, 3) := by decide +kernel
theorem dX5_storeTrial_27 : decode cX5_storeTrial 27 = .ok (.iconst 3, 1) := by decide +kernel
theorem dX5_storeTrial_28 : decode cX5_storeTrial 28 = .ok (.iload_n 1, 1) := by decide +kernel
theorem dX5_storeTrial_29 : decode cX5_storeTrial 29 = .ok (.imul, 1) := by decide +kernel
theorem dX5_storeTrial_30 : decode cX5_storeTrial 30 = .ok (.iconst 3, 1) := by decide +kernel
theorem dX5_storeTrial_31 : decode cX5_storeTrial 31 = .ok (.invokestatic 43, 3) := by decide +kernel
theorem dX5_storeTrial_34 : decode cX5_storeTrial 34 = .ok (.return_, 1) := by decide +kernel
theorem dX5_at_0 : decode cX5_at 0 = .ok (.aload_n 0, 1) := by decide +kernel
theorem dX5_at_1 : decode cX5_at 1 = .ok (.getfield 9, 3) := by decide +kernel
theorem dX5_at_4 : decode cX5_at 4 = .ok (.bipush 9, 2) := by decide +kernel
theorem dX5_at_6 : decode cX5_at 6 = .ok (.iload_n 1, 1) := by decide +kernel
theorem dX5_at_7 : decode cX5_at 7 = .ok (.imul, 1) := by decide +kernel
theorem dX5_at_8 : decode cX5_at 8 = .ok (.iconst 3, 1) := by decide +kernel
theorem dX5_at_9 : decode cX5_at 9 = .ok (.iload_n 2, 1) := by decide +kernel
theorem dX5_at_10 : decode cX5_at 10 = .ok (.imul, 1) := by decide +kernel
theorem dX5_at_11 : decode cX5_at 11 = .ok (.iadd, 1) := by decide +kernel
theorem dX5_at_12 : decode cX5_at 12 = .ok (.iload_n 3, 1) := by decide +kernel
theorem dX5_at_13 : decode cX5_at 13 = .ok (.iadd, 1) := by decide +kernel
theorem dX5_at_14 : decode cX5_at 14 = .ok (.iaload, 1) := by decide +kernel
theorem dX5_at_15 : decode cX5_at 15 = .ok (.ireturn, 1) := by decide +kernel
theorem dX5_tone_0 : decode cX5_tone 0 = .ok (.aload_n 0, 1) := by decide +kernel
theorem dX5_tone_1 : decode cX5_tone 1 = .ok (.getfield 18, 3) := by decide +kernel
theorem dX5_tone_4 : decode cX5_tone 4 = .ok (.iload_n 1, 1) := by decide +kernel
theorem dX5_tone_5 : decode cX5_tone 5 = .ok (.iaload, 1) := by decide +kernel
theorem dX5_tone_6 : decode cX5_tone 6 = .ok (.ireturn, 1) := by decide +kernel
theorem dX5_changeTone_0 : decode cX5_changeTone 0 = .ok (.aload_n 0, 1) := by decide +kernel
theorem dX5_changeTone_1 : decode cX5_changeTone 1 = .ok (.getfield 18, 3) := by decide +kernel
theorem dX5_changeTone_4 : decode cX5_changeTone 4 = .ok (.iload_n 1, 1) := by decide +kernel
theorem dX5_changeTone_5 : decode cX5_changeTone 5 = .ok (.iaload, 1) := by decide +kernel
theorem dX5_changeTone_6 : decode cX5_changeTone 6 = .ok (.istore_n 3, 1) := by decide +kernel
theorem dX5_changeTone_7 : decode cX5_changeTone 7 = .ok (.aload_n 0, 1) := by decide +kernel
theorem dX5_changeTone_8 : decode cX5_changeTone 8 = .ok (.getfield 18, 3) := by decide +kernel
theorem dX5_changeTone_11 : decode cX5_changeTone 11 = .ok (.iload_n 1, 1) := by decide +kernel
theorem dX5_changeTone_12 : decode cX5_changeTone 12 = .ok (.iload_n 2, 1) := by decide +kernel
theorem dX5_changeTone_13 : decode cX5_changeTone 13 = .ok (.iastore, 1) := by decide +kernel
theorem dX5_changeTone_14 : decode cX5_changeTone 14 = .ok (.iload_n 3, 1) := by decide +kernel
theorem dX5_changeTone_15 : decode cX5_changeTone 15 = .ok (.ireturn, 1) := by decide +kernel
theorem dX5_normal_0 : decode cX5_normal 0 = .ok (.aload_n 0, 1) := by decide +kernel
theorem dX5_normal_1 : decode cX5_normal 1 = .ok (.getfield 15, 3) := by decide +kernel
theorem dX5_normal_4 : decode cX5_normal 4 = .ok (.iconst 3, 1) := by decide +kernel
theorem dX5_normal_5 : decode cX5_normal 5 = .ok (.iload_n 1, 1) := by decide +kernel
theorem dX5_normal_6 : decode cX5_normal 6 = .ok (.imul, 1) := by decide +kernel
theorem dX5_normal_7 : decode cX5_normal 7 = .ok (.iload_n 2, 1) := by decide +kernel
theorem dX5_normal_8 : decode cX5_normal 8 = .ok (.iadd, 1) := by decide +kernel
theorem dX5_normal_9 : decode cX5_normal 9 = .ok (.iaload, 1) := by decide +kernel
theorem dX5_normal_10 : decode cX5_normal 10 = .ok (.ireturn, 1) := by decide +kernel
theorem dX5_alongNormal_0 : decode cX5_alongNormal 0 = .ok (.lload_n 2, 1) := by decide +kernel
theorem dX5_alongNormal_1 : decode cX5_alongNormal 1 = .ok (.aload_n 0, 1) := by decide +kernel
theorem dX5_alongNormal_2 : decode cX5_alongNormal 2 = .ok (.getfield 15, 3) := by decide +kernel
theorem dX5_alongNormal_5 : decode cX5_alongNormal 5 = .ok (.iconst 3, 1) := by decide +kernel
theorem dX5_alongNormal_6 : decode cX5_alongNormal 6 = .ok (.iload_n 1, 1) := by decide +kernel
theorem dX5_alongNormal_7 : decode cX5_alongNormal 7 = .ok (.imul, 1) := by decide +kernel
theorem dX5_alongNormal_8 : decode cX5_alongNormal 8 = .ok (.iaload, 1) := by decide +kernel
theorem dX5_alongNormal_9 : decode cX5_alongNormal 9 = .ok (.i2l, 1) := by decide +kernel
theorem dX5_alongNormal_10 : decode cX5_alongNormal 10 = .ok (.lmul, 1) := by decide +kernel
theorem dX5_alongNormal_11 : decode cX5_alongNormal 11 = .ok (.lload 4, 2) := by decide +kernel
theorem dX5_alongNormal_13 : decode cX5_alongNormal 13 = .ok (.aload_n 0, 1) := by decide +kernel
theorem dX5_alongNormal_14 : decode cX5_alongNormal 14 = .ok (.getfield 15, 3) := by decide +kernel
theorem dX5_alongNormal_17 : decode cX5_alongNormal 17 = .ok (.iconst 3, 1) := by decide +kernel
theorem dX5_alongNormal_18 : decode cX5_alongNormal 18 = .ok (.iload_n 1, 1) := by decide +kernel
theorem dX5_alongNormal_19 : decode cX5_alongNormal 19 = .ok (.imul, 1) := by decide +kernel
theorem dX5_alongNormal_20 : decode cX5_alongNormal 20 = .ok (.iconst 1, 1) := by decide +kernel
theorem dX5_alongNormal_21 : decode cX5_alongNormal 21 = .ok (.iadd, 1) := by decide +kernel
theorem dX5_alongNormal_22 : decode cX5_alongNormal 22 = .ok (.iaload, 1) := by decide +kernel
theorem dX5_alongNormal_23 : decode cX5_alongNormal 23 = .ok (.i2l, 1) := by decide +kernel
theorem dX5_alongNormal_24 : decode cX5_alongNormal 24 = .ok (.lmul, 1) := by decide +kernel
theorem dX5_alongNormal_25 : decode cX5_alongNormal 25 = .ok (.ladd, 1) := by decide +kernel
theorem dX5_alongNormal_26 : decode cX5_alongNormal 26 = .ok (.lload 6, 2) := by decide +kernel
theorem dX5_alongNormal_28 : decode cX5_alongNormal 28 = .ok (.aload_n 0, 1) := by decide +kernel
theorem dX5_alongNormal_29 : decode cX5_alongNormal 29 = .ok (.getfield 15, 3) := by decide +kernel
theorem dX5_alongNormal_32 : decode cX5_alongNormal 32 = .ok (.iconst 3, 1) := by decide +kernel
theorem dX5_alongNormal_33 : decode cX5_alongNormal 33 = .ok (.iload_n 1, 1) := by decide +kernel
theorem dX5_alongNormal_34 : decode cX5_alongNormal 34 = .ok (.imul, 1) := by decide +kernel
theorem dX5_alongNormal_35 : decode cX5_alongNormal 35 = .ok (.iconst 2, 1) := by decide +kernel
theorem dX5_alongNormal_36 : decode cX5_alongNormal 36 = .ok (.iadd, 1) := by decide +kernel
theorem dX5_alongNormal_37 : decode cX5_alongNormal 37 = .ok (.iaload, 1) := by decide +kernel
theorem dX5_alongNormal_38 : decode cX5_alongNormal 38 = .ok (.i2l, 1) := by decide +kernel
theorem dX5_alongNormal_39 : decode cX5_alongNormal 39 = .ok (.lmul, 1) := by decide +kernel
theorem dX5_alongNormal_40 : decode cX5_alongNormal 40 = .ok (.ladd, 1) := by decide +kernel
theorem dX5_alongNormal_41 : decode cX5_alongNormal 41 = .ok (.lreturn, 1) := by decide +kernel
theorem dX5_alongEdge_0 : decode cX5_alongEdge 0 = .ok (.bipush 9, 2) := by decide +kernel
theorem dX5_alongEdge_2 : decode cX5_alongEdge 2 = .ok (.iload_n 1, 1) := by decide +kernel
theorem dX5_alongEdge_3 : decode cX5_alongEdge 3 = .ok (.imul, 1) := by decide +kernel
theorem dX5_alongEdge_4 : decode cX5_alongEdge 4 = .ok (.istore 9, 2) := by decide +kernel
theorem dX5_alongEdge_6 : decode cX5_alongEdge 6 = .ok (.iload 9, 2) := by decide +kernel
theorem dX5_alongEdge_8 : decode cX5_alongEdge 8 = .ok (.iconst 3, 1) := by decide +kernel
theorem dX5_alongEdge_9 : decode cX5_alongEdge 9 = .ok (.iload_n 2, 1) := by decide +kernel
theorem dX5_alongEdge_10 : decode cX5_alongEdge 10 = .ok (.imul, 1) := by decide +kernel
theorem dX5_alongEdge_11 : decode cX5_alongEdge 11 = .ok (.iadd, 1) := by decide +kernel
theorem dX5_alongEdge_12 : decode cX5_alongEdge 12 = .ok (.istore 10, 2) := by decide +kernel
theorem dX5_alongEdge_14 : decode cX5_alongEdge 14 = .ok (.lload_n 3, 1) := by decide +kernel
theorem dX5_alongEdge_15 : decode cX5_alongEdge 15 = .ok (.aload_n 0, 1) := by decide +kernel
theorem dX5_alongEdge_16 : decode cX5_alongEdge 16 = .ok (.getfield 9, 3) := by decide +kernel
theorem dX5_alongEdge_19 : decode cX5_alongEdge 19 = .ok (.iload 10, 2) := by decide +kernel
theorem dX5_alongEdge_21 : decode cX5_alongEdge 21 = .ok (.iaload, 1) := by decide +kernel
theorem dX5_alongEdge_22 : decode cX5_alongEdge 22 = .ok (.aload_n 0, 1) := by decide +kernel
theorem dX5_alongEdge_23 : decode cX5_alongEdge 23 = .ok (.getfield 9, 3) := by decide +kernel
theorem dX5_alongEdge_26 : decode cX5_alongEdge 26 = .ok (.iload 9, 2) := by decide +kernel
theorem dX5_alongEdge_28 : decode cX5_alongEdge 28 = .ok (.iaload, 1) := by decide +kernel
theorem dX5_alongEdge_29 : decode cX5_alongEdge 29 = .ok (.isub, 1) := by decide +kernel
theorem dX5_alongEdge_30 : decode cX5_alongEdge 30 = .ok (.i2l, 1) := by decide +kernel
theorem dX5_alongEdge_31 : decode cX5_alongEdge 31 = .ok (.lmul, 1) := by decide +kernel
theorem dX5_alongEdge_32 : decode cX5_alongEdge 32 = .ok (.lload 5, 2) := by decide +kernel
theorem dX5_alongEdge_34 : decode cX5_alongEdge 34 = .ok (.aload_n 0, 1) := by decide +kernel
theorem dX5_alongEdge_35 : decode cX5_alongEdge 35 = .ok (.getfield 9, 3) := by decide +kernel
theorem dX5_alongEdge_38 : decode cX5_alongEdge 38 = .ok (.iload 10, 2) := by decide +kernel
theorem dX5_alongEdge_40 : decode cX5_alongEdge 40 = .ok (.iconst 1, 1) := by decide +kernel
theorem dX5_alongEdge_41 : decode cX5_alongEdge 41 = .ok (.iadd, 1) := by decide +kernel
theorem dX5_alongEdge_42 : decode cX5_alongEdge 42 = .ok (.iaload, 1) := by decide +kernel
theorem dX5_alongEdge_43 : decode cX5_alongEdge 43 = .ok (.aload_n 0, 1) := by decide +kernel
theorem dX5_alongEdge_44 : decode cX5_alongEdge 44 = .ok (.getfield 9, 3) := by decide +kernel
theorem dX5_alongEdge_47 : decode cX5_alongEdge 47 = .ok (.iload 9, 2) := by decide +kernel
theorem dX5_alongEdge_49 : decode cX5_alongEdge 49 = .ok (.iconst 1, 1) := by decide +kernel
theorem dX5_alongEdge_50 : decode cX5_alongEdge 50 = .ok (.iadd, 1) := by decide +kernel
theorem dX5_alongEdge_51 : decode cX5_alongEdge 51 = .ok (.iaload, 1) := by decide +kernel
theorem dX5_alongEdge_52 : decode cX5_alongEdge 52 = .ok (.isub, 1) := by decide +kernel
theorem dX5_alongEdge_53 : decode cX5_alongEdge 53 = .ok (.i2l, 1) := by decide +kernel
theorem dX5_alongEdge_54 : decode cX5_alongEdge 54 = .ok (.lmul, 1) := by decide +kernel
theorem dX5_alongEdge_55 : decode cX5_alongEdge 55 = .ok (.ladd, 1) := by decide +kernel
theorem dX5_alongEdge_56 : decode cX5_alongEdge 56 = .ok (.lload 7, 2) := by decide +kernel
theorem dX5_alongEdge_58 : decode cX5_alongEdge 58 = .ok (.aload_n 0, 1) := by decide +kernel
theorem dX5_alongEdge_59 : decode cX5_alongEdge 59 = .ok (.getfield 9, 3) := by decide +kernel
theorem dX5_alongEdge_62 : decode cX5_alongEdge 62 = .ok (.iload 10, 2) := by decide +kernel
theorem dX5_alongEdge_64 : decode cX5_alongEdge 64 = .ok (.iconst 2, 1) := by decide +kernel
theorem dX5_alongEdge_65 : decode cX5_alongEdge 65 = .ok (.iadd, 1) := by decide +kernel
theorem dX5_alongEdge_66 : decode cX5_alongEdge 66 = .ok (.iaload, 1) := by decide +kernel
theorem dX5_alongEdge_67 : decode cX5_alongEdge 67 = .ok (.aload_n 0, 1) := by decide +kernel
theorem dX5_alongEdge_68 : decode cX5_alongEdge 68 = .ok (.getfield 9, 3) := by decide +kernel
theorem dX5_alongEdge_71 : decode cX5_alongEdge 71 = .ok (.iload 9, 2) := by decide +kernel
theorem dX5_alongEdge_73 : decode cX5_alongEdge 73 = .ok (.iconst 2, 1) := by decide +kernel
theorem dX5_alongEdge_74 : decode cX5_alongEdge 74 = .ok (.iadd, 1) := by decide +kernel
theorem dX5_alongEdge_75 : decode cX5_alongEdge 75 = .ok (.iaload, 1) := by decide +kernel
theorem dX5_alongEdge_76 : decode cX5_alongEdge 76 = .ok (.isub, 1) := by decide +kernel
theorem dX5_alongEdge_77 : decode cX5_alongEdge 77 = .ok (.i2l, 1) := by decide +kernel
theorem dX5_alongEdge_78 : decode cX5_alongEdge 78 = .ok (.lmul, 1) := by decide +kernel
theorem dX5_alongEdge_79 : decode cX5_alongEdge 79 = .ok (.ladd, 1) := by decide +kernel
theorem dX5_alongEdge_80 : decode cX5_alongEdge 80 = .ok (.lreturn, 1) := by decide +kernel
theorem dX5_side_0 : decode cX5_side 0 = .ok (.aload_n 0, 1) := by decide +kernel
theorem dX5_side_1 : decode cX5_side 1 = .ok (.iload_n 1, 1) := by decide +kernel
theorem dX5_side_2 : decode cX5_side 2 = .ok (.lload_n 2, 1) := by decide +kernel
theorem dX5_side_3 : decode cX5_side 3 = .ok (.aload_n 0, 1) := by decide +kernel
theorem dX5_side_4 : decode cX5_side 4 = .ok (.iload_n 1, 1) := by decide +kernel
theorem dX5_side_5 : decode cX5_side 5 = .ok (.iconst 0, 1) := by decide +kernel
theorem dX5_side_6 : decode cX5_side 6 = .ok (.iconst 0, 1) := by decide +kernel
theorem dX5_side_7 : decode cX5_side 7 = .ok (.invokevirtual 55, 3) := by decide +kernel
theorem dX5_side_10 : decode cX5_side 10 = .ok (.i2l, 1) := by decide +kernel
theorem dX5_side_11 : decode cX5_side 11 = .ok (.lsub, 1) := by decide +kernel
theorem dX5_side_12 : decode cX5_side 12 = .ok (.lload 4, 2) := by decide +kernel
theorem dX5_side_14 : decode cX5_side 14 = .ok (.aload_n 0, 1) := by decide +kernel
theorem dX5_side_15 : decode cX5_side 15 = .ok (.iload_n 1, 1) := by decide +kernel
theorem dX5_side_16 : decode cX5_side 16 = .ok (.iconst 0, 1) := by decide +kernel
theorem dX5_side_17 : decode cX5_side 17 = .ok (.iconst 1, 1) := by decide +kernel
theorem dX5_side_18 : decode cX5_side 18 = .ok (.invokevirtual 55, 3) := by decide +kernel
theorem dX5_side_21 : decode cX5_side 21 = .ok (.i2l, 1) := by decide +kernel
theorem dX5_side_22 : decode cX5_side 22 = .ok (.lsub, 1) := by decide +kernel
theorem dX5_side_23 : decode cX5_side 23 = .ok (.lload 6, 2) := by decide +kernel
theorem dX5_side_25 : decode cX5_side 25 = .ok (.aload_n 0, 1) := by decide +kernel
theorem dX5_side_26 : decode cX5_side 26 = .ok (.iload_n 1, 1) := by decide +kernel
theorem dX5_side_27 : decode cX5_side 27 = .ok (.iconst 0, 1) := by decide +kernel
theorem dX5_side_28 : decode cX5_side 28 = .ok (.iconst 2, 1) := by decide +kernel
theorem dX5_side_29 : decode cX5_side 29 = .ok (.invokevirtual 55, 3) := by decide +kernel
theorem dX5_side_32 : decode cX5_side 32 = .ok (.i2l, 1) := by decide +kernel
theorem dX5_side_33 : decode cX5_side 33 = .ok (.lsub, 1) := by decide +kernel
theorem dX5_side_34 : decode cX5_side 34 = .ok (.invokevirtual 58, 3) := by decide +kernel
theorem dX5_side_37 : decode cX5_side 37 = .ok (.lreturn, 1) := by decide +kernel
theorem dX5_normalSquare_0 : decode cX5_normalSquare 0 = .ok (.aload_n 0, 1) := by decide +kernel
theorem dX5_normalSquare_1 : decode cX5_normalSquare 1 = .ok (.iload_n 1, 1) := by decide +kernel
theorem dX5_normalSquare_2 : decode cX5_normalSquare 2 = .ok (.aload_n 0, 1) := by decide +kernel
theorem dX5_normalSquare_3 : decode cX5_normalSquare 3 = .ok (.iload_n 1, 1) := by decide +kernel
theorem dX5_normalSquare_4 : decode cX5_normalSquare 4 = .ok (.iconst 0, 1) := by decide +kernel
theorem dX5_normalSquare_5 : decode cX5_normalSquare 5 = .ok (.invokevirtual 62, 3) := by decide +kernel
theorem dX5_normalSquare_8 : decode cX5_normalSquare 8 = .ok (.i2l, 1) := by decide +kernel
theorem dX5_normalSquare_9 : decode cX5_normalSquare 9 = .ok (.aload_n 0, 1) := by decide +kernel
theorem dX5_normalSquare_10 : decode cX5_normalSquare 10 = .ok (.iload_n 1, 1) := by decide +kernel
theorem dX5_normalSquare_11 : decode cX5_normalSquare 11 = .ok (.iconst 1, 1) := by decide +kernel
theorem dX5_normalSquare_12 : decode cX5_normalSquare 12 = .ok (.invokevirtual 62, 3) := by decide +kernel
theorem dX5_normalSquare_15 : decode cX5_normalSquare 15 = .ok (.i2l, 1) := by decide +kernel
theorem dX5_normalSquare_16 : decode cX5_normalSquare 16 = .ok (.aload_n 0, 1) := by decide +kernel
theorem dX5_normalSquare_17 : decode cX5_normalSquare 17 = .ok (.iload_n 1, 1) := by decide +kernel
theorem dX5_normalSquare_18 : decode cX5_normalSquare 18 = .ok (.iconst 2, 1) := by decide +kernel
theorem dX5_normalSquare_19 : decode cX5_normalSquare 19 = .ok (.invokevirtual 62, 3) := by decide +kernel
theorem dX5_normalSquare_22 : decode cX5_normalSquare 22 = .ok (.i2l, 1) := by decide +kernel
theorem dX5_normalSquare_23 : decode cX5_normalSquare 23 = .ok (.invokevirtual 58, 3) := by decide +kernel
theorem dX5_normalSquare_26 : decode cX5_normalSquare 26 = .ok (.lreturn, 1) := by decide +kernel
theorem dX5_middle_0 : decode cX5_middle 0 = .ok (.aload_n 0, 1) := by decide +kernel
theorem dX5_middle_1 : decode cX5_middle 1 = .ok (.iload_n 1, 1) := by decide +kernel
theorem dX5_middle_2 : decode cX5_middle 2 = .ok (.iconst 0, 1) := by decide +kernel
theorem dX5_middle_3 : decode cX5_middle 3 = .ok (.iload_n 2, 1) := by decide +kernel
theorem dX5_middle_4 : decode cX5_middle 4 = .ok (.invokevirtual 55, 3) := by decide +kernel
theorem dX5_middle_7 : decode cX5_middle 7 = .ok (.aload_n 0, 1) := by decide +kernel
theorem dX5_middle_8 : decode cX5_middle 8 = .ok (.iload_n 1, 1) := by decide +kernel
theorem dX5_middle_9 : decode cX5_middle 9 = .ok (.iconst 1, 1) := by decide +kernel
theorem dX5_middle_10 : decode cX5_middle 10 = .ok (.iload_n 2, 1) := by decide +kernel
theorem dX5_middle_11 : decode cX5_middle 11 = .ok (.invokevirtual 55, 3) := by decide +kernel
theorem dX5_middle_14 : decode cX5_middle 14 = .ok (.iadd, 1) := by decide +kernel
theorem dX5_middle_15 : decode cX5_middle 15 = .ok (.aload_n 0, 1) := by decide +kernel
theorem dX5_middle_16 : decode cX5_middle 16 = .ok (.iload_n 1, 1) := by decide +kernel
theorem dX5_middle_17 : decode cX5_middle 17 = .ok (.iconst 2, 1) := by decide +kernel
theorem dX5_middle_18 : decode cX5_middle 18 = .ok (.iload_n 2, 1) := by decide +kernel
theorem dX5_middle_19 : decode cX5_middle 19 = .ok (.invokevirtual 55, 3) := by decide +kernel
theorem dX5_middle_22 : decode cX5_middle 22 = .ok (.iadd, 1) := by decide +kernel
theorem dX5_middle_23 : decode cX5_middle 23 = .ok (.ireturn, 1) := by decide +kernel
theorem dX5_least_0 : decode cX5_least 0 = .ok (.aload_n 0, 1) := by decide +kernel
theorem dX5_least_1 : decode cX5_least 1 = .ok (.iload_n 1, 1) := by decide +kernel
theorem dX5_least_2 : decode cX5_least 2 = .ok (.iconst 0, 1) := by decide +kernel
theorem dX5_least_3 : decode cX5_least 3 = .ok (.iload_n 2, 1) := by decide +kernel
theorem dX5_least_4 : decode cX5_least 4 = .ok (.invokevirtual 55, 3) := by decide +kernel
theorem dX5_least_7 : decode cX5_least 7 = .ok (.aload_n 0, 1) := by decide +kernel
theorem dX5_least_8 : decode cX5_least 8 = .ok (.iload_n 1, 1) := by decide +kernel
theorem dX5_least_9 : decode cX5_least 9 = .ok (.iconst 1, 1) := by decide +kernel
theorem dX5_least_10 : decode cX5_least 10 = .ok (.iload_n 2, 1) := by decide +kernel
theorem dX5_least_11 : decode cX5_least 11 = .ok (.invokevirtual 55, 3) := by decide +kernel
theorem dX5_least_14 : decode cX5_least 14 = .ok (.aload_n 0, 1) := by decide +kernel
theorem dX5_least_15 : decode cX5_least 15 = .ok (.iload_n 1, 1) := by decide +kernel
theorem dX5_least_16 : decode cX5_least 16 = .ok (.iconst 2, 1) := by decide +kernel
theorem dX5_least_17 : decode cX5_least 17 = .ok (.iload_n 2, 1) := by decide +kernel
theorem dX5_least_18 : decode cX5_least 18 = .ok (.invokevirtual 55, 3) := by decide +kernel
theorem dX5_least_21 : decode cX5_least 21 = .ok (.invokestatic 65, 3) := by decide +kernel
theorem dX5_least_24 : decode cX5_least 24 = .ok (.invokestatic 65, 3) := by decide +kernel
theorem dX5_least_27 : decode cX5_least 27 = .ok (.ireturn, 1) := by decide +kernel
theorem dX5_greatest_0 : decode cX5_greatest 0 = .ok (.aload_n 0, 1) := by decide +kernel
theorem dX5_greatest_1 : decode cX5_greatest 1 = .ok (.iload_n 1, 1) := by decide +kernel
theorem dX5_greatest_2 : decode cX5_greatest 2 = .ok (.iconst 0, 1) := by decide +kernel
theorem dX5_greatest_3 : decode cX5_greatest 3 = .ok (.iload_n 2, 1) := by decide +kernel
theorem dX5_greatest_4 : decode cX5_greatest 4 = .ok (.invokevirtual 55, 3) := by decide +kernel
theorem dX5_greatest_7 : decode cX5_greatest 7 = .ok (.aload_n 0, 1) := by decide +kernel
theorem dX5_greatest_8 : decode cX5_greatest 8 = .ok (.iload_n 1, 1) := by decide +kernel
theorem dX5_greatest_9 : decode cX5_greatest 9 = .ok (.iconst 1, 1) := by decide +kernel
theorem dX5_greatest_10 : decode cX5_greatest 10 = .ok (.iload_n 2, 1) := by decide +kernel
theorem dX5_greatest_11 : decode cX5_greatest 11 = .ok (.invokevirtual 55, 3) := by decide +kernel
theorem dX5_greatest_14 : decode cX5_greatest 14 = .ok (.aload_n 0, 1) := by decide +kernel
theorem dX5_greatest_15 : decode cX5_greatest 15 = .ok (.iload_n 1, 1) := by decide +kernel
theorem dX5_greatest_16 : decode cX5_greatest 16 = .ok (.iconst 2, 1) := by decide +kernel
theorem dX5_greatest_17 : decode cX5_greatest 17 = .ok (.iload_n 2, 1) := by decide +kernel
theorem dX5_greatest_18 : decode cX5_greatest 18 = .ok (.invokevirtual 55, 3) := by decide +kernel
theorem dX5_greatest_21 : decode cX5_greatest 21 = .ok (.invokestatic 70, 3) := by decide +kernel
theorem dX5_greatest_24 : decode cX5_greatest 24 = .ok (.invokestatic 70, 3) := by decide +kernel
theorem dX5_greatest_27 : decode cX5_greatest 27 = .ok (.ireturn, 1) := by decide +kernel
theorem dX5_commonCorners_0 : decode cX5_commonCorners 0 = .ok (.iconst 0, 1) := by decide +kernel
theorem dX5_commonCorners_1 : decode cX5_commonCorners 1 = .ok (.istore_n 3, 1) := by decide +kernel
theorem dX5_commonCorners_2 : decode cX5_commonCorners 2 = .ok (.iconst 0, 1) := by decide +kernel
theorem dX5_commonCorners_3 : decode cX5_commonCorners 3 = .ok (.istore 4, 2) := by decide +kernel
theorem dX5_commonCorners_5 : decode cX5_commonCorners 5 = .ok (.iload 4, 2) := by decide +kernel
theorem dX5_commonCorners_7 : decode cX5_commonCorners 7 = .ok (.iconst 3, 1) := by decide +kernel
theorem dX5_commonCorners_8 : decode cX5_commonCorners 8 = .ok (.if_icmp .ge 40, 3) := by decide +kernel
theorem dX5_commonCorners_11 : decode cX5_commonCorners 11 = .ok (.iconst 0, 1) := by decide +kernel
theorem dX5_commonCorners_12 : decode cX5_commonCorners 12 = .ok (.istore 5, 2) := by decide +kernel
theorem dX5_commonCorners_14 : decode cX5_commonCorners 14 = .ok (.iload 5, 2) := by decide +kernel
theorem dX5_commonCorners_16 : decode cX5_commonCorners 16 = .ok (.iconst 3, 1) := by decide +kernel
theorem dX5_commonCorners_17 : decode cX5_commonCorners 17 = .ok (.if_icmp .ge 25, 3) := by decide +kernel
theorem dX5_commonCorners_20 : decode cX5_commonCorners 20 = .ok (.aload_n 0, 1) := by decide +kernel
theorem dX5_commonCorners_21 : decode cX5_commonCorners 21 = .ok (.iload_n 1, 1) := by decide +kernel
theorem dX5_commonCorners_22 : decode cX5_commonCorners 22 = .ok (.iload 4, 2) := by decide +kernel
theorem dX5_commonCorners_24 : decode cX5_commonCorners 24 = .ok (.iload_n 2, 1) := by decide +kernel
theorem dX5_commonCorners_25 : decode cX5_commonCorners 25 = .ok (.iload 5, 2) := by decide +kernel
theorem dX5_commonCorners_27 : decode cX5_commonCorners 27 = .ok (.invokevirtual 73, 3) := by decide +kernel
theorem dX5_commonCorners_30 : decode cX5_commonCorners 30 = .ok (.ifCond .eq 6, 3) := by decide +kernel
theorem dX5_commonCorners_33 : decode cX5_commonCorners 33 = .ok (.iinc 3 1, 3) := by decide +kernel
theorem dX5_commonCorners_36 : decode cX5_commonCorners 36 = .ok (.iinc 5 1, 3) := by decide +kernel
theorem dX5_commonCorners_39 : decode cX5_commonCorners 39 = .ok (.goto (-25), 3) := by decide +kernel
theorem dX5_commonCorners_42 : decode cX5_commonCorners 42 = .ok (.iinc 4 1, 3) := by decide +kernel
theorem dX5_commonCorners_45 : decode cX5_commonCorners 45 = .ok (.goto (-40), 3) := by decide +kernel
theorem dX5_commonCorners_48 : decode cX5_commonCorners 48 = .ok (.iload_n 3, 1) := by decide +kernel
theorem dX5_commonCorners_49 : decode cX5_commonCorners 49 = .ok (.ireturn, 1) := by decide +kernel
theorem dX5_isSamePlace_0 : decode cX5_isSamePlace 0 = .ok (.aload_n 0, 1) := by decide +kernel
theorem dX5_isSamePlace_1 : decode cX5_isSamePlace 1 = .ok (.iload_n 1, 1) := by decide +kernel
theorem dX5_isSamePlace_2 : decode cX5_isSamePlace 2 = .ok (.iload_n 2, 1) := by decide +kernel
theorem dX5_isSamePlace_3 : decode cX5_isSamePlace 3 = .ok (.iconst 0, 1) := by decide +kernel
theorem dX5_isSamePlace_4 : decode cX5_isSamePlace 4 = .ok (.invokevirtual 55, 3) := by decide +kernel
theorem dX5_isSamePlace_7 : decode cX5_isSamePlace 7 = .ok (.aload_n 0, 1) := by decide +kernel
theorem dX5_isSamePlace_8 : decode cX5_isSamePlace 8 = .ok (.iload_n 3, 1) := by decide +kernel
theorem dX5_isSamePlace_9 : decode cX5_isSamePlace 9 = .ok (.iload 4, 2) := by decide +kernel
theorem dX5_isSamePlace_11 : decode cX5_isSamePlace 11 = .ok (.iconst 0, 1) := by decide +kernel
theorem dX5_isSamePlace_12 : decode cX5_isSamePlace 12 = .ok (.invokevirtual 55, 3) := by decide +kernel
theorem dX5_isSamePlace_15 : decode cX5_isSamePlace 15 = .ok (.if_icmp .ne 43, 3) := by decide +kernel
theorem dX5_isSamePlace_18 : decode cX5_isSamePlace 18 = .ok (.aload_n 0, 1) := by decide +kernel
theorem dX5_isSamePlace_19 : decode cX5_isSamePlace 19 = .ok (.iload_n 1, 1) := by decide +kernel
theorem dX5_isSamePlace_20 : decode cX5_isSamePlace 20 = .ok (.iload_n 2, 1) := by decide +kernel
theorem dX5_isSamePlace_21 : decode cX5_isSamePlace 21 = .ok (.iconst 1, 1) := by decide +kernel
theorem dX5_isSamePlace_22 : decode cX5_isSamePlace 22 = .ok (.invokevirtual 55, 3) := by decide +kernel
theorem dX5_isSamePlace_25 : decode cX5_isSamePlace 25 = .ok (.aload_n 0, 1) := by decide +kernel
theorem dX5_isSamePlace_26 : decode cX5_isSamePlace 26 = .ok (.iload_n 3, 1) := by decide +kernel
theorem dX5_isSamePlace_27 : decode cX5_isSamePlace 27 = .ok (.iload 4, 2) := by decide +kernel
theorem dX5_isSamePlace_29 : decode cX5_isSamePlace 29 = .ok (.iconst 1, 1) := by decide +kernel
theorem dX5_isSamePlace_30 : decode cX5_isSamePlace 30 = .ok (.invokevirtual 55, 3) := by decide +kernel
theorem dX5_isSamePlace_33 : decode cX5_isSamePlace 33 = .ok (.if_icmp .ne 25, 3) := by decide +kernel
theorem dX5_isSamePlace_36 : decode cX5_isSamePlace 36 = .ok (.aload_n 0, 1) := by decide +kernel
theorem dX5_isSamePlace_37 : decode cX5_isSamePlace 37 = .ok (.iload_n 1, 1) := by decide +kernel
theorem dX5_isSamePlace_38 : decode cX5_isSamePlace 38 = .ok (.iload_n 2, 1) := by decide +kernel
theorem dX5_isSamePlace_39 : decode cX5_isSamePlace 39 = .ok (.iconst 2, 1) := by decide +kernel
theorem dX5_isSamePlace_40 : decode cX5_isSamePlace 40 = .ok (.invokevirtual 55, 3) := by decide +kernel
theorem dX5_isSamePlace_43 : decode cX5_isSamePlace 43 = .ok (.aload_n 0, 1) := by decide +kernel
theorem dX5_isSamePlace_44 : decode cX5_isSamePlace 44 = .ok (.iload_n 3, 1) := by decide +kernel
theorem dX5_isSamePlace_45 : decode cX5_isSamePlace 45 = .ok (.iload 4, 2) := by decide +kernel
theorem dX5_isSamePlace_47 : decode cX5_isSamePlace 47 = .ok (.iconst 2, 1) := by decide +kernel
theorem dX5_isSamePlace_48 : decode cX5_isSamePlace 48 = .ok (.invokevirtual 55, 3) := by decide +kernel
theorem dX5_isSamePlace_51 : decode cX5_isSamePlace 51 = .ok (.if_icmp .ne 7, 3) := by decide +kernel
theorem dX5_isSamePlace_54 : decode cX5_isSamePlace 54 = .ok (.iconst 1, 1) := by decide +kernel
theorem dX5_isSamePlace_55 : decode cX5_isSamePlace 55 = .ok (.goto 4, 3) := by decide +kernel
theorem dX5_isSamePlace_58 : decode cX5_isSamePlace 58 = .ok (.iconst 0, 1) := by decide +kernel
theorem dX5_isSamePlace_59 : decode cX5_isSamePlace 59 = .ok (.ireturn, 1) := by decide +kernel
