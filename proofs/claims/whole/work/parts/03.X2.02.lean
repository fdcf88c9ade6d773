theorem dX2_init_0 : decode cX2_init 0 = .ok (.aload_n 0, 1) := by decide +kernel
theorem dX2_init_1 : decode cX2_init 1 = .ok (.invokespecial 3, 3) := by decide +kernel
theorem dX2_init_4 : decode cX2_init 4 = .ok (.aload_n 0, 1) := by decide +kernel
theorem dX2_init_5 : decode cX2_init 5 = .ok (.sipush 128, 3) := by decide +kernel
theorem dX2_init_8 : decode cX2_init 8 = .ok (.newarray .int, 2) := by decide +kernel
theorem dX2_init_10 : decode cX2_init 10 = .ok (.putfield 9, 3) := by decide +kernel
theorem dX2_init_13 : decode cX2_init 13 = .ok (.aload_n 0, 1) := by decide +kernel
theorem dX2_init_14 : decode cX2_init 14 = .ok (.sipush 128, 3) := by decide +kernel
theorem dX2_init_17 : decode cX2_init 17 = .ok (.newarray .long, 2) := by decide +kernel
theorem dX2_init_19 : decode cX2_init 19 = .ok (.putfield 15, 3) := by decide +kernel
theorem dX2_init_22 : decode cX2_init 22 = .ok (.aload_n 0, 1) := by decide +kernel
theorem dX2_init_23 : decode cX2_init 23 = .ok (.sipush 128, 3) := by decide +kernel
theorem dX2_init_26 : decode cX2_init 26 = .ok (.newarray .long, 2) := by decide +kernel
theorem dX2_init_28 : decode cX2_init 28 = .ok (.putfield 19, 3) := by decide +kernel
theorem dX2_init_31 : decode cX2_init 31 = .ok (.aload_n 0, 1) := by decide +kernel
theorem dX2_init_32 : decode cX2_init 32 = .ok (.iconst 0, 1) := by decide +kernel
theorem dX2_init_33 : decode cX2_init 33 = .ok (.putfield 22, 3) := by decide +kernel
theorem dX2_init_36 : decode cX2_init 36 = .ok (.return_, 1) := by decide +kernel
theorem dX2_many_0 : decode cX2_many 0 = .ok (.aload_n 0, 1) := by decide +kernel
theorem dX2_many_1 : decode cX2_many 1 = .ok (.getfield 22, 3) := by decide +kernel
theorem dX2_many_4 : decode cX2_many 4 = .ok (.ireturn, 1) := by decide +kernel
theorem dX2_clear_0 : decode cX2_clear 0 = .ok (.aload_n 0, 1) := by decide +kernel
theorem dX2_clear_1 : decode cX2_clear 1 = .ok (.iconst 0, 1) := by decide +kernel
theorem dX2_clear_2 : decode cX2_clear 2 = .ok (.putfield 22, 3) := by decide +kernel
theorem dX2_clear_5 : decode cX2_clear 5 = .ok (.return_, 1) := by decide +kernel
theorem dX2_has_0 : decode cX2_has 0 = .ok (.iload_n 1, 1) := by decide +kernel
theorem dX2_has_1 : decode cX2_has 1 = .ok (.ifCond .lt 15, 3) := by decide +kernel
theorem dX2_has_4 : decode cX2_has 4 = .ok (.iload_n 1, 1) := by decide +kernel
theorem dX2_has_5 : decode cX2_has 5 = .ok (.aload_n 0, 1) := by decide +kernel
theorem dX2_has_6 : decode cX2_has 6 = .ok (.getfield 22, 3) := by decide +kernel
theorem dX2_has_9 : decode cX2_has 9 = .ok (.if_icmp .ge 7, 3) := by decide +kernel
theorem dX2_has_12 : decode cX2_has 12 = .ok (.iconst 1, 1) := by decide +kernel
theorem dX2_has_13 : decode cX2_has 13 = .ok (.goto 4, 3) := by decide +kernel
theorem dX2_has_16 : decode cX2_has 16 = .ok (.iconst 0, 1) := by decide +kernel
theorem dX2_has_17 : decode cX2_has 17 = .ok (.ireturn, 1) := by decide +kernel
theorem dX2_triangleAt_0 : decode cX2_triangleAt 0 = .ok (.aload_n 0, 1) := by decide +kernel
theorem dX2_triangleAt_1 : decode cX2_triangleAt 1 = .ok (.getfield 9, 3) := by decide +kernel
theorem dX2_triangleAt_4 : decode cX2_triangleAt 4 = .ok (.iload_n 1, 1) := by decide +kernel
theorem dX2_triangleAt_5 : decode cX2_triangleAt 5 = .ok (.iaload, 1) := by decide +kernel
theorem dX2_triangleAt_6 : decode cX2_triangleAt 6 = .ok (.ireturn, 1) := by decide +kernel
theorem dX2_insert_0 : decode cX2_insert 0 = .ok (.aload_n 0, 1) := by decide +kernel
theorem dX2_insert_1 : decode cX2_insert 1 = .ok (.getfield 22, 3) := by decide +kernel
theorem dX2_insert_4 : decode cX2_insert 4 = .ok (.sipush 128, 3) := by decide +kernel
theorem dX2_insert_7 : decode cX2_insert 7 = .ok (.if_icmp .lt 4, 3) := by decide +kernel
theorem dX2_insert_10 : decode cX2_insert 10 = .ok (.return_, 1) := by decide +kernel
theorem dX2_insert_11 : decode cX2_insert 11 = .ok (.aload_n 0, 1) := by decide +kernel
theorem dX2_insert_12 : decode cX2_insert 12 = .ok (.getfield 22, 3) := by decide +kernel
theorem dX2_insert_15 : decode cX2_insert 15 = .ok (.istore 6, 2) := by decide +kernel
theorem dX2_insert_17 : decode cX2_insert 17 = .ok (.iload 6, 2) := by decide +kernel
theorem dX2_insert_19 : decode cX2_insert 19 = .ok (.ifCond .le 84, 3) := by decide +kernel
theorem dX2_insert_22 : decode cX2_insert 22 = .ok (.aload_n 0, 1) := by decide +kernel
theorem dX2_insert_23 : decode cX2_insert 23 = .ok (.getfield 15, 3) := by decide +kernel
theorem dX2_insert_26 : decode cX2_insert 26 = .ok (.iload 6, 2) := by decide +kernel
theorem dX2_insert_28 : decode cX2_insert 28 = .ok (.iconst 1, 1) := by decide +kernel
theorem dX2_insert_29 : decode cX2_insert 29 = .ok (.isub, 1) := by decide +kernel
theorem dX2_insert_30 : decode cX2_insert 30 = .ok (.laload, 1) := by decide +kernel
theorem dX2_insert_31 : decode cX2_insert 31 = .ok (.lload 4, 2) := by decide +kernel
theorem dX2_insert_33 : decode cX2_insert 33 = .ok (.lmul, 1) := by decide +kernel
theorem dX2_insert_34 : decode cX2_insert 34 = .ok (.lload_n 2, 1) := by decide +kernel
theorem dX2_insert_35 : decode cX2_insert 35 = .ok (.aload_n 0, 1) := by decide +kernel
theorem dX2_insert_36 : decode cX2_insert 36 = .ok (.getfield 19, 3) := by decide +kernel
theorem dX2_insert_39 : decode cX2_insert 39 = .ok (.iload 6, 2) := by decide +kernel
theorem dX2_insert_41 : decode cX2_insert 41 = .ok (.iconst 1, 1) := by decide +kernel
theorem dX2_insert_42 : decode cX2_insert 42 = .ok (.isub, 1) := by decide +kernel
theorem dX2_insert_43 : decode cX2_insert 43 = .ok (.laload, 1) := by decide +kernel
theorem dX2_insert_44 : decode cX2_insert 44 = .ok (.lmul, 1) := by decide +kernel
theorem dX2_insert_45 : decode cX2_insert 45 = .ok (.lcmp, 1) := by decide +kernel
theorem dX2_insert_46 : decode cX2_insert 46 = .ok (.ifCond .le 57, 3) := by decide +kernel
theorem dX2_insert_49 : decode cX2_insert 49 = .ok (.aload_n 0, 1) := by decide +kernel
theorem dX2_insert_50 : decode cX2_insert 50 = .ok (.getfield 9, 3) := by decide +kernel
theorem dX2_insert_53 : decode cX2_insert 53 = .ok (.iload 6, 2) := by decide +kernel
theorem dX2_insert_55 : decode cX2_insert 55 = .ok (.aload_n 0, 1) := by decide +kernel
theorem dX2_insert_56 : decode cX2_insert 56 = .ok (.getfield 9, 3) := by decide +kernel
theorem dX2_insert_59 : decode cX2_insert 59 = .ok (.iload 6, 2) := by decide +kernel
theorem dX2_insert_61 : decode cX2_insert 61 = .ok (.iconst 1, 1) := by decide +kernel
theorem dX2_insert_62 : decode cX2_insert 62 = .ok (.isub, 1) := by decide +kernel
theorem dX2_insert_63 : decode cX2_insert 63 = .ok (.iaload, 1) := by decide +kernel
theorem dX2_insert_64 : decode cX2_insert 64 = .ok (.iastore, 1) := by decide +kernel
theorem dX2_insert_65 : decode cX2_insert 65 = .ok (.aload_n 0, 1) := by decide +kernel
theorem dX2_insert_66 : decode cX2_insert 66 = .ok (.getfield 15, 3) := by decide +kernel
theorem dX2_insert_69 : decode cX2_insert 69 = .ok (.iload 6, 2) := by decide +kernel
theorem dX2_insert_71 : decode cX2_insert 71 = .ok (.aload_n 0, 1) := by decide +kernel
theorem dX2_insert_72 : decode cX2_insert 72 = .ok (.getfield 15, 3) := by decide +kernel
theorem dX2_insert_75 : decode cX2_insert 75 = .ok (.iload 6, 2) := by decide +kernel
theorem dX2_insert_77 : decode cX2_insert 77 = .ok (.iconst 1, 1) := by decide +kernel
theorem dX2_insert_78 : decode cX2_insert 78 = .ok (.isub, 1) := by decide +kernel
theorem dX2_insert_79 : decode cX2_insert 79 = .ok (.laload, 1) := by decide +kernel
theorem dX2_insert_80 : decode cX2_insert 80 = .ok (.lastore, 1) := by decide +kernel
theorem dX2_insert_81 : decode cX2_insert 81 = .ok (.aload_n 0, 1) := by decide +kernel
theorem dX2_insert_82 : decode cX2_insert 82 = .ok (.getfield 19, 3) := by decide +kernel
theorem dX2_insert_85 : decode cX2_insert 85 = .ok (.iload 6, 2) := by decide +kernel
theorem dX2_insert_87 : decode cX2_insert 87 = .ok (.aload_n 0, 1) := by decide +kernel
theorem dX2_insert_88 : decode cX2_insert 88 = .ok (.getfield 19, 3) := by decide +kernel
theorem dX2_insert_91 : decode cX2_insert 91 = .ok (.iload 6, 2) := by decide +kernel
theorem dX2_insert_93 : decode cX2_insert 93 = .ok (.iconst 1, 1) := by decide +kernel
theorem dX2_insert_94 : decode cX2_insert 94 = .ok (.isub, 1) := by decide +kernel
theorem dX2_insert_95 : decode cX2_insert 95 = .ok (.laload, 1) := by decide +kernel
theorem dX2_insert_96 : decode cX2_insert 96 = .ok (.lastore, 1) := by decide +kernel
theorem dX2_insert_97 : decode cX2_insert 97 = .ok (.iinc 6 (-1), 3) := by decide +kernel
theorem dX2_insert_100 : decode cX2_insert 100 = .ok (.goto (-83), 3) := by decide +kernel
theorem dX2_insert_103 : decode cX2_insert 103 = .ok (.aload_n 0, 1) := by decide +kernel
theorem dX2_insert_104 : decode cX2_insert 104 = .ok (.getfield 9, 3) := by decide +kernel
theorem dX2_insert_107 : decode cX2_insert 107 = .ok (.iload 6, 2) := by decide +kernel
theorem dX2_insert_109 : decode cX2_insert 109 = .ok (.iload_n 1, 1) := by decide +kernel
theorem dX2_insert_110 : decode cX2_insert 110 = .ok (.iastore, 1) := by decide +kernel
theorem dX2_insert_111 : decode cX2_insert 111 = .ok (.aload_n 0, 1) := by decide +kernel
theorem dX2_insert_112 : decode cX2_insert 112 = .ok (.getfield 15, 3) := by decide +kernel
theorem dX2_insert_115 : decode cX2_insert 115 = .ok (.iload 6, 2) := by decide +kernel
theorem dX2_insert_117 : decode cX2_insert 117 = .ok (.lload_n 2, 1) := by decide +kernel
theorem dX2_insert_118 : decode cX2_insert 118 = .ok (.lastore, 1) := by decide +kernel
theorem dX2_insert_119 : decode cX2_insert 119 = .ok (.aload_n 0, 1) := by decide +kernel
theorem dX2_insert_120 : decode cX2_insert 120 = .ok (.getfield 19, 3) := by decide +kernel
theorem dX2_insert_123 : decode cX2_insert 123 = .ok (.iload 6, 2) := by decide +kernel
theorem dX2_insert_125 : decode cX2_insert 125 = .ok (.lload 4, 2) := by decide +kernel
theorem dX2_insert_127 : decode cX2_insert 127 = .ok (.lastore, 1) := by decide +kernel
theorem dX2_insert_128 : decode cX2_insert 128 = .ok (.aload_n 0, 1) := by decide +kernel
theorem dX2_insert_129 : decode cX2_insert 129 = .ok (.dup, 1) := by decide +kernel
theorem dX2_insert_130 : decode cX2_insert 130 = .ok (.getfield 22, 3) := by decide +kernel
theorem dX2_insert_133 : decode cX2_insert 133 = .ok (.iconst 1, 1) := by decide +kernel
theorem dX2_insert_134 : decode cX2_insert 134 = .ok (.iadd, 1) := by decide +kernel
theorem dX2_insert_135 : decode cX2_insert 135 = .ok (.putfield 22, 3) := by decide +kernel
theorem dX2_insert_138 : decode cX2_insert 138 = .ok (.return_, 1) := by decide +kernel
