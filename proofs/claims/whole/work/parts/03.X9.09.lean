theorem dX9_init_0 : decode cX9_init 0 = .ok (.aload_n 0, 1) := by decide +kernel
theorem dX9_init_1 : decode cX9_init 1 = .ok (.invokespecial 3, 3) := by decide +kernel
theorem dX9_init_4 : decode cX9_init 4 = .ok (.aload_n 0, 1) := by decide +kernel
theorem dX9_init_5 : decode cX9_init 5 = .ok (.sipush 128, 3) := by decide +kernel
theorem dX9_init_8 : decode cX9_init 8 = .ok (.newarray .int, 2) := by decide +kernel
theorem dX9_init_10 : decode cX9_init 10 = .ok (.putfield 9, 3) := by decide +kernel
theorem dX9_init_13 : decode cX9_init 13 = .ok (.aload_n 0, 1) := by decide +kernel
theorem dX9_init_14 : decode cX9_init 14 = .ok (.sipush 255, 3) := by decide +kernel
theorem dX9_init_17 : decode cX9_init 17 = .ok (.newarray .int, 2) := by decide +kernel
theorem dX9_init_19 : decode cX9_init 19 = .ok (.putfield 15, 3) := by decide +kernel
theorem dX9_init_22 : decode cX9_init 22 = .ok (.aload_n 0, 1) := by decide +kernel
theorem dX9_init_23 : decode cX9_init 23 = .ok (.sipush 255, 3) := by decide +kernel
theorem dX9_init_26 : decode cX9_init 26 = .ok (.newarray .int, 2) := by decide +kernel
theorem dX9_init_28 : decode cX9_init 28 = .ok (.putfield 18, 3) := by decide +kernel
theorem dX9_init_31 : decode cX9_init 31 = .ok (.aload_n 0, 1) := by decide +kernel
theorem dX9_init_32 : decode cX9_init 32 = .ok (.sipush 255, 3) := by decide +kernel
theorem dX9_init_35 : decode cX9_init 35 = .ok (.newarray .int, 2) := by decide +kernel
theorem dX9_init_37 : decode cX9_init 37 = .ok (.putfield 21, 3) := by decide +kernel
theorem dX9_init_40 : decode cX9_init 40 = .ok (.aload_n 0, 1) := by decide +kernel
theorem dX9_init_41 : decode cX9_init 41 = .ok (.sipush 255, 3) := by decide +kernel
theorem dX9_init_44 : decode cX9_init 44 = .ok (.newarray .int, 2) := by decide +kernel
theorem dX9_init_46 : decode cX9_init 46 = .ok (.putfield 24, 3) := by decide +kernel
theorem dX9_init_49 : decode cX9_init 49 = .ok (.aload_n 0, 1) := by decide +kernel
theorem dX9_init_50 : decode cX9_init 50 = .ok (.sipush 255, 3) := by decide +kernel
theorem dX9_init_53 : decode cX9_init 53 = .ok (.newarray .int, 2) := by decide +kernel
theorem dX9_init_55 : decode cX9_init 55 = .ok (.putfield 27, 3) := by decide +kernel
theorem dX9_init_58 : decode cX9_init 58 = .ok (.aload_n 0, 1) := by decide +kernel
theorem dX9_init_59 : decode cX9_init 59 = .ok (.sipush 1530, 3) := by decide +kernel
theorem dX9_init_62 : decode cX9_init 62 = .ok (.newarray .int, 2) := by decide +kernel
theorem dX9_init_64 : decode cX9_init 64 = .ok (.putfield 30, 3) := by decide +kernel
theorem dX9_init_67 : decode cX9_init 67 = .ok (.aload_n 0, 1) := by decide +kernel
theorem dX9_init_68 : decode cX9_init 68 = .ok (.sipush 255, 3) := by decide +kernel
theorem dX9_init_71 : decode cX9_init 71 = .ok (.newarray .boolean, 2) := by decide +kernel
theorem dX9_init_73 : decode cX9_init 73 = .ok (.putfield 33, 3) := by decide +kernel
theorem dX9_init_76 : decode cX9_init 76 = .ok (.aload_n 0, 1) := by decide +kernel
theorem dX9_init_77 : decode cX9_init 77 = .ok (.iconst 0, 1) := by decide +kernel
theorem dX9_init_78 : decode cX9_init 78 = .ok (.putfield 37, 3) := by decide +kernel
theorem dX9_init_81 : decode cX9_init 81 = .ok (.aload_n 0, 1) := by decide +kernel
theorem dX9_init_82 : decode cX9_init 82 = .ok (.iconst 0, 1) := by decide +kernel
theorem dX9_init_83 : decode cX9_init 83 = .ok (.putfield 41, 3) := by decide +kernel
theorem dX9_init_86 : decode cX9_init 86 = .ok (.return_, 1) := by decide +kernel
theorem dX9_stands_0 : decode cX9_stands 0 = .ok (.aload_n 0, 1) := by decide +kernel
theorem dX9_stands_1 : decode cX9_stands 1 = .ok (.getfield 37, 3) := by decide +kernel
theorem dX9_stands_4 : decode cX9_stands 4 = .ok (.ifCond .le 7, 3) := by decide +kernel
theorem dX9_stands_7 : decode cX9_stands 7 = .ok (.iconst 1, 1) := by decide +kernel
theorem dX9_stands_8 : decode cX9_stands 8 = .ok (.goto 4, 3) := by decide +kernel
theorem dX9_stands_11 : decode cX9_stands 11 = .ok (.iconst 0, 1) := by decide +kernel
theorem dX9_stands_12 : decode cX9_stands 12 = .ok (.ireturn, 1) := by decide +kernel
theorem dX9_nodes_0 : decode cX9_nodes 0 = .ok (.aload_n 0, 1) := by decide +kernel
theorem dX9_nodes_1 : decode cX9_nodes 1 = .ok (.getfield 37, 3) := by decide +kernel
theorem dX9_nodes_4 : decode cX9_nodes 4 = .ok (.ireturn, 1) := by decide +kernel
theorem dX9_deepest_0 : decode cX9_deepest 0 = .ok (.aload_n 0, 1) := by decide +kernel
theorem dX9_deepest_1 : decode cX9_deepest 1 = .ok (.getfield 41, 3) := by decide +kernel
theorem dX9_deepest_4 : decode cX9_deepest 4 = .ok (.ireturn, 1) := by decide +kernel
theorem dX9_clear_0 : decode cX9_clear 0 = .ok (.aload_n 0, 1) := by decide +kernel
theorem dX9_clear_1 : decode cX9_clear 1 = .ok (.iconst 0, 1) := by decide +kernel
theorem dX9_clear_2 : decode cX9_clear 2 = .ok (.putfield 37, 3) := by decide +kernel
theorem dX9_clear_5 : decode cX9_clear 5 = .ok (.aload_n 0, 1) := by decide +kernel
theorem dX9_clear_6 : decode cX9_clear 6 = .ok (.iconst 0, 1) := by decide +kernel
theorem dX9_clear_7 : decode cX9_clear 7 = .ok (.putfield 41, 3) := by decide +kernel
theorem dX9_clear_10 : decode cX9_clear 10 = .ok (.return_, 1) := by decide +kernel
theorem dX9_hasNode_0 : decode cX9_hasNode 0 = .ok (.iload_n 1, 1) := by decide +kernel
theorem dX9_hasNode_1 : decode cX9_hasNode 1 = .ok (.ifCond .lt 15, 3) := by decide +kernel
theorem dX9_hasNode_4 : decode cX9_hasNode 4 = .ok (.iload_n 1, 1) := by decide +kernel
theorem dX9_hasNode_5 : decode cX9_hasNode 5 = .ok (.aload_n 0, 1) := by decide +kernel
theorem dX9_hasNode_6 : decode cX9_hasNode 6 = .ok (.getfield 37, 3) := by decide +kernel
theorem dX9_hasNode_9 : decode cX9_hasNode 9 = .ok (.if_icmp .ge 7, 3) := by decide +kernel
theorem dX9_hasNode_12 : decode cX9_hasNode 12 = .ok (.iconst 1, 1) := by decide +kernel
theorem dX9_hasNode_13 : decode cX9_hasNode 13 = .ok (.goto 4, 3) := by decide +kernel
theorem dX9_hasNode_16 : decode cX9_hasNode 16 = .ok (.iconst 0, 1) := by decide +kernel
theorem dX9_hasNode_17 : decode cX9_hasNode 17 = .ok (.ireturn, 1) := by decide +kernel
theorem dX9_hasPlace_0 : decode cX9_hasPlace 0 = .ok (.aload_n 0, 1) := by decide +kernel
theorem dX9_hasPlace_1 : decode cX9_hasPlace 1 = .ok (.invokevirtual 44, 3) := by decide +kernel
theorem dX9_hasPlace_4 : decode cX9_hasPlace 4 = .ok (.ifCond .eq 21, 3) := by decide +kernel
theorem dX9_hasPlace_7 : decode cX9_hasPlace 7 = .ok (.iload_n 1, 1) := by decide +kernel
theorem dX9_hasPlace_8 : decode cX9_hasPlace 8 = .ok (.ifCond .lt 17, 3) := by decide +kernel
theorem dX9_hasPlace_11 : decode cX9_hasPlace 11 = .ok (.iload_n 1, 1) := by decide +kernel
theorem dX9_hasPlace_12 : decode cX9_hasPlace 12 = .ok (.aload_n 0, 1) := by decide +kernel
theorem dX9_hasPlace_13 : decode cX9_hasPlace 13 = .ok (.getfield 18, 3) := by decide +kernel
theorem dX9_hasPlace_16 : decode cX9_hasPlace 16 = .ok (.iconst 0, 1) := by decide +kernel
theorem dX9_hasPlace_17 : decode cX9_hasPlace 17 = .ok (.iaload, 1) := by decide +kernel
theorem dX9_hasPlace_18 : decode cX9_hasPlace 18 = .ok (.if_icmp .ge 7, 3) := by decide +kernel
theorem dX9_hasPlace_21 : decode cX9_hasPlace 21 = .ok (.iconst 1, 1) := by decide +kernel
theorem dX9_hasPlace_22 : decode cX9_hasPlace 22 = .ok (.goto 4, 3) := by decide +kernel
theorem dX9_hasPlace_25 : decode cX9_hasPlace 25 = .ok (.iconst 0, 1) := by decide +kernel
theorem dX9_hasPlace_26 : decode cX9_hasPlace 26 = .ok (.ireturn, 1) := by decide +kernel
theorem dX9_triangleAt_0 : decode cX9_triangleAt 0 = .ok (.aload_n 0, 1) := by decide +kernel
theorem dX9_triangleAt_1 : decode cX9_triangleAt 1 = .ok (.getfield 9, 3) := by decide +kernel
theorem dX9_triangleAt_4 : decode cX9_triangleAt 4 = .ok (.iload_n 1, 1) := by decide +kernel
theorem dX9_triangleAt_5 : decode cX9_triangleAt 5 = .ok (.iaload, 1) := by decide +kernel
theorem dX9_triangleAt_6 : decode cX9_triangleAt 6 = .ok (.ireturn, 1) := by decide +kernel
theorem dX9_grow_0 : decode cX9_grow 0 = .ok (.aload_n 0, 1) := by decide +kernel
theorem dX9_grow_1 : decode cX9_grow 1 = .ok (.invokevirtual 48, 3) := by decide +kernel
theorem dX9_grow_4 : decode cX9_grow 4 = .ok (.iconst 0, 1) := by decide +kernel
theorem dX9_grow_5 : decode cX9_grow 5 = .ok (.istore_n 3, 1) := by decide +kernel
theorem dX9_grow_6 : decode cX9_grow 6 = .ok (.iload_n 3, 1) := by decide +kernel
theorem dX9_grow_7 : decode cX9_grow 7 = .ok (.aload_n 1, 1) := by decide +kernel
theorem dX9_grow_8 : decode cX9_grow 8 = .ok (.invokevirtual 51, 3) := by decide +kernel
theorem dX9_grow_11 : decode cX9_grow 11 = .ok (.if_icmp .ge 16, 3) := by decide +kernel
theorem dX9_grow_14 : decode cX9_grow 14 = .ok (.aload_n 0, 1) := by decide +kernel
theorem dX9_grow_15 : decode cX9_grow 15 = .ok (.getfield 9, 3) := by decide +kernel
theorem dX9_grow_18 : decode cX9_grow 18 = .ok (.iload_n 3, 1) := by decide +kernel
theorem dX9_grow_19 : decode cX9_grow 19 = .ok (.iload_n 3, 1) := by decide +kernel
theorem dX9_grow_20 : decode cX9_grow 20 = .ok (.iastore, 1) := by decide +kernel
theorem dX9_grow_21 : decode cX9_grow 21 = .ok (.iinc 3 1, 3) := by decide +kernel
theorem dX9_grow_24 : decode cX9_grow 24 = .ok (.goto (-18), 3) := by decide +kernel
theorem dX9_grow_27 : decode cX9_grow 27 = .ok (.aload_n 1, 1) := by decide +kernel
theorem dX9_grow_28 : decode cX9_grow 28 = .ok (.invokevirtual 51, 3) := by decide +kernel
theorem dX9_grow_31 : decode cX9_grow 31 = .ok (.ifCond .le 18, 3) := by decide +kernel
theorem dX9_grow_34 : decode cX9_grow 34 = .ok (.aload_n 0, 1) := by decide +kernel
theorem dX9_grow_35 : decode cX9_grow 35 = .ok (.aload_n 1, 1) := by decide +kernel
theorem dX9_grow_36 : decode cX9_grow 36 = .ok (.iload_n 2, 1) := by decide +kernel
theorem dX9_grow_37 : decode cX9_grow 37 = .ok (.iconst 0, 1) := by decide +kernel
theorem dX9_grow_38 : decode cX9_grow 38 = .ok (.aload_n 1, 1) := by decide +kernel
theorem dX9_grow_39 : decode cX9_grow 39 = .ok (.invokevirtual 51, 3) := by decide +kernel
theorem dX9_grow_42 : decode cX9_grow 42 = .ok (.bipush (-2), 2) := by decide +kernel
theorem dX9_grow_44 : decode cX9_grow 44 = .ok (.iconst 0, 1) := by decide +kernel
theorem dX9_grow_45 : decode cX9_grow 45 = .ok (.invokevirtual 56, 3) := by decide +kernel
theorem dX9_grow_48 : decode cX9_grow 48 = .ok (.pop, 1) := by decide +kernel
theorem dX9_grow_49 : decode cX9_grow 49 = .ok (.return_, 1) := by decide +kernel
theorem dX9_branch_0 : decode cX9_branch 0 = .ok (.iload 6, 2) := by decide +kernel
theorem dX9_branch_2 : decode cX9_branch 2 = .ok (.bipush 16, 2) := by decide +kernel
theorem dX9_branch_4 : decode cX9_branch 4 = .ok (.if_icmp .gt 13, 3) := by decide +kernel
theorem dX9_branch_7 : decode cX9_branch 7 = .ok (.aload_n 0, 1) := by decide +kernel
theorem dX9_branch_8 : decode cX9_branch 8 = .ok (.getfield 37, 3) := by decide +kernel
theorem dX9_branch_11 : decode cX9_branch 11 = .ok (.sipush 255, 3) := by decide +kernel
theorem dX9_branch_14 : decode cX9_branch 14 = .ok (.if_icmp .lt 6, 3) := by decide +kernel
theorem dX9_branch_17 : decode cX9_branch 17 = .ok (.bipush (-2), 2) := by decide +kernel
theorem dX9_branch_19 : decode cX9_branch 19 = .ok (.ireturn, 1) := by decide +kernel
theorem dX9_branch_20 : decode cX9_branch 20 = .ok (.aload_n 0, 1) := by decide +kernel
theorem dX9_branch_21 : decode cX9_branch 21 = .ok (.getfield 37, 3) := by decide +kernel
theorem dX9_branch_24 : decode cX9_branch 24 = .ok (.istore 7, 2) := by decide +kernel
theorem dX9_branch_26 : decode cX9_branch 26 = .ok (.aload_n 0, 1) := by decide +kernel
theorem dX9_branch_27 : decode cX9_branch 27 = .ok (.dup, 1) := by decide +kernel
theorem dX9_branch_28 : decode cX9_branch 28 = .ok (.getfield 37, 3) := by decide +kernel
theorem dX9_branch_31 : decode cX9_branch 31 = .ok (.iconst 1, 1) := by decide +kernel
theorem dX9_branch_32 : decode cX9_branch 32 = .ok (.iadd, 1) := by decide +kernel
theorem dX9_branch_33 : decode cX9_branch 33 = .ok (.putfield 37, 3) := by decide +kernel
theorem dX9_branch_36 : decode cX9_branch 36 = .ok (.aload_n 0, 1) := by decide +kernel
theorem dX9_branch_37 : decode cX9_branch 37 = .ok (.aload_n 0, 1) := by decide +kernel
theorem dX9_branch_38 : decode cX9_branch 38 = .ok (.getfield 41, 3) := by decide +kernel
theorem dX9_branch_41 : decode cX9_branch 41 = .ok (.iload 6, 2) := by decide +kernel
theorem dX9_branch_43 : decode cX9_branch 43 = .ok (.invokestatic 60, 3) := by decide +kernel
theorem dX9_branch_46 : decode cX9_branch 46 = .ok (.putfield 41, 3) := by decide +kernel
theorem dX9_branch_49 : decode cX9_branch 49 = .ok (.aload_n 0, 1) := by decide +kernel
theorem dX9_branch_50 : decode cX9_branch 50 = .ok (.getfield 15, 3) := by decide +kernel
theorem dX9_branch_53 : decode cX9_branch 53 = .ok (.iload 7, 2) := by decide +kernel
theorem dX9_branch_55 : decode cX9_branch 55 = .ok (.iload_n 3, 1) := by decide +kernel
theorem dX9_branch_56 : decode cX9_branch 56 = .ok (.iastore, 1) := by decide +kernel
theorem dX9_branch_57 : decode cX9_branch 57 = .ok (.aload_n 0, 1) := by decide +kernel
theorem dX9_branch_58 : decode cX9_branch 58 = .ok (.getfield 18, 3) := by decide +kernel
theorem dX9_branch_61 : decode cX9_branch 61 = .ok (.iload 7, 2) := by decide +kernel
theorem dX9_branch_63 : decode cX9_branch 63 = .ok (.iload 4, 2) := by decide +kernel
theorem dX9_branch_65 : decode cX9_branch 65 = .ok (.iastore, 1) := by decide +kernel
theorem dX9_branch_66 : decode cX9_branch 66 = .ok (.aload_n 0, 1) := by decide +kernel
theorem dX9_branch_67 : decode cX9_branch 67 = .ok (.getfield 27, 3) := by decide +kernel
theorem dX9_branch_70 : decode cX9_branch 70 = .ok (.iload 7, 2) := by decide +kernel
theorem dX9_branch_72 : decode cX9_branch 72 = .ok (.iload 5, 2) := by decide +kernel
theorem dX9_branch_74 : decode cX9_branch 74 = .ok (.iastore, 1) := by decide +kernel
theorem dX9_branch_75 : decode cX9_branch 75 = .ok (.aload_n 0, 1) := by decide +kernel
theorem dX9_branch_76 : decode cX9_branch 76 = .ok (.getfield 21, 3) := by decide +kernel
theorem dX9_branch_79 : decode cX9_branch 79 = .ok (.iload 7, 2) := by decide +kernel
theorem dX9_branch_81 : decode cX9_branch 81 = .ok (.bipush (-2), 2) := by decide +kernel
theorem dX9_branch_83 : decode cX9_branch 83 = .ok (.iastore, 1) := by decide +kernel
theorem dX9_branch_84 : decode cX9_branch 84 = .ok (.aload_n 0, 1) := by decide +kernel
theorem dX9_branch_85 : decode cX9_branch 85 = .ok (.getfield 24, 3) := by decide +kernel
theorem dX9_branch_88 : decode cX9_branch 88 = .ok (.iload 7, 2) := by decide +kernel
theorem dX9_branch_90 : decode cX9_branch 90 = .ok (.bipush (-2), 2) := by decide +kernel
theorem dX9_branch_92 : decode cX9_branch 92 = .ok (.iastore, 1) := by decide +kernel
theorem dX9_branch_93 : decode cX9_branch 93 = .ok (.aload_n 0, 1) := by decide +kernel
theorem dX9_branch_94 : decode cX9_branch 94 = .ok (.aload_n 1, 1) := by decide +kernel
theorem dX9_branch_95 : decode cX9_branch 95 = .ok (.iload 7, 2) := by decide +kernel
theorem dX9_branch_97 : decode cX9_branch 97 = .ok (.invokevirtual 66, 3) := by decide +kernel
theorem dX9_branch_100 : decode cX9_branch 100 = .ok (.pop, 1) := by decide +kernel
theorem dX9_branch_101 : decode cX9_branch 101 = .ok (.iload 4, 2) := by decide +kernel
theorem dX9_branch_103 : decode cX9_branch 103 = .ok (.iload_n 2, 1) := by decide +kernel
theorem dX9_branch_104 : decode cX9_branch 104 = .ok (.if_icmp .le 75, 3) := by decide +kernel
theorem dX9_branch_107 : decode cX9_branch 107 = .ok (.iload 4, 2) := by decide +kernel
theorem dX9_branch_109 : decode cX9_branch 109 = .ok (.iconst 2, 1) := by decide +kernel
theorem dX9_branch_110 : decode cX9_branch 110 = .ok (.idiv, 1) := by decide +kernel
theorem dX9_branch_111 : decode cX9_branch 111 = .ok (.istore 8, 2) := by decide +kernel
theorem dX9_branch_113 : decode cX9_branch 113 = .ok (.aload_n 0, 1) := by decide +kernel
theorem dX9_branch_114 : decode cX9_branch 114 = .ok (.aload_n 1, 1) := by decide +kernel
theorem dX9_branch_115 : decode cX9_branch 115 = .ok (.iload_n 3, 1) := by decide +kernel
theorem dX9_branch_116 : decode cX9_branch 116 = .ok (.iload 4, 2) := by decide +kernel
theorem dX9_branch_118 : decode cX9_branch 118 = .ok (.aload_n 0, 1) := by decide +kernel
theorem dX9_branch_119 : decode cX9_branch 119 = .ok (.aload_n 1, 1) := by decide +kernel
theorem dX9_branch_120 : decode cX9_branch 120 = .ok (.iload_n 3, 1) := by decide +kernel
theorem dX9_branch_121 : decode cX9_branch 121 = .ok (.iload 4, 2) := by decide +kernel
theorem dX9_branch_123 : decode cX9_branch 123 = .ok (.invokevirtual 70, 3) := by decide +kernel
theorem dX9_branch_126 : decode cX9_branch 126 = .ok (.invokevirtual 74, 3) := by decide +kernel
theorem dX9_branch_129 : decode cX9_branch 129 = .ok (.aload_n 0, 1) := by decide +kernel
theorem dX9_branch_130 : decode cX9_branch 130 = .ok (.getfield 21, 3) := by decide +kernel
theorem dX9_branch_133 : decode cX9_branch 133 = .ok (.iload 7, 2) := by decide +kernel
theorem dX9_branch_135 : decode cX9_branch 135 = .ok (.aload_n 0, 1) := by decide +kernel
theorem dX9_branch_136 : decode cX9_branch 136 = .ok (.aload_n 1, 1) := by decide +kernel
theorem dX9_branch_137 : decode cX9_branch 137 = .ok (.iload_n 2, 1) := by decide +kernel
theorem dX9_branch_138 : decode cX9_branch 138 = .ok (.iload_n 3, 1) := by decide +kernel
theorem dX9_branch_139 : decode cX9_branch 139 = .ok (.iload 8, 2) := by decide +kernel
theorem dX9_branch_141 : decode cX9_branch 141 = .ok (.iload 7, 2) := by decide +kernel
theorem dX9_branch_143 : decode cX9_branch 143 = .ok (.iload 6, 2) := by decide +kernel
theorem dX9_branch_145 : decode cX9_branch 145 = .ok (.iconst 1, 1) := by decide +kernel
theorem dX9_branch_146 : decode cX9_branch 146 = .ok (.iadd, 1) := by decide +kernel
theorem dX9_branch_147 : decode cX9_branch 147 = .ok (.invokevirtual 56, 3) := by decide +kernel
theorem dX9_branch_150 : decode cX9_branch 150 = .ok (.iastore, 1) := by decide +kernel
theorem dX9_branch_151 : decode cX9_branch 151 = .ok (.aload_n 0, 1) := by decide +kernel
theorem dX9_branch_152 : decode cX9_branch 152 = .ok (.getfield 24, 3) := by decide +kernel
theorem dX9_branch_155 : decode cX9_branch 155 = .ok (.iload 7, 2) := by decide +kernel
theorem dX9_branch_157 : decode cX9_branch 157 = .ok (.aload_n 0, 1) := by decide +kernel
theorem dX9_branch_158 : decode cX9_branch 158 = .ok (.aload_n 1, 1) := by decide +kernel
theorem dX9_branch_159 : decode cX9_branch 159 = .ok (.iload_n 2, 1) := by decide +kernel
theorem dX9_branch_160 : decode cX9_branch 160 = .ok (.iload_n 3, 1) := by decide +kernel
theorem dX9_branch_161 : decode cX9_branch 161 = .ok (.iload 8, 2) := by decide +kernel
theorem dX9_branch_163 : decode cX9_branch 163 = .ok (.iadd, 1) := by decide +kernel
theorem dX9_branch_164 : decode cX9_branch 164 = .ok (.iload 4, 2) := by decide +kernel
theorem dX9_branch_166 : decode cX9_branch 166 = .ok (.iload 8, 2) := by decide +kernel
theorem dX9_branch_168 : decode cX9_branch 168 = .ok (.isub, 1) := by decide +kernel
theorem dX9_branch_169 : decode cX9_branch 169 = .ok (.iload 7, 2) := by decide +kernel
theorem dX9_branch_171 : decode cX9_branch 171 = .ok (.iload 6, 2) := by decide +kernel
theorem dX9_branch_173 : decode cX9_branch 173 = .ok (.iconst 1, 1) := by decide +kernel
theorem dX9_branch_174 : decode cX9_branch 174 = .ok (.iadd, 1) := by decide +kernel
theorem dX9_branch_175 : decode cX9_branch 175 = .ok (.invokevirtual 56, 3) := by decide +kernel
theorem dX9_branch_178 : decode cX9_branch 178 = .ok (.iastore, 1) := by decide +kernel
theorem dX9_branch_179 : decode cX9_branch 179 = .ok (.iload 7, 2) := by decide +kernel
theorem dX9_branch_181 : decode cX9_branch 181 = .ok (.ireturn, 1) := by decide +kernel
theorem dX9_widestAxis_0 : decode cX9_widestAxis 0 = .ok (.iconst 0, 1) := by decide +kernel
theorem dX9_widestAxis_1 : decode cX9_widestAxis 1 = .ok (.istore 4, 2) := by decide +kernel
theorem dX9_widestAxis_3 : decode cX9_widestAxis 3 = .ok (.iconst (-1), 1) := by decide +kernel
theorem dX9_widestAxis_4 : decode cX9_widestAxis 4 = .ok (.istore 5, 2) := by decide +kernel
theorem dX9_widestAxis_6 : decode cX9_widestAxis 6 = .ok (.iconst 0, 1) := by decide +kernel
theorem dX9_widestAxis_7 : decode cX9_widestAxis 7 = .ok (.istore 6, 2) := by decide +kernel
theorem dX9_widestAxis_9 : decode cX9_widestAxis 9 = .ok (.iload 6, 2) := by decide +kernel
theorem dX9_widestAxis_11 : decode cX9_widestAxis 11 = .ok (.iconst 3, 1) := by decide +kernel
theorem dX9_widestAxis_12 : decode cX9_widestAxis 12 = .ok (.if_icmp .ge 35, 3) := by decide +kernel
theorem dX9_widestAxis_15 : decode cX9_widestAxis 15 = .ok (.aload_n 0, 1) := by decide +kernel
theorem dX9_widestAxis_16 : decode cX9_widestAxis 16 = .ok (.aload_n 1, 1) := by decide +kernel
theorem dX9_widestAxis_17 : decode cX9_widestAxis 17 = .ok (.iload_n 2, 1) := by decide +kernel
theorem dX9_widestAxis_18 : decode cX9_widestAxis 18 = .ok (.iload_n 3, 1) := by decide +kernel
theorem dX9_widestAxis_19 : decode cX9_widestAxis 19 = .ok (.iload 6, 2) := by decide +kernel
theorem dX9_widestAxis_21 : decode cX9_widestAxis 21 = .ok (.invokevirtual 78, 3) := by decide +kernel
theorem dX9_widestAxis_24 : decode cX9_widestAxis 24 = .ok (.istore 7, 2) := by decide +kernel
theorem dX9_widestAxis_26 : decode cX9_widestAxis 26 = .ok (.iload 7, 2) := by decide +kernel
theorem dX9_widestAxis_28 : decode cX9_widestAxis 28 = .ok (.iload 5, 2) := by decide +kernel
theorem dX9_widestAxis_30 : decode cX9_widestAxis 30 = .ok (.if_icmp .le 11, 3) := by decide +kernel
theorem dX9_widestAxis_33 : decode cX9_widestAxis 33 = .ok (.iload 7, 2) := by decide +kernel
theorem dX9_widestAxis_35 : decode cX9_widestAxis 35 = .ok (.istore 5, 2) := by decide +kernel
theorem dX9_widestAxis_37 : decode cX9_widestAxis 37 = .ok (.iload 6, 2) := by decide +kernel
theorem dX9_widestAxis_39 : decode cX9_widestAxis 39 = .ok (.istore 4, 2) := by decide +kernel
theorem dX9_widestAxis_41 : decode cX9_widestAxis 41 = .ok (.iinc 6 1, 3) := by decide +kernel
theorem dX9_widestAxis_44 : decode cX9_widestAxis 44 = .ok (.goto (-35), 3) := by decide +kernel
theorem dX9_widestAxis_47 : decode cX9_widestAxis 47 = .ok (.iload 4, 2) := by decide +kernel
theorem dX9_widestAxis_49 : decode cX9_widestAxis 49 = .ok (.ireturn, 1) := by decide +kernel
theorem dX9_spreadAlong_0 : decode cX9_spreadAlong 0 = .ok (.aload_n 1, 1) := by decide +kernel
theorem dX9_spreadAlong_1 : decode cX9_spreadAlong 1 = .ok (.aload_n 0, 1) := by decide +kernel
theorem dX9_spreadAlong_2 : decode cX9_spreadAlong 2 = .ok (.getfield 9, 3) := by decide +kernel
theorem dX9_spreadAlong_5 : decode cX9_spreadAlong 5 = .ok (.iload_n 2, 1) := by decide +kernel
theorem dX9_spreadAlong_6 : decode cX9_spreadAlong 6 = .ok (.iaload, 1) := by decide +kernel
theorem dX9_spreadAlong_7 : decode cX9_spreadAlong 7 = .ok (.iload 4, 2) := by decide +kernel
theorem dX9_spreadAlong_9 : decode cX9_spreadAlong 9 = .ok (.invokevirtual 82, 3) := by decide +kernel
theorem dX9_spreadAlong_12 : decode cX9_spreadAlong 12 = .ok (.istore 5, 2) := by decide +kernel
theorem dX9_spreadAlong_14 : decode cX9_spreadAlong 14 = .ok (.iload 5, 2) := by decide +kernel
theorem dX9_spreadAlong_16 : decode cX9_spreadAlong 16 = .ok (.istore 6, 2) := by decide +kernel
theorem dX9_spreadAlong_18 : decode cX9_spreadAlong 18 = .ok (.iload_n 2, 1) := by decide +kernel
theorem dX9_spreadAlong_19 : decode cX9_spreadAlong 19 = .ok (.iconst 1, 1) := by decide +kernel
theorem dX9_spreadAlong_20 : decode cX9_spreadAlong 20 = .ok (.iadd, 1) := by decide +kernel
theorem dX9_spreadAlong_21 : decode cX9_spreadAlong 21 = .ok (.istore 7, 2) := by decide +kernel
theorem dX9_spreadAlong_23 : decode cX9_spreadAlong 23 = .ok (.iload 7, 2) := by decide +kernel
theorem dX9_spreadAlong_25 : decode cX9_spreadAlong 25 = .ok (.iload_n 2, 1) := by decide +kernel
theorem dX9_spreadAlong_26 : decode cX9_spreadAlong 26 = .ok (.iload_n 3, 1) := by decide +kernel
theorem dX9_spreadAlong_27 : decode cX9_spreadAlong 27 = .ok (.iadd, 1) := by decide +kernel
theorem dX9_spreadAlong_28 : decode cX9_spreadAlong 28 = .ok (.if_icmp .ge 42, 3) := by decide +kernel
theorem dX9_spreadAlong_31 : decode cX9_spreadAlong 31 = .ok (.aload_n 1, 1) := by decide +kernel
theorem dX9_spreadAlong_32 : decode cX9_spreadAlong 32 = .ok (.aload_n 0, 1) := by decide +kernel
theorem dX9_spreadAlong_33 : decode cX9_spreadAlong 33 = .ok (.getfield 9, 3) := by decide +kernel
theorem dX9_spreadAlong_36 : decode cX9_spreadAlong 36 = .ok (.iload 7, 2) := by decide +kernel
theorem dX9_spreadAlong_38 : decode cX9_spreadAlong 38 = .ok (.iaload, 1) := by decide +kernel
theorem dX9_spreadAlong_39 : decode cX9_spreadAlong 39 = .ok (.iload 4, 2) := by decide +kernel
theorem dX9_spreadAlong_41 : decode cX9_spreadAlong 41 = .ok (.invokevirtual 82, 3) := by decide +kernel
theorem dX9_spreadAlong_44 : decode cX9_spreadAlong 44 = .ok (.istore 8, 2) := by decide +kernel
theorem dX9_spreadAlong_46 : decode cX9_spreadAlong 46 = .ok (.iload 5, 2) := by decide +kernel
theorem dX9_spreadAlong_48 : decode cX9_spreadAlong 48 = .ok (.iload 8, 2) := by decide +kernel
theorem dX9_spreadAlong_50 : decode cX9_spreadAlong 50 = .ok (.invokestatic 85, 3) := by decide +kernel
theorem dX9_spreadAlong_53 : decode cX9_spreadAlong 53 = .ok (.istore 5, 2) := by decide +kernel
theorem dX9_spreadAlong_55 : decode cX9_spreadAlong 55 = .ok (.iload 6, 2) := by decide +kernel
theorem dX9_spreadAlong_57 : decode cX9_spreadAlong 57 = .ok (.iload 8, 2) := by decide +kernel
theorem dX9_spreadAlong_59 : decode cX9_spreadAlong 59 = .ok (.invokestatic 60, 3) := by decide +kernel
theorem dX9_spreadAlong_62 : decode cX9_spreadAlong 62 = .ok (.istore 6, 2) := by decide +kernel
theorem dX9_spreadAlong_64 : decode cX9_spreadAlong 64 = .ok (.iinc 7 1, 3) := by decide +kernel
theorem dX9_spreadAlong_67 : decode cX9_spreadAlong 67 = .ok (.goto (-44), 3) := by decide +kernel
theorem dX9_spreadAlong_70 : decode cX9_spreadAlong 70 = .ok (.iload 6, 2) := by decide +kernel
theorem dX9_spreadAlong_72 : decode cX9_spreadAlong 72 = .ok (.iload 5, 2) := by decide +kernel
theorem dX9_spreadAlong_74 : decode cX9_spreadAlong 74 = .ok (.isub, 1) := by decide +kernel
theorem dX9_spreadAlong_75 : decode cX9_spreadAlong 75 = .ok (.ireturn, 1) := by decide +kernel
theorem dX9_sortAlong_0 : decode cX9_sortAlong 0 = .ok (.iload_n 2, 1) := by decide +kernel
theorem dX9_sortAlong_1 : decode cX9_sortAlong 1 = .ok (.iconst 1, 1) := by decide +kernel
theorem dX9_sortAlong_2 : decode cX9_sortAlong 2 = .ok (.iadd, 1) := by decide +kernel
theorem dX9_sortAlong_3 : decode cX9_sortAlong 3 = .ok (.istore 5, 2) := by decide +kernel
theorem dX9_sortAlong_5 : decode cX9_sortAlong 5 = .ok (.iload 5, 2) := by decide +kernel
theorem dX9_sortAlong_7 : decode cX9_sortAlong 7 = .ok (.iload_n 2, 1) := by decide +kernel
theorem dX9_sortAlong_8 : decode cX9_sortAlong 8 = .ok (.iload_n 3, 1) := by decide +kernel
theorem dX9_sortAlong_9 : decode cX9_sortAlong 9 = .ok (.iadd, 1) := by decide +kernel
theorem dX9_sortAlong_10 : decode cX9_sortAlong 10 = .ok (.if_icmp .ge 79, 3) := by decide +kernel
theorem dX9_sortAlong_13 : decode cX9_sortAlong 13 = .ok (.aload_n 0, 1) := by decide +kernel
theorem dX9_sortAlong_14 : decode cX9_sortAlong 14 = .ok (.getfield 9, 3) := by decide +kernel
theorem dX9_sortAlong_17 : decode cX9_sortAlong 17 = .ok (.iload 5, 2) := by decide +kernel
theorem dX9_sortAlong_19 : decode cX9_sortAlong 19 = .ok (.iaload, 1) := by decide +kernel
theorem dX9_sortAlong_20 : decode cX9_sortAlong 20 = .ok (.istore 6, 2) := by decide +kernel
theorem dX9_sortAlong_22 : decode cX9_sortAlong 22 = .ok (.iload 5, 2) := by decide +kernel
theorem dX9_sortAlong_24 : decode cX9_sortAlong 24 = .ok (.istore 7, 2) := by decide +kernel
theorem dX9_sortAlong_26 : decode cX9_sortAlong 26 = .ok (.iload 7, 2) := by decide +kernel
theorem dX9_sortAlong_28 : decode cX9_sortAlong 28 = .ok (.iload_n 2, 1) := by decide +kernel
theorem dX9_sortAlong_29 : decode cX9_sortAlong 29 = .ok (.if_icmp .le 45, 3) := by decide +kernel
theorem dX9_sortAlong_32 : decode cX9_sortAlong 32 = .ok (.aload_n 1, 1) := by decide +kernel
theorem dX9_sortAlong_33 : decode cX9_sortAlong 33 = .ok (.iload 6, 2) := by decide +kernel
theorem dX9_sortAlong_35 : decode cX9_sortAlong 35 = .ok (.aload_n 0, 1) := by decide +kernel
theorem dX9_sortAlong_36 : decode cX9_sortAlong 36 = .ok (.getfield 9, 3) := by decide +kernel
theorem dX9_sortAlong_39 : decode cX9_sortAlong 39 = .ok (.iload 7, 2) := by decide +kernel
theorem dX9_sortAlong_41 : decode cX9_sortAlong 41 = .ok (.iconst 1, 1) := by decide +kernel
theorem dX9_sortAlong_42 : decode cX9_sortAlong 42 = .ok (.isub, 1) := by decide +kernel
theorem dX9_sortAlong_43 : decode cX9_sortAlong 43 = .ok (.iaload, 1) := by decide +kernel
theorem dX9_sortAlong_44 : decode cX9_sortAlong 44 = .ok (.iload 4, 2) := by decide +kernel
theorem dX9_sortAlong_46 : decode cX9_sortAlong 46 = .ok (.invokestatic 88, 3) := by decide +kernel
theorem dX9_sortAlong_49 : decode cX9_sortAlong 49 = .ok (.ifCond .eq 25, 3) := by decide +kernel
theorem dX9_sortAlong_52 : decode cX9_sortAlong 52 = .ok (.aload_n 0, 1) := by decide +kernel
theorem dX9_sortAlong_53 : decode cX9_sortAlong 53 = .ok (.getfield 9, 3) := by decide +kernel
theorem dX9_sortAlong_56 : decode cX9_sortAlong 56 = .ok (.iload 7, 2) := by decide +kernel
theorem dX9_sortAlong_58 : decode cX9_sortAlong 58 = .ok (.aload_n 0, 1) := by decide +kernel
theorem dX9_sortAlong_59 : decode cX9_sortAlong 59 = .ok (.getfield 9, 3) := by decide +kernel
theorem dX9_sortAlong_62 : decode cX9_sortAlong 62 = .ok (.iload 7, 2) := by decide +kernel
theorem dX9_sortAlong_64 : decode cX9_sortAlong 64 = .ok (.iconst 1, 1) := by decide +kernel
theorem dX9_sortAlong_65 : decode cX9_sortAlong 65 = .ok (.isub, 1) := by decide +kernel
theorem dX9_sortAlong_66 : decode cX9_sortAlong 66 = .ok (.iaload, 1) := by decide +kernel
theorem dX9_sortAlong_67 : decode cX9_sortAlong 67 = .ok (.iastore, 1) := by decide +kernel
theorem dX9_sortAlong_68 : decode cX9_sortAlong 68 = .ok (.iinc 7 (-1), 3) := by decide +kernel
theorem dX9_sortAlong_71 : decode cX9_sortAlong 71 = .ok (.goto (-45), 3) := by decide +kernel
theorem dX9_sortAlong_74 : decode cX9_sortAlong 74 = .ok (.aload_n 0, 1) := by decide +kernel
theorem dX9_sortAlong_75 : decode cX9_sortAlong 75 = .ok (.getfield 9, 3) := by decide +kernel
theorem dX9_sortAlong_78 : decode cX9_sortAlong 78 = .ok (.iload 7, 2) := by decide +kernel
theorem dX9_sortAlong_80 : decode cX9_sortAlong 80 = .ok (.iload 6, 2) := by decide +kernel
theorem dX9_sortAlong_82 : decode cX9_sortAlong 82 = .ok (.iastore, 1) := by decide +kernel
theorem dX9_sortAlong_83 : decode cX9_sortAlong 83 = .ok (.iinc 5 1, 3) := by decide +kernel
theorem dX9_sortAlong_86 : decode cX9_sortAlong 86 = .ok (.goto (-81), 3) := by decide +kernel
theorem dX9_sortAlong_89 : decode cX9_sortAlong 89 = .ok (.return_, 1) := by decide +kernel
theorem dX9_comesBefore_0 : decode cX9_comesBefore 0 = .ok (.aload_n 0, 1) := by decide +kernel
theorem dX9_comesBefore_1 : decode cX9_comesBefore 1 = .ok (.iload_n 1, 1) := by decide +kernel
theorem dX9_comesBefore_2 : decode cX9_comesBefore 2 = .ok (.iload_n 3, 1) := by decide +kernel
theorem dX9_comesBefore_3 : decode cX9_comesBefore 3 = .ok (.invokevirtual 82, 3) := by decide +kernel
theorem dX9_comesBefore_6 : decode cX9_comesBefore 6 = .ok (.aload_n 0, 1) := by decide +kernel
theorem dX9_comesBefore_7 : decode cX9_comesBefore 7 = .ok (.iload_n 2, 1) := by decide +kernel
theorem dX9_comesBefore_8 : decode cX9_comesBefore 8 = .ok (.iload_n 3, 1) := by decide +kernel
theorem dX9_comesBefore_9 : decode cX9_comesBefore 9 = .ok (.invokevirtual 82, 3) := by decide +kernel
theorem dX9_comesBefore_12 : decode cX9_comesBefore 12 = .ok (.isub, 1) := by decide +kernel
theorem dX9_comesBefore_13 : decode cX9_comesBefore 13 = .ok (.istore 4, 2) := by decide +kernel
theorem dX9_comesBefore_15 : decode cX9_comesBefore 15 = .ok (.iload 4, 2) := by decide +kernel
theorem dX9_comesBefore_17 : decode cX9_comesBefore 17 = .ok (.ifCond .lt 13, 3) := by decide +kernel
theorem dX9_comesBefore_20 : decode cX9_comesBefore 20 = .ok (.iload 4, 2) := by decide +kernel
theorem dX9_comesBefore_22 : decode cX9_comesBefore 22 = .ok (.ifCond .ne 12, 3) := by decide +kernel
theorem dX9_comesBefore_25 : decode cX9_comesBefore 25 = .ok (.iload_n 1, 1) := by decide +kernel
theorem dX9_comesBefore_26 : decode cX9_comesBefore 26 = .ok (.iload_n 2, 1) := by decide +kernel
theorem dX9_comesBefore_27 : decode cX9_comesBefore 27 = .ok (.if_icmp .ge 7, 3) := by decide +kernel
theorem dX9_comesBefore_30 : decode cX9_comesBefore 30 = .ok (.iconst 1, 1) := by decide +kernel
theorem dX9_comesBefore_31 : decode cX9_comesBefore 31 = .ok (.goto 4, 3) := by decide +kernel
theorem dX9_comesBefore_34 : decode cX9_comesBefore 34 = .ok (.iconst 0, 1) := by decide +kernel
theorem dX9_comesBefore_35 : decode cX9_comesBefore 35 = .ok (.ireturn, 1) := by decide +kernel
theorem dX9_fitBoxes_0 : decode cX9_fitBoxes 0 = .ok (.iconst 0, 1) := by decide +kernel
theorem dX9_fitBoxes_1 : decode cX9_fitBoxes 1 = .ok (.istore_n 2, 1) := by decide +kernel
theorem dX9_fitBoxes_2 : decode cX9_fitBoxes 2 = .ok (.iconst 0, 1) := by decide +kernel
theorem dX9_fitBoxes_3 : decode cX9_fitBoxes 3 = .ok (.istore_n 3, 1) := by decide +kernel
theorem dX9_fitBoxes_4 : decode cX9_fitBoxes 4 = .ok (.iload_n 3, 1) := by decide +kernel
theorem dX9_fitBoxes_5 : decode cX9_fitBoxes 5 = .ok (.aload_n 0, 1) := by decide +kernel
theorem dX9_fitBoxes_6 : decode cX9_fitBoxes 6 = .ok (.getfield 37, 3) := by decide +kernel
theorem dX9_fitBoxes_9 : decode cX9_fitBoxes 9 = .ok (.if_icmp .ge 21, 3) := by decide +kernel
theorem dX9_fitBoxes_12 : decode cX9_fitBoxes 12 = .ok (.aload_n 0, 1) := by decide +kernel
theorem dX9_fitBoxes_13 : decode cX9_fitBoxes 13 = .ok (.aload_n 1, 1) := by decide +kernel
theorem dX9_fitBoxes_14 : decode cX9_fitBoxes 14 = .ok (.iload_n 3, 1) := by decide +kernel
theorem dX9_fitBoxes_15 : decode cX9_fitBoxes 15 = .ok (.invokevirtual 66, 3) := by decide +kernel
theorem dX9_fitBoxes_18 : decode cX9_fitBoxes 18 = .ok (.ifCond .eq 6, 3) := by decide +kernel
theorem dX9_fitBoxes_21 : decode cX9_fitBoxes 21 = .ok (.iinc 2 1, 3) := by decide +kernel
theorem dX9_fitBoxes_24 : decode cX9_fitBoxes 24 = .ok (.iinc 3 1, 3) := by decide +kernel
theorem dX9_fitBoxes_27 : decode cX9_fitBoxes 27 = .ok (.goto (-23), 3) := by decide +kernel
theorem dX9_fitBoxes_30 : decode cX9_fitBoxes 30 = .ok (.iload_n 2, 1) := by decide +kernel
theorem dX9_fitBoxes_31 : decode cX9_fitBoxes 31 = .ok (.ireturn, 1) := by decide +kernel
theorem dX9_fitBox_0 : decode cX9_fitBox 0 = .ok (.iconst 0, 1) := by decide +kernel
theorem dX9_fitBox_1 : decode cX9_fitBox 1 = .ok (.istore_n 3, 1) := by decide +kernel
theorem dX9_fitBox_2 : decode cX9_fitBox 2 = .ok (.iconst 0, 1) := by decide +kernel
theorem dX9_fitBox_3 : decode cX9_fitBox 3 = .ok (.istore 4, 2) := by decide +kernel
theorem dX9_fitBox_5 : decode cX9_fitBox 5 = .ok (.iload 4, 2) := by decide +kernel
theorem dX9_fitBox_7 : decode cX9_fitBox 7 = .ok (.iconst 3, 1) := by decide +kernel
theorem dX9_fitBox_8 : decode cX9_fitBox 8 = .ok (.if_icmp .ge 197, 3) := by decide +kernel
theorem dX9_fitBox_11 : decode cX9_fitBox 11 = .ok (.aload_n 1, 1) := by decide +kernel
theorem dX9_fitBox_12 : decode cX9_fitBox 12 = .ok (.aload_n 0, 1) := by decide +kernel
theorem dX9_fitBox_13 : decode cX9_fitBox 13 = .ok (.getfield 9, 3) := by decide +kernel
theorem dX9_fitBox_16 : decode cX9_fitBox 16 = .ok (.aload_n 0, 1) := by decide +kernel
theorem dX9_fitBox_17 : decode cX9_fitBox 17 = .ok (.getfield 15, 3) := by decide +kernel
theorem dX9_fitBox_20 : decode cX9_fitBox 20 = .ok (.iload_n 2, 1) := by decide +kernel
theorem dX9_fitBox_21 : decode cX9_fitBox 21 = .ok (.iaload, 1) := by decide +kernel
theorem dX9_fitBox_22 : decode cX9_fitBox 22 = .ok (.iaload, 1) := by decide +kernel
theorem dX9_fitBox_23 : decode cX9_fitBox 23 = .ok (.iload 4, 2) := by decide +kernel
theorem dX9_fitBox_25 : decode cX9_fitBox 25 = .ok (.invokevirtual 92, 3) := by decide +kernel
theorem dX9_fitBox_28 : decode cX9_fitBox 28 = .ok (.istore 5, 2) := by decide +kernel
theorem dX9_fitBox_30 : decode cX9_fitBox 30 = .ok (.aload_n 1, 1) := by decide +kernel
theorem dX9_fitBox_31 : decode cX9_fitBox 31 = .ok (.aload_n 0, 1) := by decide +kernel
theorem dX9_fitBox_32 : decode cX9_fitBox 32 = .ok (.getfield 9, 3) := by decide +kernel
theorem dX9_fitBox_35 : decode cX9_fitBox 35 = .ok (.aload_n 0, 1) := by decide +kernel
theorem dX9_fitBox_36 : decode cX9_fitBox 36 = .ok (.getfield 15, 3) := by decide +kernel
theorem dX9_fitBox_39 : decode cX9_fitBox 39 = .ok (.iload_n 2, 1) := by decide +kernel
theorem dX9_fitBox_40 : decode cX9_fitBox 40 = .ok (.iaload, 1) := by decide +kernel
theorem dX9_fitBox_41 : decode cX9_fitBox 41 = .ok (.iaload, 1) := by decide +kernel
theorem dX9_fitBox_42 : decode cX9_fitBox 42 = .ok (.iload 4, 2) := by decide +kernel
theorem dX9_fitBox_44 : decode cX9_fitBox 44 = .ok (.invokevirtual 95, 3) := by decide +kernel
theorem dX9_fitBox_47 : decode cX9_fitBox 47 = .ok (.istore 6, 2) := by decide +kernel
theorem dX9_fitBox_49 : decode cX9_fitBox 49 = .ok (.aload_n 0, 1) := by decide +kernel
theorem dX9_fitBox_50 : decode cX9_fitBox 50 = .ok (.getfield 15, 3) := by decide +kernel
theorem dX9_fitBox_53 : decode cX9_fitBox 53 = .ok (.iload_n 2, 1) := by decide +kernel
theorem dX9_fitBox_54 : decode cX9_fitBox 54 = .ok (.iaload, 1) := by decide +kernel
theorem dX9_fitBox_55 : decode cX9_fitBox 55 = .ok (.iconst 1, 1) := by decide +kernel
theorem dX9_fitBox_56 : decode cX9_fitBox 56 = .ok (.iadd, 1) := by decide +kernel
theorem dX9_fitBox_57 : decode cX9_fitBox 57 = .ok (.istore 7, 2) := by decide +kernel
theorem dX9_fitBox_59 : decode cX9_fitBox 59 = .ok (.iload 7, 2) := by decide +kernel
theorem dX9_fitBox_61 : decode cX9_fitBox 61 = .ok (.aload_n 0, 1) := by decide +kernel
theorem dX9_fitBox_62 : decode cX9_fitBox 62 = .ok (.getfield 15, 3) := by decide +kernel
theorem dX9_fitBox_65 : decode cX9_fitBox 65 = .ok (.iload_n 2, 1) := by decide +kernel
theorem dX9_fitBox_66 : decode cX9_fitBox 66 = .ok (.iaload, 1) := by decide +kernel
theorem dX9_fitBox_67 : decode cX9_fitBox 67 = .ok (.aload_n 0, 1) := by decide +kernel
theorem dX9_fitBox_68 : decode cX9_fitBox 68 = .ok (.getfield 18, 3) := by decide +kernel
theorem dX9_fitBox_71 : decode cX9_fitBox 71 = .ok (.iload_n 2, 1) := by decide +kernel
theorem dX9_fitBox_72 : decode cX9_fitBox 72 = .ok (.iaload, 1) := by decide +kernel
theorem dX9_fitBox_73 : decode cX9_fitBox 73 = .ok (.iadd, 1) := by decide +kernel
theorem dX9_fitBox_74 : decode cX9_fitBox 74 = .ok (.if_icmp .ge 49, 3) := by decide +kernel
theorem dX9_fitBox_77 : decode cX9_fitBox 77 = .ok (.iload 5, 2) := by decide +kernel
theorem dX9_fitBox_79 : decode cX9_fitBox 79 = .ok (.aload_n 1, 1) := by decide +kernel
theorem dX9_fitBox_80 : decode cX9_fitBox 80 = .ok (.aload_n 0, 1) := by decide +kernel
theorem dX9_fitBox_81 : decode cX9_fitBox 81 = .ok (.getfield 9, 3) := by decide +kernel
theorem dX9_fitBox_84 : decode cX9_fitBox 84 = .ok (.iload 7, 2) := by decide +kernel
theorem dX9_fitBox_86 : decode cX9_fitBox 86 = .ok (.iaload, 1) := by decide +kernel
theorem dX9_fitBox_87 : decode cX9_fitBox 87 = .ok (.iload 4, 2) := by decide +kernel
theorem dX9_fitBox_89 : decode cX9_fitBox 89 = .ok (.invokevirtual 92, 3) := by decide +kernel
theorem dX9_fitBox_92 : decode cX9_fitBox 92 = .ok (.invokestatic 85, 3) := by decide +kernel
theorem dX9_fitBox_95 : decode cX9_fitBox 95 = .ok (.istore 5, 2) := by decide +kernel
theorem dX9_fitBox_97 : decode cX9_fitBox 97 = .ok (.iload 6, 2) := by decide +kernel
theorem dX9_fitBox_99 : decode cX9_fitBox 99 = .ok (.aload_n 1, 1) := by decide +kernel
theorem dX9_fitBox_100 : decode cX9_fitBox 100 = .ok (.aload_n 0, 1) := by decide +kernel
theorem dX9_fitBox_101 : decode cX9_fitBox 101 = .ok (.getfield 9, 3) := by decide +kernel
theorem dX9_fitBox_104 : decode cX9_fitBox 104 = .ok (.iload 7, 2) := by decide +kernel
theorem dX9_fitBox_106 : decode cX9_fitBox 106 = .ok (.iaload, 1) := by decide +kernel
theorem dX9_fitBox_107 : decode cX9_fitBox 107 = .ok (.iload 4, 2) := by decide +kernel
theorem dX9_fitBox_109 : decode cX9_fitBox 109 = .ok (.invokevirtual 95, 3) := by decide +kernel
theorem dX9_fitBox_112 : decode cX9_fitBox 112 = .ok (.invokestatic 60, 3) := by decide +kernel
theorem dX9_fitBox_115 : decode cX9_fitBox 115 = .ok (.istore 6, 2) := by decide +kernel
theorem dX9_fitBox_117 : decode cX9_fitBox 117 = .ok (.iinc 7 1, 3) := by decide +kernel
theorem dX9_fitBox_120 : decode cX9_fitBox 120 = .ok (.goto (-61), 3) := by decide +kernel
theorem dX9_fitBox_123 : decode cX9_fitBox 123 = .ok (.iload_n 3, 1) := by decide +kernel
theorem dX9_fitBox_124 : decode cX9_fitBox 124 = .ok (.ifCond .ne 39, 3) := by decide +kernel
theorem dX9_fitBox_127 : decode cX9_fitBox 127 = .ok (.aload_n 0, 1) := by decide +kernel
theorem dX9_fitBox_128 : decode cX9_fitBox 128 = .ok (.getfield 30, 3) := by decide +kernel
theorem dX9_fitBox_131 : decode cX9_fitBox 131 = .ok (.bipush 6, 2) := by decide +kernel
theorem dX9_fitBox_133 : decode cX9_fitBox 133 = .ok (.iload_n 2, 1) := by decide +kernel
theorem dX9_fitBox_134 : decode cX9_fitBox 134 = .ok (.imul, 1) := by decide +kernel
theorem dX9_fitBox_135 : decode cX9_fitBox 135 = .ok (.iload 4, 2) := by decide +kernel
theorem dX9_fitBox_137 : decode cX9_fitBox 137 = .ok (.iadd, 1) := by decide +kernel
theorem dX9_fitBox_138 : decode cX9_fitBox 138 = .ok (.iaload, 1) := by decide +kernel
theorem dX9_fitBox_139 : decode cX9_fitBox 139 = .ok (.iload 5, 2) := by decide +kernel
theorem dX9_fitBox_141 : decode cX9_fitBox 141 = .ok (.if_icmp .ne 22, 3) := by decide +kernel
theorem dX9_fitBox_144 : decode cX9_fitBox 144 = .ok (.aload_n 0, 1) := by decide +kernel
theorem dX9_fitBox_145 : decode cX9_fitBox 145 = .ok (.getfield 30, 3) := by decide +kernel
theorem dX9_fitBox_148 : decode cX9_fitBox 148 = .ok (.bipush 6, 2) := by decide +kernel
theorem dX9_fitBox_150 : decode cX9_fitBox 150 = .ok (.iload_n 2, 1) := by decide +kernel
theorem dX9_fitBox_151 : decode cX9_fitBox 151 = .ok (.imul, 1) := by decide +kernel
theorem dX9_fitBox_152 : decode cX9_fitBox 152 = .ok (.iconst 3, 1) := by decide +kernel
theorem dX9_fitBox_153 : decode cX9_fitBox 153 = .ok (.iadd, 1) := by decide +kernel
theorem dX9_fitBox_154 : decode cX9_fitBox 154 = .ok (.iload 4, 2) := by decide +kernel
theorem dX9_fitBox_156 : decode cX9_fitBox 156 = .ok (.iadd, 1) := by decide +kernel
theorem dX9_fitBox_157 : decode cX9_fitBox 157 = .ok (.iaload, 1) := by decide +kernel
theorem dX9_fitBox_158 : decode cX9_fitBox 158 = .ok (.iload 6, 2) := by decide +kernel
theorem dX9_fitBox_160 : decode cX9_fitBox 160 = .ok (.if_icmp .eq 7, 3) := by decide +kernel
theorem dX9_fitBox_163 : decode cX9_fitBox 163 = .ok (.iconst 1, 1) := by decide +kernel
theorem dX9_fitBox_164 : decode cX9_fitBox 164 = .ok (.goto 4, 3) := by decide +kernel
theorem dX9_fitBox_167 : decode cX9_fitBox 167 = .ok (.iconst 0, 1) := by decide +kernel
theorem dX9_fitBox_168 : decode cX9_fitBox 168 = .ok (.istore_n 3, 1) := by decide +kernel
theorem dX9_fitBox_169 : decode cX9_fitBox 169 = .ok (.aload_n 0, 1) := by decide +kernel
theorem dX9_fitBox_170 : decode cX9_fitBox 170 = .ok (.getfield 30, 3) := by decide +kernel
theorem dX9_fitBox_173 : decode cX9_fitBox 173 = .ok (.bipush 6, 2) := by decide +kernel
theorem dX9_fitBox_175 : decode cX9_fitBox 175 = .ok (.iload_n 2, 1) := by decide +kernel
theorem dX9_fitBox_176 : decode cX9_fitBox 176 = .ok (.imul, 1) := by decide +kernel
theorem dX9_fitBox_177 : decode cX9_fitBox 177 = .ok (.iload 4, 2) := by decide +kernel
theorem dX9_fitBox_179 : decode cX9_fitBox 179 = .ok (.iadd, 1) := by decide +kernel
theorem dX9_fitBox_180 : decode cX9_fitBox 180 = .ok (.iload 5, 2) := by decide +kernel
theorem dX9_fitBox_182 : decode cX9_fitBox 182 = .ok (.iastore, 1) := by decide +kernel
theorem dX9_fitBox_183 : decode cX9_fitBox 183 = .ok (.aload_n 0, 1) := by decide +kernel
theorem dX9_fitBox_184 : decode cX9_fitBox 184 = .ok (.getfield 30, 3) := by decide +kernel
theorem dX9_fitBox_187 : decode cX9_fitBox 187 = .ok (.bipush 6, 2) := by decide +kernel
theorem dX9_fitBox_189 : decode cX9_fitBox 189 = .ok (.iload_n 2, 1) := by decide +kernel
theorem dX9_fitBox_190 : decode cX9_fitBox 190 = .ok (.imul, 1) := by decide +kernel
theorem dX9_fitBox_191 : decode cX9_fitBox 191 = .ok (.iconst 3, 1) := by decide +kernel
theorem dX9_fitBox_192 : decode cX9_fitBox 192 = .ok (.iadd, 1) := by decide +kernel
theorem dX9_fitBox_193 : decode cX9_fitBox 193 = .ok (.iload 4, 2) := by decide +kernel
theorem dX9_fitBox_195 : decode cX9_fitBox 195 = .ok (.iadd, 1) := by decide +kernel
theorem dX9_fitBox_196 : decode cX9_fitBox 196 = .ok (.iload 6, 2) := by decide +kernel
theorem dX9_fitBox_198 : decode cX9_fitBox 198 = .ok (.iastore, 1) := by decide +kernel
theorem dX9_fitBox_199 : decode cX9_fitBox 199 = .ok (.iinc 4 1, 3) := by decide +kernel
theorem dX9_fitBox_202 : decode cX9_fitBox 202 = .ok (.goto (-197), 3) := by decide +kernel
theorem dX9_fitBox_205 : decode cX9_fitBox 205 = .ok (.iload_n 3, 1) := by decide +kernel
theorem dX9_fitBox_206 : decode cX9_fitBox 206 = .ok (.ireturn, 1) := by decide +kernel
theorem dX9_describe_0 : decode cX9_describe 0 = .ok (.iload_n 2, 1) := by decide +kernel
theorem dX9_describe_1 : decode cX9_describe 1 = .ok (.tableswitch 70 0 4 #[35, 42, 49, 56, 63], 35) := by decide +kernel
theorem dX9_describe_36 : decode cX9_describe 36 = .ok (.aload_n 0, 1) := by decide +kernel
theorem dX9_describe_37 : decode cX9_describe 37 = .ok (.getfield 15, 3) := by decide +kernel
theorem dX9_describe_40 : decode cX9_describe 40 = .ok (.iload_n 1, 1) := by decide +kernel
theorem dX9_describe_41 : decode cX9_describe 41 = .ok (.iaload, 1) := by decide +kernel
theorem dX9_describe_42 : decode cX9_describe 42 = .ok (.ireturn, 1) := by decide +kernel
theorem dX9_describe_43 : decode cX9_describe 43 = .ok (.aload_n 0, 1) := by decide +kernel
theorem dX9_describe_44 : decode cX9_describe 44 = .ok (.getfield 18, 3) := by decide +kernel
theorem dX9_describe_47 : decode cX9_describe 47 = .ok (.iload_n 1, 1) := by decide +kernel
theorem dX9_describe_48 : decode cX9_describe 48 = .ok (.iaload, 1) := by decide +kernel
theorem dX9_describe_49 : decode cX9_describe 49 = .ok (.ireturn, 1) := by decide +kernel
theorem dX9_describe_50 : decode cX9_describe 50 = .ok (.aload_n 0, 1) := by decide +kernel
theorem dX9_describe_51 : decode cX9_describe 51 = .ok (.getfield 21, 3) := by decide +kernel
theorem dX9_describe_54 : decode cX9_describe 54 = .ok (.iload_n 1, 1) := by decide +kernel
theorem dX9_describe_55 : decode cX9_describe 55 = .ok (.iaload, 1) := by decide +kernel
theorem dX9_describe_56 : decode cX9_describe 56 = .ok (.ireturn, 1) := by decide +kernel
theorem dX9_describe_57 : decode cX9_describe 57 = .ok (.aload_n 0, 1) := by decide +kernel
theorem dX9_describe_58 : decode cX9_describe 58 = .ok (.getfield 24, 3) := by decide +kernel
theorem dX9_describe_61 : decode cX9_describe 61 = .ok (.iload_n 1, 1) := by decide +kernel
theorem dX9_describe_62 : decode cX9_describe 62 = .ok (.iaload, 1) := by decide +kernel
theorem dX9_describe_63 : decode cX9_describe 63 = .ok (.ireturn, 1) := by decide +kernel
theorem dX9_describe_64 : decode cX9_describe 64 = .ok (.aload_n 0, 1) := by decide +kernel
theorem dX9_describe_65 : decode cX9_describe 65 = .ok (.getfield 27, 3) := by decide +kernel
theorem dX9_describe_68 : decode cX9_describe 68 = .ok (.iload_n 1, 1) := by decide +kernel
theorem dX9_describe_69 : decode cX9_describe 69 = .ok (.iaload, 1) := by decide +kernel
theorem dX9_describe_70 : decode cX9_describe 70 = .ok (.ireturn, 1) := by decide +kernel
theorem dX9_describe_71 : decode cX9_describe 71 = .ok (.iload_n 2, 1) := by decide +kernel
theorem dX9_describe_72 : decode cX9_describe 72 = .ok (.iconst 5, 1) := by decide +kernel
theorem dX9_describe_73 : decode cX9_describe 73 = .ok (.if_icmp .lt 25, 3) := by decide +kernel
theorem dX9_describe_76 : decode cX9_describe 76 = .ok (.iload_n 2, 1) := by decide +kernel
theorem dX9_describe_77 : decode cX9_describe 77 = .ok (.bipush 10, 2) := by decide +kernel
theorem dX9_describe_79 : decode cX9_describe 79 = .ok (.if_icmp .gt 19, 3) := by decide +kernel
theorem dX9_describe_82 : decode cX9_describe 82 = .ok (.aload_n 0, 1) := by decide +kernel
theorem dX9_describe_83 : decode cX9_describe 83 = .ok (.getfield 30, 3) := by decide +kernel
theorem dX9_describe_86 : decode cX9_describe 86 = .ok (.bipush 6, 2) := by decide +kernel
theorem dX9_describe_88 : decode cX9_describe 88 = .ok (.iload_n 1, 1) := by decide +kernel
theorem dX9_describe_89 : decode cX9_describe 89 = .ok (.imul, 1) := by decide +kernel
theorem dX9_describe_90 : decode cX9_describe 90 = .ok (.iload_n 2, 1) := by decide +kernel
theorem dX9_describe_91 : decode cX9_describe 91 = .ok (.iadd, 1) := by decide +kernel
theorem dX9_describe_92 : decode cX9_describe 92 = .ok (.iconst 5, 1) := by decide +kernel
theorem dX9_describe_93 : decode cX9_describe 93 = .ok (.isub, 1) := by decide +kernel
theorem dX9_describe_94 : decode cX9_describe 94 = .ok (.iaload, 1) := by decide +kernel
theorem dX9_describe_95 : decode cX9_describe 95 = .ok (.goto 4, 3) := by decide +kernel
theorem dX9_describe_98 : decode cX9_describe 98 = .ok (.iconst (-1), 1) := by decide +kernel
theorem dX9_describe_99 : decode cX9_describe 99 = .ok (.ireturn, 1) := by decide +kernel
theorem dX9_follow_0 : decode cX9_follow 0 = .ok (.aload_n 1, 1) := by decide +kernel
theorem dX9_follow_1 : decode cX9_follow 1 = .ok (.getfield 98, 3) := by decide +kernel
theorem dX9_follow_4 : decode cX9_follow 4 = .ok (.iconst 0, 1) := by decide +kernel
theorem dX9_follow_5 : decode cX9_follow 5 = .ok (.laload, 1) := by decide +kernel
theorem dX9_follow_6 : decode cX9_follow 6 = .ok (.lconst 0, 1) := by decide +kernel
theorem dX9_follow_7 : decode cX9_follow 7 = .ok (.lcmp, 1) := by decide +kernel
theorem dX9_follow_8 : decode cX9_follow 8 = .ok (.ifCond .ne 25, 3) := by decide +kernel
theorem dX9_follow_11 : decode cX9_follow 11 = .ok (.aload_n 1, 1) := by decide +kernel
theorem dX9_follow_12 : decode cX9_follow 12 = .ok (.getfield 98, 3) := by decide +kernel
theorem dX9_follow_15 : decode cX9_follow 15 = .ok (.iconst 1, 1) := by decide +kernel
theorem dX9_follow_16 : decode cX9_follow 16 = .ok (.laload, 1) := by decide +kernel
theorem dX9_follow_17 : decode cX9_follow 17 = .ok (.lconst 0, 1) := by decide +kernel
theorem dX9_follow_18 : decode cX9_follow 18 = .ok (.lcmp, 1) := by decide +kernel
theorem dX9_follow_19 : decode cX9_follow 19 = .ok (.ifCond .ne 14, 3) := by decide +kernel
theorem dX9_follow_22 : decode cX9_follow 22 = .ok (.aload_n 1, 1) := by decide +kernel
theorem dX9_follow_23 : decode cX9_follow 23 = .ok (.getfield 98, 3) := by decide +kernel
theorem dX9_follow_26 : decode cX9_follow 26 = .ok (.iconst 2, 1) := by decide +kernel
theorem dX9_follow_27 : decode cX9_follow 27 = .ok (.laload, 1) := by decide +kernel
theorem dX9_follow_28 : decode cX9_follow 28 = .ok (.lconst 0, 1) := by decide +kernel
theorem dX9_follow_29 : decode cX9_follow 29 = .ok (.lcmp, 1) := by decide +kernel
theorem dX9_follow_30 : decode cX9_follow 30 = .ok (.ifCond .eq 7, 3) := by decide +kernel
theorem dX9_follow_33 : decode cX9_follow 33 = .ok (.iconst 1, 1) := by decide +kernel
theorem dX9_follow_34 : decode cX9_follow 34 = .ok (.goto 4, 3) := by decide +kernel
theorem dX9_follow_37 : decode cX9_follow 37 = .ok (.iconst 0, 1) := by decide +kernel
theorem dX9_follow_38 : decode cX9_follow 38 = .ok (.istore_n 2, 1) := by decide +kernel
theorem dX9_follow_39 : decode cX9_follow 39 = .ok (.iconst 0, 1) := by decide +kernel
theorem dX9_follow_40 : decode cX9_follow 40 = .ok (.istore_n 3, 1) := by decide +kernel
theorem dX9_follow_41 : decode cX9_follow 41 = .ok (.iload_n 3, 1) := by decide +kernel
theorem dX9_follow_42 : decode cX9_follow 42 = .ok (.aload_n 0, 1) := by decide +kernel
theorem dX9_follow_43 : decode cX9_follow 43 = .ok (.getfield 37, 3) := by decide +kernel
theorem dX9_follow_46 : decode cX9_follow 46 = .ok (.if_icmp .ge 60, 3) := by decide +kernel
theorem dX9_follow_49 : decode cX9_follow 49 = .ok (.aload_n 0, 1) := by decide +kernel
theorem dX9_follow_50 : decode cX9_follow 50 = .ok (.getfield 27, 3) := by decide +kernel
theorem dX9_follow_53 : decode cX9_follow 53 = .ok (.iload_n 3, 1) := by decide +kernel
theorem dX9_follow_54 : decode cX9_follow 54 = .ok (.iaload, 1) := by decide +kernel
theorem dX9_follow_55 : decode cX9_follow 55 = .ok (.ifCond .ge 7, 3) := by decide +kernel
theorem dX9_follow_58 : decode cX9_follow 58 = .ok (.iload_n 2, 1) := by decide +kernel
theorem dX9_follow_59 : decode cX9_follow 59 = .ok (.goto 14, 3) := by decide +kernel
theorem dX9_follow_62 : decode cX9_follow 62 = .ok (.aload_n 0, 1) := by decide +kernel
theorem dX9_follow_63 : decode cX9_follow 63 = .ok (.getfield 33, 3) := by decide +kernel
theorem dX9_follow_66 : decode cX9_follow 66 = .ok (.aload_n 0, 1) := by decide +kernel
theorem dX9_follow_67 : decode cX9_follow 67 = .ok (.getfield 27, 3) := by decide +kernel
theorem dX9_follow_70 : decode cX9_follow 70 = .ok (.iload_n 3, 1) := by decide +kernel
theorem dX9_follow_71 : decode cX9_follow 71 = .ok (.iaload, 1) := by decide +kernel
theorem dX9_follow_72 : decode cX9_follow 72 = .ok (.baload, 1) := by decide +kernel
theorem dX9_follow_73 : decode cX9_follow 73 = .ok (.istore 4, 2) := by decide +kernel
theorem dX9_follow_75 : decode cX9_follow 75 = .ok (.aload_n 0, 1) := by decide +kernel
theorem dX9_follow_76 : decode cX9_follow 76 = .ok (.getfield 33, 3) := by decide +kernel
theorem dX9_follow_79 : decode cX9_follow 79 = .ok (.iload_n 3, 1) := by decide +kernel
theorem dX9_follow_80 : decode cX9_follow 80 = .ok (.iload 4, 2) := by decide +kernel
theorem dX9_follow_82 : decode cX9_follow 82 = .ok (.ifCond .eq 16, 3) := by decide +kernel
theorem dX9_follow_85 : decode cX9_follow 85 = .ok (.aload_n 0, 1) := by decide +kernel
theorem dX9_follow_86 : decode cX9_follow 86 = .ok (.aload_n 1, 1) := by decide +kernel
theorem dX9_follow_87 : decode cX9_follow 87 = .ok (.iload_n 3, 1) := by decide +kernel
theorem dX9_follow_88 : decode cX9_follow 88 = .ok (.invokevirtual 104, 3) := by decide +kernel
theorem dX9_follow_91 : decode cX9_follow 91 = .ok (.ifCond .eq 7, 3) := by decide +kernel
theorem dX9_follow_94 : decode cX9_follow 94 = .ok (.iconst 1, 1) := by decide +kernel
theorem dX9_follow_95 : decode cX9_follow 95 = .ok (.goto 4, 3) := by decide +kernel
theorem dX9_follow_98 : decode cX9_follow 98 = .ok (.iconst 0, 1) := by decide +kernel
theorem dX9_follow_99 : decode cX9_follow 99 = .ok (.bastore, 1) := by decide +kernel
theorem dX9_follow_100 : decode cX9_follow 100 = .ok (.iinc 3 1, 3) := by decide +kernel
theorem dX9_follow_103 : decode cX9_follow 103 = .ok (.goto (-62), 3) := by decide +kernel
theorem dX9_follow_106 : decode cX9_follow 106 = .ok (.return_, 1) := by decide +kernel
theorem dX9_reachesBox_0 : decode cX9_reachesBox 0 = .ok (.lconst 0, 1) := by decide +kernel
theorem dX9_reachesBox_1 : decode cX9_reachesBox 1 = .ok (.lstore_n 3, 1) := by decide +kernel
theorem dX9_reachesBox_2 : decode cX9_reachesBox 2 = .ok (.lconst 1, 1) := by decide +kernel
theorem dX9_reachesBox_3 : decode cX9_reachesBox 3 = .ok (.lstore 5, 2) := by decide +kernel
theorem dX9_reachesBox_5 : decode cX9_reachesBox 5 = .ok (.lconst 1, 1) := by decide +kernel
theorem dX9_reachesBox_6 : decode cX9_reachesBox 6 = .ok (.lstore 7, 2) := by decide +kernel
theorem dX9_reachesBox_8 : decode cX9_reachesBox 8 = .ok (.lconst 0, 1) := by decide +kernel
theorem dX9_reachesBox_9 : decode cX9_reachesBox 9 = .ok (.lstore 9, 2) := by decide +kernel
theorem dX9_reachesBox_11 : decode cX9_reachesBox 11 = .ok (.iconst 0, 1) := by decide +kernel
theorem dX9_reachesBox_12 : decode cX9_reachesBox 12 = .ok (.istore 11, 2) := by decide +kernel
theorem dX9_reachesBox_14 : decode cX9_reachesBox 14 = .ok (.iload 11, 2) := by decide +kernel
theorem dX9_reachesBox_16 : decode cX9_reachesBox 16 = .ok (.iconst 3, 1) := by decide +kernel
theorem dX9_reachesBox_17 : decode cX9_reachesBox 17 = .ok (.if_icmp .ge 172, 3) := by decide +kernel
theorem dX9_reachesBox_20 : decode cX9_reachesBox 20 = .ok (.aload_n 0, 1) := by decide +kernel
theorem dX9_reachesBox_21 : decode cX9_reachesBox 21 = .ok (.getfield 30, 3) := by decide +kernel
theorem dX9_reachesBox_24 : decode cX9_reachesBox 24 = .ok (.bipush 6, 2) := by decide +kernel
theorem dX9_reachesBox_26 : decode cX9_reachesBox 26 = .ok (.iload_n 2, 1) := by decide +kernel
theorem dX9_reachesBox_27 : decode cX9_reachesBox 27 = .ok (.imul, 1) := by decide +kernel
theorem dX9_reachesBox_28 : decode cX9_reachesBox 28 = .ok (.iload 11, 2) := by decide +kernel
theorem dX9_reachesBox_30 : decode cX9_reachesBox 30 = .ok (.iadd, 1) := by decide +kernel
theorem dX9_reachesBox_31 : decode cX9_reachesBox 31 = .ok (.iaload, 1) := by decide +kernel
theorem dX9_reachesBox_32 : decode cX9_reachesBox 32 = .ok (.i2l, 1) := by decide +kernel
theorem dX9_reachesBox_33 : decode cX9_reachesBox 33 = .ok (.aload_n 1, 1) := by decide +kernel
theorem dX9_reachesBox_34 : decode cX9_reachesBox 34 = .ok (.getfield 108, 3) := by decide +kernel
theorem dX9_reachesBox_37 : decode cX9_reachesBox 37 = .ok (.iload 11, 2) := by decide +kernel
theorem dX9_reachesBox_39 : decode cX9_reachesBox 39 = .ok (.laload, 1) := by decide +kernel
theorem dX9_reachesBox_40 : decode cX9_reachesBox 40 = .ok (.lsub, 1) := by decide +kernel
theorem dX9_reachesBox_41 : decode cX9_reachesBox 41 = .ok (.lstore 12, 2) := by decide +kernel
theorem dX9_reachesBox_43 : decode cX9_reachesBox 43 = .ok (.aload_n 0, 1) := by decide +kernel
theorem dX9_reachesBox_44 : decode cX9_reachesBox 44 = .ok (.getfield 30, 3) := by decide +kernel
theorem dX9_reachesBox_47 : decode cX9_reachesBox 47 = .ok (.bipush 6, 2) := by decide +kernel
theorem dX9_reachesBox_49 : decode cX9_reachesBox 49 = .ok (.iload_n 2, 1) := by decide +kernel
theorem dX9_reachesBox_50 : decode cX9_reachesBox 50 = .ok (.imul, 1) := by decide +kernel
theorem dX9_reachesBox_51 : decode cX9_reachesBox 51 = .ok (.iconst 3, 1) := by decide +kernel
theorem dX9_reachesBox_52 : decode cX9_reachesBox 52 = .ok (.iadd, 1) := by decide +kernel
theorem dX9_reachesBox_53 : decode cX9_reachesBox 53 = .ok (.iload 11, 2) := by decide +kernel
theorem dX9_reachesBox_55 : decode cX9_reachesBox 55 = .ok (.iadd, 1) := by decide +kernel
theorem dX9_reachesBox_56 : decode cX9_reachesBox 56 = .ok (.iaload, 1) := by decide +kernel
theorem dX9_reachesBox_57 : decode cX9_reachesBox 57 = .ok (.i2l, 1) := by decide +kernel
theorem dX9_reachesBox_58 : decode cX9_reachesBox 58 = .ok (.aload_n 1, 1) := by decide +kernel
theorem dX9_reachesBox_59 : decode cX9_reachesBox 59 = .ok (.getfield 108, 3) := by decide +kernel
theorem dX9_reachesBox_62 : decode cX9_reachesBox 62 = .ok (.iload 11, 2) := by decide +kernel
theorem dX9_reachesBox_64 : decode cX9_reachesBox 64 = .ok (.laload, 1) := by decide +kernel
theorem dX9_reachesBox_65 : decode cX9_reachesBox 65 = .ok (.lsub, 1) := by decide +kernel
theorem dX9_reachesBox_66 : decode cX9_reachesBox 66 = .ok (.lstore 14, 2) := by decide +kernel
theorem dX9_reachesBox_68 : decode cX9_reachesBox 68 = .ok (.aload_n 1, 1) := by decide +kernel
theorem dX9_reachesBox_69 : decode cX9_reachesBox 69 = .ok (.getfield 98, 3) := by decide +kernel
theorem dX9_reachesBox_72 : decode cX9_reachesBox 72 = .ok (.iload 11, 2) := by decide +kernel
theorem dX9_reachesBox_74 : decode cX9_reachesBox 74 = .ok (.laload, 1) := by decide +kernel
theorem dX9_reachesBox_75 : decode cX9_reachesBox 75 = .ok (.lstore 16, 2) := by decide +kernel
theorem dX9_reachesBox_77 : decode cX9_reachesBox 77 = .ok (.lload 16, 2) := by decide +kernel
theorem dX9_reachesBox_79 : decode cX9_reachesBox 79 = .ok (.lconst 0, 1) := by decide +kernel
theorem dX9_reachesBox_80 : decode cX9_reachesBox 80 = .ok (.lcmp, 1) := by decide +kernel
theorem dX9_reachesBox_81 : decode cX9_reachesBox 81 = .ok (.ifCond .ne 19, 3) := by decide +kernel
theorem dX9_reachesBox_84 : decode cX9_reachesBox 84 = .ok (.lload 12, 2) := by decide +kernel
theorem dX9_reachesBox_86 : decode cX9_reachesBox 86 = .ok (.lconst 0, 1) := by decide +kernel
theorem dX9_reachesBox_87 : decode cX9_reachesBox 87 = .ok (.lcmp, 1) := by decide +kernel
theorem dX9_reachesBox_88 : decode cX9_reachesBox 88 = .ok (.ifCond .gt 10, 3) := by decide +kernel
theorem dX9_reachesBox_91 : decode cX9_reachesBox 91 = .ok (.lload 14, 2) := by decide +kernel
theorem dX9_reachesBox_93 : decode cX9_reachesBox 93 = .ok (.lconst 0, 1) := by decide +kernel
theorem dX9_reachesBox_94 : decode cX9_reachesBox 94 = .ok (.lcmp, 1) := by decide +kernel
theorem dX9_reachesBox_95 : decode cX9_reachesBox 95 = .ok (.ifCond .ge 88, 3) := by decide +kernel
theorem dX9_reachesBox_98 : decode cX9_reachesBox 98 = .ok (.iconst 0, 1) := by decide +kernel
theorem dX9_reachesBox_99 : decode cX9_reachesBox 99 = .ok (.ireturn, 1) := by decide +kernel
theorem dX9_reachesBox_100 : decode cX9_reachesBox 100 = .ok (.lload 16, 2) := by decide +kernel
theorem dX9_reachesBox_102 : decode cX9_reachesBox 102 = .ok (.lconst 0, 1) := by decide +kernel
theorem dX9_reachesBox_103 : decode cX9_reachesBox 103 = .ok (.lcmp, 1) := by decide +kernel
theorem dX9_reachesBox_104 : decode cX9_reachesBox 104 = .ok (.ifCond .le 8, 3) := by decide +kernel
theorem dX9_reachesBox_107 : decode cX9_reachesBox 107 = .ok (.lload 12, 2) := by decide +kernel
theorem dX9_reachesBox_109 : decode cX9_reachesBox 109 = .ok (.goto 6, 3) := by decide +kernel
theorem dX9_reachesBox_112 : decode cX9_reachesBox 112 = .ok (.lload 14, 2) := by decide +kernel
theorem dX9_reachesBox_114 : decode cX9_reachesBox 114 = .ok (.lneg, 1) := by decide +kernel
theorem dX9_reachesBox_115 : decode cX9_reachesBox 115 = .ok (.lstore 18, 2) := by decide +kernel
theorem dX9_reachesBox_117 : decode cX9_reachesBox 117 = .ok (.lload 16, 2) := by decide +kernel
theorem dX9_reachesBox_119 : decode cX9_reachesBox 119 = .ok (.lconst 0, 1) := by decide +kernel
theorem dX9_reachesBox_120 : decode cX9_reachesBox 120 = .ok (.lcmp, 1) := by decide +kernel
theorem dX9_reachesBox_121 : decode cX9_reachesBox 121 = .ok (.ifCond .le 8, 3) := by decide +kernel
theorem dX9_reachesBox_124 : decode cX9_reachesBox 124 = .ok (.lload 14, 2) := by decide +kernel
theorem dX9_reachesBox_126 : decode cX9_reachesBox 126 = .ok (.goto 6, 3) := by decide +kernel
theorem dX9_reachesBox_129 : decode cX9_reachesBox 129 = .ok (.lload 12, 2) := by decide +kernel
theorem dX9_reachesBox_131 : decode cX9_reachesBox 131 = .ok (.lneg, 1) := by decide +kernel
theorem dX9_reachesBox_132 : decode cX9_reachesBox 132 = .ok (.lstore 20, 2) := by decide +kernel
theorem dX9_reachesBox_134 : decode cX9_reachesBox 134 = .ok (.lload 16, 2) := by decide +kernel
theorem dX9_reachesBox_136 : decode cX9_reachesBox 136 = .ok (.invokestatic 111, 3) := by decide +kernel
theorem dX9_reachesBox_139 : decode cX9_reachesBox 139 = .ok (.lstore 22, 2) := by decide +kernel
theorem dX9_reachesBox_141 : decode cX9_reachesBox 141 = .ok (.lload 18, 2) := by decide +kernel
theorem dX9_reachesBox_143 : decode cX9_reachesBox 143 = .ok (.lload 5, 2) := by decide +kernel
theorem dX9_reachesBox_145 : decode cX9_reachesBox 145 = .ok (.lmul, 1) := by decide +kernel
theorem dX9_reachesBox_146 : decode cX9_reachesBox 146 = .ok (.lload_n 3, 1) := by decide +kernel
theorem dX9_reachesBox_147 : decode cX9_reachesBox 147 = .ok (.lload 22, 2) := by decide +kernel
theorem dX9_reachesBox_149 : decode cX9_reachesBox 149 = .ok (.lmul, 1) := by decide +kernel
theorem dX9_reachesBox_150 : decode cX9_reachesBox 150 = .ok (.lcmp, 1) := by decide +kernel
theorem dX9_reachesBox_151 : decode cX9_reachesBox 151 = .ok (.ifCond .le 10, 3) := by decide +kernel
theorem dX9_reachesBox_154 : decode cX9_reachesBox 154 = .ok (.lload 18, 2) := by decide +kernel
theorem dX9_reachesBox_156 : decode cX9_reachesBox 156 = .ok (.lstore_n 3, 1) := by decide +kernel
theorem dX9_reachesBox_157 : decode cX9_reachesBox 157 = .ok (.lload 22, 2) := by decide +kernel
theorem dX9_reachesBox_159 : decode cX9_reachesBox 159 = .ok (.lstore 5, 2) := by decide +kernel
theorem dX9_reachesBox_161 : decode cX9_reachesBox 161 = .ok (.lload 20, 2) := by decide +kernel
theorem dX9_reachesBox_163 : decode cX9_reachesBox 163 = .ok (.lload 9, 2) := by decide +kernel
theorem dX9_reachesBox_165 : decode cX9_reachesBox 165 = .ok (.lmul, 1) := by decide +kernel
theorem dX9_reachesBox_166 : decode cX9_reachesBox 166 = .ok (.lload 7, 2) := by decide +kernel
theorem dX9_reachesBox_168 : decode cX9_reachesBox 168 = .ok (.lload 22, 2) := by decide +kernel
theorem dX9_reachesBox_170 : decode cX9_reachesBox 170 = .ok (.lmul, 1) := by decide +kernel
theorem dX9_reachesBox_171 : decode cX9_reachesBox 171 = .ok (.lcmp, 1) := by decide +kernel
theorem dX9_reachesBox_172 : decode cX9_reachesBox 172 = .ok (.ifCond .ge 11, 3) := by decide +kernel
theorem dX9_reachesBox_175 : decode cX9_reachesBox 175 = .ok (.lload 20, 2) := by decide +kernel
theorem dX9_reachesBox_177 : decode cX9_reachesBox 177 = .ok (.lstore 7, 2) := by decide +kernel
theorem dX9_reachesBox_179 : decode cX9_reachesBox 179 = .ok (.lload 22, 2) := by decide +kernel
theorem dX9_reachesBox_181 : decode cX9_reachesBox 181 = .ok (.lstore 9, 2) := by decide +kernel
theorem dX9_reachesBox_183 : decode cX9_reachesBox 183 = .ok (.iinc 11 1, 3) := by decide +kernel
theorem dX9_reachesBox_186 : decode cX9_reachesBox 186 = .ok (.goto (-172), 3) := by decide +kernel
theorem dX9_reachesBox_189 : decode cX9_reachesBox 189 = .ok (.lload_n 3, 1) := by decide +kernel
theorem dX9_reachesBox_190 : decode cX9_reachesBox 190 = .ok (.lload 9, 2) := by decide +kernel
theorem dX9_reachesBox_192 : decode cX9_reachesBox 192 = .ok (.lmul, 1) := by decide +kernel
theorem dX9_reachesBox_193 : decode cX9_reachesBox 193 = .ok (.lload 7, 2) := by decide +kernel
theorem dX9_reachesBox_195 : decode cX9_reachesBox 195 = .ok (.lload 5, 2) := by decide +kernel
theorem dX9_reachesBox_197 : decode cX9_reachesBox 197 = .ok (.lmul, 1) := by decide +kernel
theorem dX9_reachesBox_198 : decode cX9_reachesBox 198 = .ok (.lcmp, 1) := by decide +kernel
theorem dX9_reachesBox_199 : decode cX9_reachesBox 199 = .ok (.ifCond .gt 7, 3) := by decide +kernel
theorem dX9_reachesBox_202 : decode cX9_reachesBox 202 = .ok (.iconst 1, 1) := by decide +kernel
theorem dX9_reachesBox_203 : decode cX9_reachesBox 203 = .ok (.goto 4, 3) := by decide +kernel
theorem dX9_reachesBox_206 : decode cX9_reachesBox 206 = .ok (.iconst 0, 1) := by decide +kernel
theorem dX9_reachesBox_207 : decode cX9_reachesBox 207 = .ok (.ireturn, 1) := by decide +kernel
theorem dX9_metNodes_0 : decode cX9_metNodes 0 = .ok (.iconst 0, 1) := by decide +kernel
theorem dX9_metNodes_1 : decode cX9_metNodes 1 = .ok (.istore_n 1, 1) := by decide +kernel
theorem dX9_metNodes_2 : decode cX9_metNodes 2 = .ok (.iconst 0, 1) := by decide +kernel
theorem dX9_metNodes_3 : decode cX9_metNodes 3 = .ok (.istore_n 2, 1) := by decide +kernel
theorem dX9_metNodes_4 : decode cX9_metNodes 4 = .ok (.iload_n 2, 1) := by decide +kernel
theorem dX9_metNodes_5 : decode cX9_metNodes 5 = .ok (.aload_n 0, 1) := by decide +kernel
theorem dX9_metNodes_6 : decode cX9_metNodes 6 = .ok (.getfield 37, 3) := by decide +kernel
theorem dX9_metNodes_9 : decode cX9_metNodes 9 = .ok (.if_icmp .ge 21, 3) := by decide +kernel
theorem dX9_metNodes_12 : decode cX9_metNodes 12 = .ok (.aload_n 0, 1) := by decide +kernel
theorem dX9_metNodes_13 : decode cX9_metNodes 13 = .ok (.getfield 33, 3) := by decide +kernel
theorem dX9_metNodes_16 : decode cX9_metNodes 16 = .ok (.iload_n 2, 1) := by decide +kernel
theorem dX9_metNodes_17 : decode cX9_metNodes 17 = .ok (.baload, 1) := by decide +kernel
theorem dX9_metNodes_18 : decode cX9_metNodes 18 = .ok (.ifCond .eq 6, 3) := by decide +kernel
theorem dX9_metNodes_21 : decode cX9_metNodes 21 = .ok (.iinc 1 1, 3) := by decide +kernel
theorem dX9_metNodes_24 : decode cX9_metNodes 24 = .ok (.iinc 2 1, 3) := by decide +kernel
theorem dX9_metNodes_27 : decode cX9_metNodes 27 = .ok (.goto (-23), 3) := by decide +kernel
theorem dX9_metNodes_30 : decode cX9_metNodes 30 = .ok (.iload_n 1, 1) := by decide +kernel
theorem dX9_metNodes_31 : decode cX9_metNodes 31 = .ok (.ireturn, 1) := by decide +kernel
theorem dX9_metTriangles_0 : decode cX9_metTriangles 0 = .ok (.iconst 0, 1) := by decide +kernel
theorem dX9_metTriangles_1 : decode cX9_metTriangles 1 = .ok (.istore_n 1, 1) := by decide +kernel
theorem dX9_metTriangles_2 : decode cX9_metTriangles 2 = .ok (.iconst 0, 1) := by decide +kernel
theorem dX9_metTriangles_3 : decode cX9_metTriangles 3 = .ok (.istore_n 2, 1) := by decide +kernel
theorem dX9_metTriangles_4 : decode cX9_metTriangles 4 = .ok (.iload_n 2, 1) := by decide +kernel
theorem dX9_metTriangles_5 : decode cX9_metTriangles 5 = .ok (.aload_n 0, 1) := by decide +kernel
theorem dX9_metTriangles_6 : decode cX9_metTriangles 6 = .ok (.getfield 37, 3) := by decide +kernel
theorem dX9_metTriangles_9 : decode cX9_metTriangles 9 = .ok (.if_icmp .ge 36, 3) := by decide +kernel
theorem dX9_metTriangles_12 : decode cX9_metTriangles 12 = .ok (.aload_n 0, 1) := by decide +kernel
theorem dX9_metTriangles_13 : decode cX9_metTriangles 13 = .ok (.getfield 33, 3) := by decide +kernel
theorem dX9_metTriangles_16 : decode cX9_metTriangles 16 = .ok (.iload_n 2, 1) := by decide +kernel
theorem dX9_metTriangles_17 : decode cX9_metTriangles 17 = .ok (.baload, 1) := by decide +kernel
theorem dX9_metTriangles_18 : decode cX9_metTriangles 18 = .ok (.ifCond .eq 21, 3) := by decide +kernel
theorem dX9_metTriangles_21 : decode cX9_metTriangles 21 = .ok (.aload_n 0, 1) := by decide +kernel
theorem dX9_metTriangles_22 : decode cX9_metTriangles 22 = .ok (.getfield 21, 3) := by decide +kernel
theorem dX9_metTriangles_25 : decode cX9_metTriangles 25 = .ok (.iload_n 2, 1) := by decide +kernel
theorem dX9_metTriangles_26 : decode cX9_metTriangles 26 = .ok (.iaload, 1) := by decide +kernel
theorem dX9_metTriangles_27 : decode cX9_metTriangles 27 = .ok (.ifCond .ge 12, 3) := by decide +kernel
theorem dX9_metTriangles_30 : decode cX9_metTriangles 30 = .ok (.iload_n 1, 1) := by decide +kernel
theorem dX9_metTriangles_31 : decode cX9_metTriangles 31 = .ok (.aload_n 0, 1) := by decide +kernel
theorem dX9_metTriangles_32 : decode cX9_metTriangles 32 = .ok (.getfield 18, 3) := by decide +kernel
theorem dX9_metTriangles_35 : decode cX9_metTriangles 35 = .ok (.iload_n 2, 1) := by decide +kernel
theorem dX9_metTriangles_36 : decode cX9_metTriangles 36 = .ok (.iaload, 1) := by decide +kernel
theorem dX9_metTriangles_37 : decode cX9_metTriangles 37 = .ok (.iadd, 1) := by decide +kernel
theorem dX9_metTriangles_38 : decode cX9_metTriangles 38 = .ok (.istore_n 1, 1) := by decide +kernel
theorem dX9_metTriangles_39 : decode cX9_metTriangles 39 = .ok (.iinc 2 1, 3) := by decide +kernel
theorem dX9_metTriangles_42 : decode cX9_metTriangles 42 = .ok (.goto (-38), 3) := by decide +kernel
theorem dX9_metTriangles_45 : decode cX9_metTriangles 45 = .ok (.iload_n 1, 1) := by decide +kernel
theorem dX9_metTriangles_46 : decode cX9_metTriangles 46 = .ok (.ireturn, 1) := by decide +kernel
