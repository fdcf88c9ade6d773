theorem dX12_set_97 : decode cX12_set 97 = .ok (.if_icmp .ne 17, 3) := by decide +kernel
theorem dX12_set_100 : decode cX12_set 100 = .ok (.aload_n 0, 1) := by decide +kernel
theorem dX12_set_101 : decode cX12_set 101 = .ok (.getfield 181, 3) := by decide +kernel
theorem dX12_set_104 : decode cX12_set 104 = .ok (.istore 5, 2) := by decide +kernel
theorem dX12_set_106 : decode cX12_set 106 = .ok (.aload_n 0, 1) := by decide +kernel
theorem dX12_set_107 : decode cX12_set 107 = .ok (.iload_n 3, 1) := by decide +kernel
theorem dX12_set_108 : decode cX12_set 108 = .ok (.putfield 181, 3) := by decide +kernel
theorem dX12_set_111 : decode cX12_set 111 = .ok (.goto 37, 3) := by decide +kernel
theorem dX12_set_114 : decode cX12_set 114 = .ok (.iload_n 1, 1) := by decide +kernel
theorem dX12_set_115 : decode cX12_set 115 = .ok (.iconst 2, 1) := by decide +kernel
theorem dX12_set_116 : decode cX12_set 116 = .ok (.if_icmp .ne 17, 3) := by decide +kernel
theorem dX12_set_119 : decode cX12_set 119 = .ok (.aload_n 0, 1) := by decide +kernel
theorem dX12_set_120 : decode cX12_set 120 = .ok (.getfield 184, 3) := by decide +kernel
theorem dX12_set_123 : decode cX12_set 123 = .ok (.istore 5, 2) := by decide +kernel
theorem dX12_set_125 : decode cX12_set 125 = .ok (.aload_n 0, 1) := by decide +kernel
theorem dX12_set_126 : decode cX12_set 126 = .ok (.iload_n 3, 1) := by decide +kernel
theorem dX12_set_127 : decode cX12_set 127 = .ok (.putfield 184, 3) := by decide +kernel
theorem dX12_set_130 : decode cX12_set 130 = .ok (.goto 18, 3) := by decide +kernel
theorem dX12_set_133 : decode cX12_set 133 = .ok (.aload_n 0, 1) := by decide +kernel
theorem dX12_set_134 : decode cX12_set 134 = .ok (.getfield 20, 3) := by decide +kernel
theorem dX12_set_137 : decode cX12_set 137 = .ok (.iload_n 2, 1) := by decide +kernel
theorem dX12_set_138 : decode cX12_set 138 = .ok (.iaload, 1) := by decide +kernel
theorem dX12_set_139 : decode cX12_set 139 = .ok (.istore 5, 2) := by decide +kernel
theorem dX12_set_141 : decode cX12_set 141 = .ok (.aload_n 0, 1) := by decide +kernel
theorem dX12_set_142 : decode cX12_set 142 = .ok (.getfield 20, 3) := by decide +kernel
theorem dX12_set_145 : decode cX12_set 145 = .ok (.iload_n 2, 1) := by decide +kernel
theorem dX12_set_146 : decode cX12_set 146 = .ok (.iload_n 3, 1) := by decide +kernel
theorem dX12_set_147 : decode cX12_set 147 = .ok (.iastore, 1) := by decide +kernel
theorem dX12_set_148 : decode cX12_set 148 = .ok (.iload 5, 2) := by decide +kernel
theorem dX12_set_150 : decode cX12_set 150 = .ok (.ireturn, 1) := by decide +kernel
theorem dX12_middle_0 : decode cX12_middle 0 = .ok (.aload_n 0, 1) := by decide +kernel
theorem dX12_middle_1 : decode cX12_middle 1 = .ok (.getfield 13, 3) := by decide +kernel
theorem dX12_middle_4 : decode cX12_middle 4 = .ok (.bipush 9, 2) := by decide +kernel
theorem dX12_middle_6 : decode cX12_middle 6 = .ok (.iload_n 1, 1) := by decide +kernel
theorem dX12_middle_7 : decode cX12_middle 7 = .ok (.imul, 1) := by decide +kernel
theorem dX12_middle_8 : decode cX12_middle 8 = .ok (.iload_n 2, 1) := by decide +kernel
theorem dX12_middle_9 : decode cX12_middle 9 = .ok (.iadd, 1) := by decide +kernel
theorem dX12_middle_10 : decode cX12_middle 10 = .ok (.iaload, 1) := by decide +kernel
theorem dX12_middle_11 : decode cX12_middle 11 = .ok (.aload_n 0, 1) := by decide +kernel
theorem dX12_middle_12 : decode cX12_middle 12 = .ok (.getfield 13, 3) := by decide +kernel
theorem dX12_middle_15 : decode cX12_middle 15 = .ok (.bipush 9, 2) := by decide +kernel
theorem dX12_middle_17 : decode cX12_middle 17 = .ok (.iload_n 1, 1) := by decide +kernel
theorem dX12_middle_18 : decode cX12_middle 18 = .ok (.imul, 1) := by decide +kernel
theorem dX12_middle_19 : decode cX12_middle 19 = .ok (.iconst 3, 1) := by decide +kernel
theorem dX12_middle_20 : decode cX12_middle 20 = .ok (.iadd, 1) := by decide +kernel
theorem dX12_middle_21 : decode cX12_middle 21 = .ok (.iload_n 2, 1) := by decide +kernel
theorem dX12_middle_22 : decode cX12_middle 22 = .ok (.iadd, 1) := by decide +kernel
theorem dX12_middle_23 : decode cX12_middle 23 = .ok (.iaload, 1) := by decide +kernel
theorem dX12_middle_24 : decode cX12_middle 24 = .ok (.iadd, 1) := by decide +kernel
theorem dX12_middle_25 : decode cX12_middle 25 = .ok (.aload_n 0, 1) := by decide +kernel
theorem dX12_middle_26 : decode cX12_middle 26 = .ok (.getfield 13, 3) := by decide +kernel
theorem dX12_middle_29 : decode cX12_middle 29 = .ok (.bipush 9, 2) := by decide +kernel
theorem dX12_middle_31 : decode cX12_middle 31 = .ok (.iload_n 1, 1) := by decide +kernel
theorem dX12_middle_32 : decode cX12_middle 32 = .ok (.imul, 1) := by decide +kernel
theorem dX12_middle_33 : decode cX12_middle 33 = .ok (.bipush 6, 2) := by decide +kernel
theorem dX12_middle_35 : decode cX12_middle 35 = .ok (.iadd, 1) := by decide +kernel
theorem dX12_middle_36 : decode cX12_middle 36 = .ok (.iload_n 2, 1) := by decide +kernel
theorem dX12_middle_37 : decode cX12_middle 37 = .ok (.iadd, 1) := by decide +kernel
theorem dX12_middle_38 : decode cX12_middle 38 = .ok (.iaload, 1) := by decide +kernel
theorem dX12_middle_39 : decode cX12_middle 39 = .ok (.iadd, 1) := by decide +kernel
theorem dX12_middle_40 : decode cX12_middle 40 = .ok (.ireturn, 1) := by decide +kernel
theorem dX12_boxOf_0 : decode cX12_boxOf 0 = .ok (.iconst 0, 1) := by decide +kernel
theorem dX12_boxOf_1 : decode cX12_boxOf 1 = .ok (.istore_n 2, 1) := by decide +kernel
theorem dX12_boxOf_2 : decode cX12_boxOf 2 = .ok (.iload_n 2, 1) := by decide +kernel
theorem dX12_boxOf_3 : decode cX12_boxOf 3 = .ok (.iconst 3, 1) := by decide +kernel
theorem dX12_boxOf_4 : decode cX12_boxOf 4 = .ok (.if_icmp .ge 135, 3) := by decide +kernel
theorem dX12_boxOf_7 : decode cX12_boxOf 7 = .ok (.sipush 1000, 3) := by decide +kernel
theorem dX12_boxOf_10 : decode cX12_boxOf 10 = .ok (.istore_n 3, 1) := by decide +kernel
theorem dX12_boxOf_11 : decode cX12_boxOf 11 = .ok (.sipush (-1000), 3) := by decide +kernel
theorem dX12_boxOf_14 : decode cX12_boxOf 14 = .ok (.istore 4, 2) := by decide +kernel
theorem dX12_boxOf_16 : decode cX12_boxOf 16 = .ok (.aload_n 0, 1) := by decide +kernel
theorem dX12_boxOf_17 : decode cX12_boxOf 17 = .ok (.getfield 51, 3) := by decide +kernel
theorem dX12_boxOf_20 : decode cX12_boxOf 20 = .ok (.iload_n 1, 1) := by decide +kernel
theorem dX12_boxOf_21 : decode cX12_boxOf 21 = .ok (.iaload, 1) := by decide +kernel
theorem dX12_boxOf_22 : decode cX12_boxOf 22 = .ok (.istore 5, 2) := by decide +kernel
theorem dX12_boxOf_24 : decode cX12_boxOf 24 = .ok (.iload 5, 2) := by decide +kernel
theorem dX12_boxOf_26 : decode cX12_boxOf 26 = .ok (.aload_n 0, 1) := by decide +kernel
theorem dX12_boxOf_27 : decode cX12_boxOf 27 = .ok (.getfield 51, 3) := by decide +kernel
theorem dX12_boxOf_30 : decode cX12_boxOf 30 = .ok (.iload_n 1, 1) := by decide +kernel
theorem dX12_boxOf_31 : decode cX12_boxOf 31 = .ok (.iaload, 1) := by decide +kernel
theorem dX12_boxOf_32 : decode cX12_boxOf 32 = .ok (.aload_n 0, 1) := by decide +kernel
theorem dX12_boxOf_33 : decode cX12_boxOf 33 = .ok (.getfield 54, 3) := by decide +kernel
theorem dX12_boxOf_36 : decode cX12_boxOf 36 = .ok (.iload_n 1, 1) := by decide +kernel
theorem dX12_boxOf_37 : decode cX12_boxOf 37 = .ok (.iaload, 1) := by decide +kernel
theorem dX12_boxOf_38 : decode cX12_boxOf 38 = .ok (.iadd, 1) := by decide +kernel
theorem dX12_boxOf_39 : decode cX12_boxOf 39 = .ok (.if_icmp .ge 77, 3) := by decide +kernel
theorem dX12_boxOf_42 : decode cX12_boxOf 42 = .ok (.iconst 0, 1) := by decide +kernel
theorem dX12_boxOf_43 : decode cX12_boxOf 43 = .ok (.istore 6, 2) := by decide +kernel
theorem dX12_boxOf_45 : decode cX12_boxOf 45 = .ok (.iload 6, 2) := by decide +kernel
theorem dX12_boxOf_47 : decode cX12_boxOf 47 = .ok (.iconst 3, 1) := by decide +kernel
theorem dX12_boxOf_48 : decode cX12_boxOf 48 = .ok (.if_icmp .ge 62, 3) := by decide +kernel
theorem dX12_boxOf_51 : decode cX12_boxOf 51 = .ok (.aload_n 0, 1) := by decide +kernel
theorem dX12_boxOf_52 : decode cX12_boxOf 52 = .ok (.getfield 13, 3) := by decide +kernel
theorem dX12_boxOf_55 : decode cX12_boxOf 55 = .ok (.bipush 9, 2) := by decide +kernel
theorem dX12_boxOf_57 : decode cX12_boxOf 57 = .ok (.aload_n 0, 1) := by decide +kernel
theorem dX12_boxOf_58 : decode cX12_boxOf 58 = .ok (.getfield 72, 3) := by decide +kernel
theorem dX12_boxOf_61 : decode cX12_boxOf 61 = .ok (.iload 5, 2) := by decide +kernel
theorem dX12_boxOf_63 : decode cX12_boxOf 63 = .ok (.iaload, 1) := by decide +kernel
theorem dX12_boxOf_64 : decode cX12_boxOf 64 = .ok (.imul, 1) := by decide +kernel
theorem dX12_boxOf_65 : decode cX12_boxOf 65 = .ok (.iconst 3, 1) := by decide +kernel
theorem dX12_boxOf_66 : decode cX12_boxOf 66 = .ok (.iload 6, 2) := by decide +kernel
theorem dX12_boxOf_68 : decode cX12_boxOf 68 = .ok (.imul, 1) := by decide +kernel
theorem dX12_boxOf_69 : decode cX12_boxOf 69 = .ok (.iadd, 1) := by decide +kernel
theorem dX12_boxOf_70 : decode cX12_boxOf 70 = .ok (.iload_n 2, 1) := by decide +kernel
theorem dX12_boxOf_71 : decode cX12_boxOf 71 = .ok (.iadd, 1) := by decide +kernel
theorem dX12_boxOf_72 : decode cX12_boxOf 72 = .ok (.iaload, 1) := by decide +kernel
theorem dX12_boxOf_73 : decode cX12_boxOf 73 = .ok (.istore 7, 2) := by decide +kernel
theorem dX12_boxOf_75 : decode cX12_boxOf 75 = .ok (.iload 7, 2) := by decide +kernel
theorem dX12_boxOf_77 : decode cX12_boxOf 77 = .ok (.iload_n 3, 1) := by decide +kernel
theorem dX12_boxOf_78 : decode cX12_boxOf 78 = .ok (.if_icmp .ge 8, 3) := by decide +kernel
theorem dX12_boxOf_81 : decode cX12_boxOf 81 = .ok (.iload 7, 2) := by decide +kernel
theorem dX12_boxOf_83 : decode cX12_boxOf 83 = .ok (.goto 4, 3) := by decide +kernel
theorem dX12_boxOf_86 : decode cX12_boxOf 86 = .ok (.iload_n 3, 1) := by decide +kernel
theorem dX12_boxOf_87 : decode cX12_boxOf 87 = .ok (.istore_n 3, 1) := by decide +kernel
theorem dX12_boxOf_88 : decode cX12_boxOf 88 = .ok (.iload 7, 2) := by decide +kernel
theorem dX12_boxOf_90 : decode cX12_boxOf 90 = .ok (.iload 4, 2) := by decide +kernel
theorem dX12_boxOf_92 : decode cX12_boxOf 92 = .ok (.if_icmp .le 8, 3) := by decide +kernel
theorem dX12_boxOf_95 : decode cX12_boxOf 95 = .ok (.iload 7, 2) := by decide +kernel
theorem dX12_boxOf_97 : decode cX12_boxOf 97 = .ok (.goto 5, 3) := by decide +kernel
theorem dX12_boxOf_100 : decode cX12_boxOf 100 = .ok (.iload 4, 2) := by decide +kernel
theorem dX12_boxOf_102 : decode cX12_boxOf 102 = .ok (.istore 4, 2) := by decide +kernel
theorem dX12_boxOf_104 : decode cX12_boxOf 104 = .ok (.iinc 6 1, 3) := by decide +kernel
theorem dX12_boxOf_107 : decode cX12_boxOf 107 = .ok (.goto (-62), 3) := by decide +kernel
theorem dX12_boxOf_110 : decode cX12_boxOf 110 = .ok (.iinc 5 1, 3) := by decide +kernel
theorem dX12_boxOf_113 : decode cX12_boxOf 113 = .ok (.goto (-89), 3) := by decide +kernel
theorem dX12_boxOf_116 : decode cX12_boxOf 116 = .ok (.aload_n 0, 1) := by decide +kernel
theorem dX12_boxOf_117 : decode cX12_boxOf 117 = .ok (.getfield 75, 3) := by decide +kernel
theorem dX12_boxOf_120 : decode cX12_boxOf 120 = .ok (.iload_n 2, 1) := by decide +kernel
theorem dX12_boxOf_121 : decode cX12_boxOf 121 = .ok (.iload_n 3, 1) := by decide +kernel
theorem dX12_boxOf_122 : decode cX12_boxOf 122 = .ok (.iastore, 1) := by decide +kernel
theorem dX12_boxOf_123 : decode cX12_boxOf 123 = .ok (.aload_n 0, 1) := by decide +kernel
theorem dX12_boxOf_124 : decode cX12_boxOf 124 = .ok (.getfield 75, 3) := by decide +kernel
theorem dX12_boxOf_127 : decode cX12_boxOf 127 = .ok (.iconst 3, 1) := by decide +kernel
theorem dX12_boxOf_128 : decode cX12_boxOf 128 = .ok (.iload_n 2, 1) := by decide +kernel
theorem dX12_boxOf_129 : decode cX12_boxOf 129 = .ok (.iadd, 1) := by decide +kernel
theorem dX12_boxOf_130 : decode cX12_boxOf 130 = .ok (.iload 4, 2) := by decide +kernel
theorem dX12_boxOf_132 : decode cX12_boxOf 132 = .ok (.iastore, 1) := by decide +kernel
theorem dX12_boxOf_133 : decode cX12_boxOf 133 = .ok (.iinc 2 1, 3) := by decide +kernel
theorem dX12_boxOf_136 : decode cX12_boxOf 136 = .ok (.goto (-134), 3) := by decide +kernel
theorem dX12_boxOf_139 : decode cX12_boxOf 139 = .ok (.return_, 1) := by decide +kernel
theorem dX12_newNode_0 : decode cX12_newNode 0 = .ok (.aload_n 0, 1) := by decide +kernel
theorem dX12_newNode_1 : decode cX12_newNode 1 = .ok (.getfield 51, 3) := by decide +kernel
theorem dX12_newNode_4 : decode cX12_newNode 4 = .ok (.aload_n 0, 1) := by decide +kernel
theorem dX12_newNode_5 : decode cX12_newNode 5 = .ok (.getfield 158, 3) := by decide +kernel
theorem dX12_newNode_8 : decode cX12_newNode 8 = .ok (.iload_n 1, 1) := by decide +kernel
theorem dX12_newNode_9 : decode cX12_newNode 9 = .ok (.iastore, 1) := by decide +kernel
theorem dX12_newNode_10 : decode cX12_newNode 10 = .ok (.aload_n 0, 1) := by decide +kernel
theorem dX12_newNode_11 : decode cX12_newNode 11 = .ok (.getfield 54, 3) := by decide +kernel
theorem dX12_newNode_14 : decode cX12_newNode 14 = .ok (.aload_n 0, 1) := by decide +kernel
theorem dX12_newNode_15 : decode cX12_newNode 15 = .ok (.getfield 158, 3) := by decide +kernel
theorem dX12_newNode_18 : decode cX12_newNode 18 = .ok (.iload_n 2, 1) := by decide +kernel
theorem dX12_newNode_19 : decode cX12_newNode 19 = .ok (.iastore, 1) := by decide +kernel
theorem dX12_newNode_20 : decode cX12_newNode 20 = .ok (.aload_n 0, 1) := by decide +kernel
theorem dX12_newNode_21 : decode cX12_newNode 21 = .ok (.getfield 57, 3) := by decide +kernel
theorem dX12_newNode_24 : decode cX12_newNode 24 = .ok (.aload_n 0, 1) := by decide +kernel
theorem dX12_newNode_25 : decode cX12_newNode 25 = .ok (.getfield 158, 3) := by decide +kernel
theorem dX12_newNode_28 : decode cX12_newNode 28 = .ok (.bipush (-2), 2) := by decide +kernel
theorem dX12_newNode_30 : decode cX12_newNode 30 = .ok (.iastore, 1) := by decide +kernel
theorem dX12_newNode_31 : decode cX12_newNode 31 = .ok (.aload_n 0, 1) := by decide +kernel
theorem dX12_newNode_32 : decode cX12_newNode 32 = .ok (.getfield 60, 3) := by decide +kernel
theorem dX12_newNode_35 : decode cX12_newNode 35 = .ok (.aload_n 0, 1) := by decide +kernel
theorem dX12_newNode_36 : decode cX12_newNode 36 = .ok (.getfield 158, 3) := by decide +kernel
theorem dX12_newNode_39 : decode cX12_newNode 39 = .ok (.bipush (-2), 2) := by decide +kernel
theorem dX12_newNode_41 : decode cX12_newNode 41 = .ok (.iastore, 1) := by decide +kernel
theorem dX12_newNode_42 : decode cX12_newNode 42 = .ok (.aload_n 0, 1) := by decide +kernel
theorem dX12_newNode_43 : decode cX12_newNode 43 = .ok (.getfield 63, 3) := by decide +kernel
theorem dX12_newNode_46 : decode cX12_newNode 46 = .ok (.aload_n 0, 1) := by decide +kernel
theorem dX12_newNode_47 : decode cX12_newNode 47 = .ok (.getfield 158, 3) := by decide +kernel
theorem dX12_newNode_50 : decode cX12_newNode 50 = .ok (.iload_n 3, 1) := by decide +kernel
theorem dX12_newNode_51 : decode cX12_newNode 51 = .ok (.iastore, 1) := by decide +kernel
theorem dX12_newNode_52 : decode cX12_newNode 52 = .ok (.aload_n 0, 1) := by decide +kernel
theorem dX12_newNode_53 : decode cX12_newNode 53 = .ok (.getfield 66, 3) := by decide +kernel
theorem dX12_newNode_56 : decode cX12_newNode 56 = .ok (.aload_n 0, 1) := by decide +kernel
theorem dX12_newNode_57 : decode cX12_newNode 57 = .ok (.getfield 158, 3) := by decide +kernel
theorem dX12_newNode_60 : decode cX12_newNode 60 = .ok (.iload_n 3, 1) := by decide +kernel
theorem dX12_newNode_61 : decode cX12_newNode 61 = .ok (.ifCond .ge 7, 3) := by decide +kernel
theorem dX12_newNode_64 : decode cX12_newNode 64 = .ok (.iconst 0, 1) := by decide +kernel
theorem dX12_newNode_65 : decode cX12_newNode 65 = .ok (.goto 11, 3) := by decide +kernel
theorem dX12_newNode_68 : decode cX12_newNode 68 = .ok (.aload_n 0, 1) := by decide +kernel
theorem dX12_newNode_69 : decode cX12_newNode 69 = .ok (.getfield 66, 3) := by decide +kernel
theorem dX12_newNode_72 : decode cX12_newNode 72 = .ok (.iload_n 3, 1) := by decide +kernel
theorem dX12_newNode_73 : decode cX12_newNode 73 = .ok (.iaload, 1) := by decide +kernel
theorem dX12_newNode_74 : decode cX12_newNode 74 = .ok (.iconst 1, 1) := by decide +kernel
theorem dX12_newNode_75 : decode cX12_newNode 75 = .ok (.iadd, 1) := by decide +kernel
theorem dX12_newNode_76 : decode cX12_newNode 76 = .ok (.iastore, 1) := by decide +kernel
theorem dX12_newNode_77 : decode cX12_newNode 77 = .ok (.aload_n 0, 1) := by decide +kernel
theorem dX12_newNode_78 : decode cX12_newNode 78 = .ok (.dup, 1) := by decide +kernel
theorem dX12_newNode_79 : decode cX12_newNode 79 = .ok (.getfield 158, 3) := by decide +kernel
theorem dX12_newNode_82 : decode cX12_newNode 82 = .ok (.iconst 1, 1) := by decide +kernel
theorem dX12_newNode_83 : decode cX12_newNode 83 = .ok (.iadd, 1) := by decide +kernel
theorem dX12_newNode_84 : decode cX12_newNode 84 = .ok (.putfield 158, 3) := by decide +kernel
theorem dX12_newNode_87 : decode cX12_newNode 87 = .ok (.return_, 1) := by decide +kernel
theorem dX12_sort_0 : decode cX12_sort 0 = .ok (.iconst 0, 1) := by decide +kernel
theorem dX12_sort_1 : decode cX12_sort 1 = .ok (.istore_n 2, 1) := by decide +kernel
theorem dX12_sort_2 : decode cX12_sort 2 = .ok (.iconst (-1), 1) := by decide +kernel
theorem dX12_sort_3 : decode cX12_sort 3 = .ok (.istore_n 3, 1) := by decide +kernel
theorem dX12_sort_4 : decode cX12_sort 4 = .ok (.iconst 0, 1) := by decide +kernel
theorem dX12_sort_5 : decode cX12_sort 5 = .ok (.istore 4, 2) := by decide +kernel
theorem dX12_sort_7 : decode cX12_sort 7 = .ok (.iload 4, 2) := by decide +kernel
theorem dX12_sort_9 : decode cX12_sort 9 = .ok (.iconst 3, 1) := by decide +kernel
theorem dX12_sort_10 : decode cX12_sort 10 = .ok (.if_icmp .ge 116, 3) := by decide +kernel
theorem dX12_sort_13 : decode cX12_sort 13 = .ok (.sipush 10000, 3) := by decide +kernel
theorem dX12_sort_16 : decode cX12_sort 16 = .ok (.istore 5, 2) := by decide +kernel
theorem dX12_sort_18 : decode cX12_sort 18 = .ok (.sipush (-10000), 3) := by decide +kernel
theorem dX12_sort_21 : decode cX12_sort 21 = .ok (.istore 6, 2) := by decide +kernel
theorem dX12_sort_23 : decode cX12_sort 23 = .ok (.aload_n 0, 1) := by decide +kernel
theorem dX12_sort_24 : decode cX12_sort 24 = .ok (.getfield 51, 3) := by decide +kernel
theorem dX12_sort_27 : decode cX12_sort 27 = .ok (.iload_n 1, 1) := by decide +kernel
theorem dX12_sort_28 : decode cX12_sort 28 = .ok (.iaload, 1) := by decide +kernel
theorem dX12_sort_29 : decode cX12_sort 29 = .ok (.istore 7, 2) := by decide +kernel
theorem dX12_sort_31 : decode cX12_sort 31 = .ok (.iload 7, 2) := by decide +kernel
theorem dX12_sort_33 : decode cX12_sort 33 = .ok (.aload_n 0, 1) := by decide +kernel
theorem dX12_sort_34 : decode cX12_sort 34 = .ok (.getfield 51, 3) := by decide +kernel
theorem dX12_sort_37 : decode cX12_sort 37 = .ok (.iload_n 1, 1) := by decide +kernel
theorem dX12_sort_38 : decode cX12_sort 38 = .ok (.iaload, 1) := by decide +kernel
theorem dX12_sort_39 : decode cX12_sort 39 = .ok (.aload_n 0, 1) := by decide +kernel
theorem dX12_sort_40 : decode cX12_sort 40 = .ok (.getfield 54, 3) := by decide +kernel
theorem dX12_sort_43 : decode cX12_sort 43 = .ok (.iload_n 1, 1) := by decide +kernel
theorem dX12_sort_44 : decode cX12_sort 44 = .ok (.iaload, 1) := by decide +kernel
theorem dX12_sort_45 : decode cX12_sort 45 = .ok (.iadd, 1) := by decide +kernel
theorem dX12_sort_46 : decode cX12_sort 46 = .ok (.if_icmp .ge 56, 3) := by decide +kernel
theorem dX12_sort_49 : decode cX12_sort 49 = .ok (.aload_n 0, 1) := by decide +kernel
theorem dX12_sort_50 : decode cX12_sort 50 = .ok (.aload_n 0, 1) := by decide +kernel
theorem dX12_sort_51 : decode cX12_sort 51 = .ok (.getfield 72, 3) := by decide +kernel
theorem dX12_sort_54 : decode cX12_sort 54 = .ok (.iload 7, 2) := by decide +kernel
theorem dX12_sort_56 : decode cX12_sort 56 = .ok (.iaload, 1) := by decide +kernel
theorem dX12_sort_57 : decode cX12_sort 57 = .ok (.iload 4, 2) := by decide +kernel
theorem dX12_sort_59 : decode cX12_sort 59 = .ok (.invokevirtual 187, 3) := by decide +kernel
theorem dX12_sort_62 : decode cX12_sort 62 = .ok (.istore 8, 2) := by decide +kernel
theorem dX12_sort_64 : decode cX12_sort 64 = .ok (.iload 8, 2) := by decide +kernel
theorem dX12_sort_66 : decode cX12_sort 66 = .ok (.iload 5, 2) := by decide +kernel
theorem dX12_sort_68 : decode cX12_sort 68 = .ok (.if_icmp .ge 8, 3) := by decide +kernel
theorem dX12_sort_71 : decode cX12_sort 71 = .ok (.iload 8, 2) := by decide +kernel
theorem dX12_sort_73 : decode cX12_sort 73 = .ok (.goto 5, 3) := by decide +kernel
theorem dX12_sort_76 : decode cX12_sort 76 = .ok (.iload 5, 2) := by decide +kernel
theorem dX12_sort_78 : decode cX12_sort 78 = .ok (.istore 5, 2) := by decide +kernel
theorem dX12_sort_80 : decode cX12_sort 80 = .ok (.iload 8, 2) := by decide +kernel
theorem dX12_sort_82 : decode cX12_sort 82 = .ok (.iload 6, 2) := by decide +kernel
theorem dX12_sort_84 : decode cX12_sort 84 = .ok (.if_icmp .le 8, 3) := by decide +kernel
theorem dX12_sort_87 : decode cX12_sort 87 = .ok (.iload 8, 2) := by decide +kernel
theorem dX12_sort_89 : decode cX12_sort 89 = .ok (.goto 5, 3) := by decide +kernel
theorem dX12_sort_92 : decode cX12_sort 92 = .ok (.iload 6, 2) := by decide +kernel
theorem dX12_sort_94 : decode cX12_sort 94 = .ok (.istore 6, 2) := by decide +kernel
theorem dX12_sort_96 : decode cX12_sort 96 = .ok (.iinc 7 1, 3) := by decide +kernel
theorem dX12_sort_99 : decode cX12_sort 99 = .ok (.goto (-68), 3) := by decide +kernel
theorem dX12_sort_102 : decode cX12_sort 102 = .ok (.iload 6, 2) := by decide +kernel
theorem dX12_sort_104 : decode cX12_sort 104 = .ok (.iload 5, 2) := by decide +kernel
theorem dX12_sort_106 : decode cX12_sort 106 = .ok (.isub, 1) := by decide +kernel
theorem dX12_sort_107 : decode cX12_sort 107 = .ok (.iload_n 3, 1) := by decide +kernel
theorem dX12_sort_108 : decode cX12_sort 108 = .ok (.if_icmp .le 12, 3) := by decide +kernel
theorem dX12_sort_111 : decode cX12_sort 111 = .ok (.iload 6, 2) := by decide +kernel
theorem dX12_sort_113 : decode cX12_sort 113 = .ok (.iload 5, 2) := by decide +kernel
theorem dX12_sort_115 : decode cX12_sort 115 = .ok (.isub, 1) := by decide +kernel
theorem dX12_sort_116 : decode cX12_sort 116 = .ok (.istore_n 3, 1) := by decide +kernel
theorem dX12_sort_117 : decode cX12_sort 117 = .ok (.iload 4, 2) := by decide +kernel
theorem dX12_sort_119 : decode cX12_sort 119 = .ok (.istore_n 2, 1) := by decide +kernel
theorem dX12_sort_120 : decode cX12_sort 120 = .ok (.iinc 4 1, 3) := by decide +kernel
theorem dX12_sort_123 : decode cX12_sort 123 = .ok (.goto (-116), 3) := by decide +kernel
theorem dX12_sort_126 : decode cX12_sort 126 = .ok (.aload_n 0, 1) := by decide +kernel
theorem dX12_sort_127 : decode cX12_sort 127 = .ok (.getfield 51, 3) := by decide +kernel
theorem dX12_sort_130 : decode cX12_sort 130 = .ok (.iload_n 1, 1) := by decide +kernel
theorem dX12_sort_131 : decode cX12_sort 131 = .ok (.iaload, 1) := by decide +kernel
theorem dX12_sort_132 : decode cX12_sort 132 = .ok (.iconst 1, 1) := by decide +kernel
theorem dX12_sort_133 : decode cX12_sort 133 = .ok (.iadd, 1) := by decide +kernel
theorem dX12_sort_134 : decode cX12_sort 134 = .ok (.istore 4, 2) := by decide +kernel
theorem dX12_sort_136 : decode cX12_sort 136 = .ok (.iload 4, 2) := by decide +kernel
theorem dX12_sort_138 : decode cX12_sort 138 = .ok (.aload_n 0, 1) := by decide +kernel
theorem dX12_sort_139 : decode cX12_sort 139 = .ok (.getfield 51, 3) := by decide +kernel
theorem dX12_sort_142 : decode cX12_sort 142 = .ok (.iload_n 1, 1) := by decide +kernel
theorem dX12_sort_143 : decode cX12_sort 143 = .ok (.iaload, 1) := by decide +kernel
theorem dX12_sort_144 : decode cX12_sort 144 = .ok (.aload_n 0, 1) := by decide +kernel
theorem dX12_sort_145 : decode cX12_sort 145 = .ok (.getfield 54, 3) := by decide +kernel
theorem dX12_sort_148 : decode cX12_sort 148 = .ok (.iload_n 1, 1) := by decide +kernel
theorem dX12_sort_149 : decode cX12_sort 149 = .ok (.iaload, 1) := by decide +kernel
theorem dX12_sort_150 : decode cX12_sort 150 = .ok (.iadd, 1) := by decide +kernel
theorem dX12_sort_151 : decode cX12_sort 151 = .ok (.if_icmp .ge 83, 3) := by decide +kernel
theorem dX12_sort_154 : decode cX12_sort 154 = .ok (.aload_n 0, 1) := by decide +kernel
theorem dX12_sort_155 : decode cX12_sort 155 = .ok (.getfield 72, 3) := by decide +kernel
theorem dX12_sort_158 : decode cX12_sort 158 = .ok (.iload 4, 2) := by decide +kernel
theorem dX12_sort_160 : decode cX12_sort 160 = .ok (.iaload, 1) := by decide +kernel
theorem dX12_sort_161 : decode cX12_sort 161 = .ok (.istore 5, 2) := by decide +kernel
theorem dX12_sort_163 : decode cX12_sort 163 = .ok (.iload 4, 2) := by decide +kernel
theorem dX12_sort_165 : decode cX12_sort 165 = .ok (.istore 6, 2) := by decide +kernel
theorem dX12_sort_167 : decode cX12_sort 167 = .ok (.iload 6, 2) := by decide +kernel
theorem dX12_sort_169 : decode cX12_sort 169 = .ok (.aload_n 0, 1) := by decide +kernel
theorem dX12_sort_170 : decode cX12_sort 170 = .ok (.getfield 51, 3) := by decide +kernel
theorem dX12_sort_173 : decode cX12_sort 173 = .ok (.iload_n 1, 1) := by decide +kernel
theorem dX12_sort_174 : decode cX12_sort 174 = .ok (.iaload, 1) := by decide +kernel
theorem dX12_sort_175 : decode cX12_sort 175 = .ok (.if_icmp .le 44, 3) := by decide +kernel
theorem dX12_sort_178 : decode cX12_sort 178 = .ok (.aload_n 0, 1) := by decide +kernel
theorem dX12_sort_179 : decode cX12_sort 179 = .ok (.aload_n 0, 1) := by decide +kernel
theorem dX12_sort_180 : decode cX12_sort 180 = .ok (.getfield 72, 3) := by decide +kernel
theorem dX12_sort_183 : decode cX12_sort 183 = .ok (.iload 6, 2) := by decide +kernel
theorem dX12_sort_185 : decode cX12_sort 185 = .ok (.iconst 1, 1) := by decide +kernel
theorem dX12_sort_186 : decode cX12_sort 186 = .ok (.isub, 1) := by decide +kernel
theorem dX12_sort_187 : decode cX12_sort 187 = .ok (.iaload, 1) := by decide +kernel
theorem dX12_sort_188 : decode cX12_sort 188 = .ok (.iload 5, 2) := by decide +kernel
theorem dX12_sort_190 : decode cX12_sort 190 = .ok (.iload_n 2, 1) := by decide +kernel
theorem dX12_sort_191 : decode cX12_sort 191 = .ok (.invokevirtual 191, 3) := by decide +kernel
theorem dX12_sort_194 : decode cX12_sort 194 = .ok (.ifCond .eq 25, 3) := by decide +kernel
theorem dX12_sort_197 : decode cX12_sort 197 = .ok (.aload_n 0, 1) := by decide +kernel
theorem dX12_sort_198 : decode cX12_sort 198 = .ok (.getfield 72, 3) := by decide +kernel
theorem dX12_sort_201 : decode cX12_sort 201 = .ok (.iload 6, 2) := by decide +kernel
theorem dX12_sort_203 : decode cX12_sort 203 = .ok (.aload_n 0, 1) := by decide +kernel
theorem dX12_sort_204 : decode cX12_sort 204 = .ok (.getfield 72, 3) := by decide +kernel
theorem dX12_sort_207 : decode cX12_sort 207 = .ok (.iload 6, 2) := by decide +kernel
theorem dX12_sort_209 : decode cX12_sort 209 = .ok (.iconst 1, 1) := by decide +kernel
theorem dX12_sort_210 : decode cX12_sort 210 = .ok (.isub, 1) := by decide +kernel
theorem dX12_sort_211 : decode cX12_sort 211 = .ok (.iaload, 1) := by decide +kernel
theorem dX12_sort_212 : decode cX12_sort 212 = .ok (.iastore, 1) := by decide +kernel
theorem dX12_sort_213 : decode cX12_sort 213 = .ok (.iinc 6 (-1), 3) := by decide +kernel
theorem dX12_sort_216 : decode cX12_sort 216 = .ok (.goto (-49), 3) := by decide +kernel
theorem dX12_sort_219 : decode cX12_sort 219 = .ok (.aload_n 0, 1) := by decide +kernel
theorem dX12_sort_220 : decode cX12_sort 220 = .ok (.getfield 72, 3) := by decide +kernel
theorem dX12_sort_223 : decode cX12_sort 223 = .ok (.iload 6, 2) := by decide +kernel
theorem dX12_sort_225 : decode cX12_sort 225 = .ok (.iload 5, 2) := by decide +kernel
theorem dX12_sort_227 : decode cX12_sort 227 = .ok (.iastore, 1) := by decide +kernel
theorem dX12_sort_228 : decode cX12_sort 228 = .ok (.iinc 4 1, 3) := by decide +kernel
theorem dX12_sort_231 : decode cX12_sort 231 = .ok (.goto (-95), 3) := by decide +kernel
theorem dX12_sort_234 : decode cX12_sort 234 = .ok (.return_, 1) := by decide +kernel
theorem dX12_isBehind_0 : decode cX12_isBehind 0 = .ok (.aload_n 0, 1) := by decide +kernel
theorem dX12_isBehind_1 : decode cX12_isBehind 1 = .ok (.iload_n 1, 1) := by decide +kernel
theorem dX12_isBehind_2 : decode cX12_isBehind 2 = .ok (.iload_n 3, 1) := by decide +kernel
theorem dX12_isBehind_3 : decode cX12_isBehind 3 = .ok (.invokevirtual 187, 3) := by decide +kernel
theorem dX12_isBehind_6 : decode cX12_isBehind 6 = .ok (.aload_n 0, 1) := by decide +kernel
theorem dX12_isBehind_7 : decode cX12_isBehind 7 = .ok (.iload_n 2, 1) := by decide +kernel
theorem dX12_isBehind_8 : decode cX12_isBehind 8 = .ok (.iload_n 3, 1) := by decide +kernel
theorem dX12_isBehind_9 : decode cX12_isBehind 9 = .ok (.invokevirtual 187, 3) := by decide +kernel
theorem dX12_isBehind_12 : decode cX12_isBehind 12 = .ok (.if_icmp .gt 23, 3) := by decide +kernel
theorem dX12_isBehind_15 : decode cX12_isBehind 15 = .ok (.aload_n 0, 1) := by decide +kernel
theorem dX12_isBehind_16 : decode cX12_isBehind 16 = .ok (.iload_n 1, 1) := by decide +kernel
theorem dX12_isBehind_17 : decode cX12_isBehind 17 = .ok (.iload_n 3, 1) := by decide +kernel
theorem dX12_isBehind_18 : decode cX12_isBehind 18 = .ok (.invokevirtual 187, 3) := by decide +kernel
theorem dX12_isBehind_21 : decode cX12_isBehind 21 = .ok (.aload_n 0, 1) := by decide +kernel
theorem dX12_isBehind_22 : decode cX12_isBehind 22 = .ok (.iload_n 2, 1) := by decide +kernel
theorem dX12_isBehind_23 : decode cX12_isBehind 23 = .ok (.iload_n 3, 1) := by decide +kernel
theorem dX12_isBehind_24 : decode cX12_isBehind 24 = .ok (.invokevirtual 187, 3) := by decide +kernel
theorem dX12_isBehind_27 : decode cX12_isBehind 27 = .ok (.if_icmp .ne 12, 3) := by decide +kernel
theorem dX12_isBehind_30 : decode cX12_isBehind 30 = .ok (.iload_n 1, 1) := by decide +kernel
theorem dX12_isBehind_31 : decode cX12_isBehind 31 = .ok (.iload_n 2, 1) := by decide +kernel
theorem dX12_isBehind_32 : decode cX12_isBehind 32 = .ok (.if_icmp .le 7, 3) := by decide +kernel
theorem dX12_isBehind_35 : decode cX12_isBehind 35 = .ok (.iconst 1, 1) := by decide +kernel
theorem dX12_isBehind_36 : decode cX12_isBehind 36 = .ok (.goto 4, 3) := by decide +kernel
theorem dX12_isBehind_39 : decode cX12_isBehind 39 = .ok (.iconst 0, 1) := by decide +kernel
theorem dX12_isBehind_40 : decode cX12_isBehind 40 = .ok (.ireturn, 1) := by decide +kernel
theorem dX12_build_0 : decode cX12_build 0 = .ok (.iload_n 1, 1) := by decide +kernel
theorem dX12_build_1 : decode cX12_build 1 = .ok (.i2l, 1) := by decide +kernel
theorem dX12_build_2 : decode cX12_build 2 = .ok (.lconst 1, 1) := by decide +kernel
theorem dX12_build_3 : decode cX12_build 3 = .ok (.ldc2_w 195, 3) := by decide +kernel
theorem dX12_build_6 : decode cX12_build 6 = .ok (.invokestatic 140, 3) := by decide +kernel
theorem dX12_build_9 : decode cX12_build 9 = .ok (.ifCond .ne 5, 3) := by decide +kernel
theorem dX12_build_12 : decode cX12_build 12 = .ok (.iconst (-1), 1) := by decide +kernel
theorem dX12_build_13 : decode cX12_build 13 = .ok (.ireturn, 1) := by decide +kernel
theorem dX12_build_14 : decode cX12_build 14 = .ok (.aload_n 0, 1) := by decide +kernel
theorem dX12_build_15 : decode cX12_build 15 = .ok (.iconst 0, 1) := by decide +kernel
theorem dX12_build_16 : decode cX12_build 16 = .ok (.putfield 158, 3) := by decide +kernel
theorem dX12_build_19 : decode cX12_build 19 = .ok (.aload_n 0, 1) := by decide +kernel
theorem dX12_build_20 : decode cX12_build 20 = .ok (.getfield 151, 3) := by decide +kernel
theorem dX12_build_23 : decode cX12_build 23 = .ok (.ifCond .ne 5, 3) := by decide +kernel
theorem dX12_build_26 : decode cX12_build 26 = .ok (.iconst 0, 1) := by decide +kernel
theorem dX12_build_27 : decode cX12_build 27 = .ok (.ireturn, 1) := by decide +kernel
theorem dX12_build_28 : decode cX12_build 28 = .ok (.iconst 0, 1) := by decide +kernel
theorem dX12_build_29 : decode cX12_build 29 = .ok (.istore_n 2, 1) := by decide +kernel
theorem dX12_build_30 : decode cX12_build 30 = .ok (.iload_n 2, 1) := by decide +kernel
theorem dX12_build_31 : decode cX12_build 31 = .ok (.aload_n 0, 1) := by decide +kernel
theorem dX12_build_32 : decode cX12_build 32 = .ok (.getfield 151, 3) := by decide +kernel
theorem dX12_build_35 : decode cX12_build 35 = .ok (.if_icmp .ge 16, 3) := by decide +kernel
theorem dX12_build_38 : decode cX12_build 38 = .ok (.aload_n 0, 1) := by decide +kernel
theorem dX12_build_39 : decode cX12_build 39 = .ok (.getfield 72, 3) := by decide +kernel
theorem dX12_build_42 : decode cX12_build 42 = .ok (.iload_n 2, 1) := by decide +kernel
theorem dX12_build_43 : decode cX12_build 43 = .ok (.iload_n 2, 1) := by decide +kernel
theorem dX12_build_44 : decode cX12_build 44 = .ok (.iastore, 1) := by decide +kernel
theorem dX12_build_45 : decode cX12_build 45 = .ok (.iinc 2 1, 3) := by decide +kernel
theorem dX12_build_48 : decode cX12_build 48 = .ok (.goto (-18), 3) := by decide +kernel
theorem dX12_build_51 : decode cX12_build 51 = .ok (.iconst 0, 1) := by decide +kernel
theorem dX12_build_52 : decode cX12_build 52 = .ok (.istore_n 2, 1) := by decide +kernel
theorem dX12_build_53 : decode cX12_build 53 = .ok (.aload_n 0, 1) := by decide +kernel
theorem dX12_build_54 : decode cX12_build 54 = .ok (.getfield 78, 3) := by decide +kernel
theorem dX12_build_57 : decode cX12_build 57 = .ok (.iconst 0, 1) := by decide +kernel
theorem dX12_build_58 : decode cX12_build 58 = .ok (.iconst 0, 1) := by decide +kernel
theorem dX12_build_59 : decode cX12_build 59 = .ok (.iastore, 1) := by decide +kernel
theorem dX12_build_60 : decode cX12_build 60 = .ok (.aload_n 0, 1) := by decide +kernel
theorem dX12_build_61 : decode cX12_build 61 = .ok (.getfield 78, 3) := by decide +kernel
theorem dX12_build_64 : decode cX12_build 64 = .ok (.iconst 1, 1) := by decide +kernel
theorem dX12_build_65 : decode cX12_build 65 = .ok (.aload_n 0, 1) := by decide +kernel
theorem dX12_build_66 : decode cX12_build 66 = .ok (.getfield 151, 3) := by decide +kernel
theorem dX12_build_69 : decode cX12_build 69 = .ok (.iastore, 1) := by decide +kernel
theorem dX12_build_70 : decode cX12_build 70 = .ok (.aload_n 0, 1) := by decide +kernel
theorem dX12_build_71 : decode cX12_build 71 = .ok (.getfield 78, 3) := by decide +kernel
theorem dX12_build_74 : decode cX12_build 74 = .ok (.iconst 2, 1) := by decide +kernel
theorem dX12_build_75 : decode cX12_build 75 = .ok (.bipush (-2), 2) := by decide +kernel
theorem dX12_build_77 : decode cX12_build 77 = .ok (.iastore, 1) := by decide +kernel
theorem dX12_build_78 : decode cX12_build 78 = .ok (.iconst 1, 1) := by decide +kernel
theorem dX12_build_79 : decode cX12_build 79 = .ok (.istore_n 2, 1) := by decide +kernel
theorem dX12_build_80 : decode cX12_build 80 = .ok (.iload_n 2, 1) := by decide +kernel
theorem dX12_build_81 : decode cX12_build 81 = .ok (.ifCond .le 246, 3) := by decide +kernel
theorem dX12_build_84 : decode cX12_build 84 = .ok (.iinc 2 (-1), 3) := by decide +kernel
theorem dX12_build_87 : decode cX12_build 87 = .ok (.aload_n 0, 1) := by decide +kernel
theorem dX12_build_88 : decode cX12_build 88 = .ok (.getfield 78, 3) := by decide +kernel
theorem dX12_build_91 : decode cX12_build 91 = .ok (.iconst 3, 1) := by decide +kernel
theorem dX12_build_92 : decode cX12_build 92 = .ok (.iload_n 2, 1) := by decide +kernel
theorem dX12_build_93 : decode cX12_build 93 = .ok (.imul, 1) := by decide +kernel
theorem dX12_build_94 : decode cX12_build 94 = .ok (.iconst 2, 1) := by decide +kernel
theorem dX12_build_95 : decode cX12_build 95 = .ok (.iadd, 1) := by decide +kernel
theorem dX12_build_96 : decode cX12_build 96 = .ok (.iaload, 1) := by decide +kernel
theorem dX12_build_97 : decode cX12_build 97 = .ok (.istore_n 3, 1) := by decide +kernel
theorem dX12_build_98 : decode cX12_build 98 = .ok (.aload_n 0, 1) := by decide +kernel
theorem dX12_build_99 : decode cX12_build 99 = .ok (.getfield 158, 3) := by decide +kernel
theorem dX12_build_102 : decode cX12_build 102 = .ok (.istore 4, 2) := by decide +kernel
theorem dX12_build_104 : decode cX12_build 104 = .ok (.aload_n 0, 1) := by decide +kernel
theorem dX12_build_105 : decode cX12_build 105 = .ok (.aload_n 0, 1) := by decide +kernel
theorem dX12_build_106 : decode cX12_build 106 = .ok (.getfield 78, 3) := by decide +kernel
theorem dX12_build_109 : decode cX12_build 109 = .ok (.iconst 3, 1) := by decide +kernel
theorem dX12_build_110 : decode cX12_build 110 = .ok (.iload_n 2, 1) := by decide +kernel
theorem dX12_build_111 : decode cX12_build 111 = .ok (.imul, 1) := by decide +kernel
theorem dX12_build_112 : decode cX12_build 112 = .ok (.iaload, 1) := by decide +kernel
theorem dX12_build_113 : decode cX12_build 113 = .ok (.aload_n 0, 1) := by decide +kernel
theorem dX12_build_114 : decode cX12_build 114 = .ok (.getfield 78, 3) := by decide +kernel
theorem dX12_build_117 : decode cX12_build 117 = .ok (.iconst 3, 1) := by decide +kernel
theorem dX12_build_118 : decode cX12_build 118 = .ok (.iload_n 2, 1) := by decide +kernel
theorem dX12_build_119 : decode cX12_build 119 = .ok (.imul, 1) := by decide +kernel
theorem dX12_build_120 : decode cX12_build 120 = .ok (.iconst 1, 1) := by decide +kernel
theorem dX12_build_121 : decode cX12_build 121 = .ok (.iadd, 1) := by decide +kernel
theorem dX12_build_122 : decode cX12_build 122 = .ok (.iaload, 1) := by decide +kernel
theorem dX12_build_123 : decode cX12_build 123 = .ok (.iload_n 3, 1) := by decide +kernel
theorem dX12_build_124 : decode cX12_build 124 = .ok (.invokevirtual 197, 3) := by decide +kernel
theorem dX12_build_127 : decode cX12_build 127 = .ok (.iload_n 3, 1) := by decide +kernel
theorem dX12_build_128 : decode cX12_build 128 = .ok (.ifCond .lt 31, 3) := by decide +kernel
theorem dX12_build_131 : decode cX12_build 131 = .ok (.aload_n 0, 1) := by decide +kernel
theorem dX12_build_132 : decode cX12_build 132 = .ok (.getfield 57, 3) := by decide +kernel
theorem dX12_build_135 : decode cX12_build 135 = .ok (.iload_n 3, 1) := by decide +kernel
theorem dX12_build_136 : decode cX12_build 136 = .ok (.iaload, 1) := by decide +kernel
theorem dX12_build_137 : decode cX12_build 137 = .ok (.ifCond .ge 14, 3) := by decide +kernel
theorem dX12_build_140 : decode cX12_build 140 = .ok (.aload_n 0, 1) := by decide +kernel
theorem dX12_build_141 : decode cX12_build 141 = .ok (.getfield 57, 3) := by decide +kernel
theorem dX12_build_144 : decode cX12_build 144 = .ok (.iload_n 3, 1) := by decide +kernel
theorem dX12_build_145 : decode cX12_build 145 = .ok (.iload 4, 2) := by decide +kernel
theorem dX12_build_147 : decode cX12_build 147 = .ok (.iastore, 1) := by decide +kernel
theorem dX12_build_148 : decode cX12_build 148 = .ok (.goto 11, 3) := by decide +kernel
theorem dX12_build_151 : decode cX12_build 151 = .ok (.aload_n 0, 1) := by decide +kernel
theorem dX12_build_152 : decode cX12_build 152 = .ok (.getfield 60, 3) := by decide +kernel
theorem dX12_build_155 : decode cX12_build 155 = .ok (.iload_n 3, 1) := by decide +kernel
theorem dX12_build_156 : decode cX12_build 156 = .ok (.iload 4, 2) := by decide +kernel
theorem dX12_build_158 : decode cX12_build 158 = .ok (.iastore, 1) := by decide +kernel
theorem dX12_build_159 : decode cX12_build 159 = .ok (.aload_n 0, 1) := by decide +kernel
theorem dX12_build_160 : decode cX12_build 160 = .ok (.iload 4, 2) := by decide +kernel
theorem dX12_build_162 : decode cX12_build 162 = .ok (.invokevirtual 201, 3) := by decide +kernel
theorem dX12_build_165 : decode cX12_build 165 = .ok (.iconst 0, 1) := by decide +kernel
theorem dX12_build_166 : decode cX12_build 166 = .ok (.istore 5, 2) := by decide +kernel
theorem dX12_build_168 : decode cX12_build 168 = .ok (.iload 5, 2) := by decide +kernel
theorem dX12_build_170 : decode cX12_build 170 = .ok (.bipush 6, 2) := by decide +kernel
theorem dX12_build_172 : decode cX12_build 172 = .ok (.if_icmp .ge 29, 3) := by decide +kernel
theorem dX12_build_175 : decode cX12_build 175 = .ok (.aload_n 0, 1) := by decide +kernel
theorem dX12_build_176 : decode cX12_build 176 = .ok (.getfield 69, 3) := by decide +kernel
theorem dX12_build_179 : decode cX12_build 179 = .ok (.bipush 6, 2) := by decide +kernel
theorem dX12_build_181 : decode cX12_build 181 = .ok (.iload 4, 2) := by decide +kernel
theorem dX12_build_183 : decode cX12_build 183 = .ok (.imul, 1) := by decide +kernel
theorem dX12_build_184 : decode cX12_build 184 = .ok (.iload 5, 2) := by decide +kernel
theorem dX12_build_186 : decode cX12_build 186 = .ok (.iadd, 1) := by decide +kernel
theorem dX12_build_187 : decode cX12_build 187 = .ok (.aload_n 0, 1) := by decide +kernel
theorem dX12_build_188 : decode cX12_build 188 = .ok (.getfield 75, 3) := by decide +kernel
theorem dX12_build_191 : decode cX12_build 191 = .ok (.iload 5, 2) := by decide +kernel
theorem dX12_build_193 : decode cX12_build 193 = .ok (.iaload, 1) := by decide +kernel
theorem dX12_build_194 : decode cX12_build 194 = .ok (.iastore, 1) := by decide +kernel
theorem dX12_build_195 : decode cX12_build 195 = .ok (.iinc 5 1, 3) := by decide +kernel
theorem dX12_build_198 : decode cX12_build 198 = .ok (.goto (-30), 3) := by decide +kernel
theorem dX12_build_201 : decode cX12_build 201 = .ok (.aload_n 0, 1) := by decide +kernel
theorem dX12_build_202 : decode cX12_build 202 = .ok (.getfield 54, 3) := by decide +kernel
theorem dX12_build_205 : decode cX12_build 205 = .ok (.iload 4, 2) := by decide +kernel
theorem dX12_build_207 : decode cX12_build 207 = .ok (.iaload, 1) := by decide +kernel
theorem dX12_build_208 : decode cX12_build 208 = .ok (.iload_n 1, 1) := by decide +kernel
theorem dX12_build_209 : decode cX12_build 209 = .ok (.if_icmp .le 115, 3) := by decide +kernel
theorem dX12_build_212 : decode cX12_build 212 = .ok (.aload_n 0, 1) := by decide +kernel
theorem dX12_build_213 : decode cX12_build 213 = .ok (.iload 4, 2) := by decide +kernel
theorem dX12_build_215 : decode cX12_build 215 = .ok (.invokevirtual 205, 3) := by decide +kernel
theorem dX12_build_218 : decode cX12_build 218 = .ok (.aload_n 0, 1) := by decide +kernel
theorem dX12_build_219 : decode cX12_build 219 = .ok (.getfield 54, 3) := by decide +kernel
theorem dX12_build_222 : decode cX12_build 222 = .ok (.iload 4, 2) := by decide +kernel
theorem dX12_build_224 : decode cX12_build 224 = .ok (.iaload, 1) := by decide +kernel
theorem dX12_build_225 : decode cX12_build 225 = .ok (.iconst 2, 1) := by decide +kernel
theorem dX12_build_226 : decode cX12_build 226 = .ok (.idiv, 1) := by decide +kernel
theorem dX12_build_227 : decode cX12_build 227 = .ok (.istore 5, 2) := by decide +kernel
theorem dX12_build_229 : decode cX12_build 229 = .ok (.aload_n 0, 1) := by decide +kernel
theorem dX12_build_230 : decode cX12_build 230 = .ok (.getfield 78, 3) := by decide +kernel
theorem dX12_build_233 : decode cX12_build 233 = .ok (.iconst 3, 1) := by decide +kernel
theorem dX12_build_234 : decode cX12_build 234 = .ok (.iload_n 2, 1) := by decide +kernel
theorem dX12_build_235 : decode cX12_build 235 = .ok (.imul, 1) := by decide +kernel
theorem dX12_build_236 : decode cX12_build 236 = .ok (.aload_n 0, 1) := by decide +kernel
theorem dX12_build_237 : decode cX12_build 237 = .ok (.getfield 51, 3) := by decide +kernel
theorem dX12_build_240 : decode cX12_build 240 = .ok (.iload 4, 2) := by decide +kernel
theorem dX12_build_242 : decode cX12_build 242 = .ok (.iaload, 1) := by decide +kernel
theorem dX12_build_243 : decode cX12_build 243 = .ok (.iload 5, 2) := by decide +kernel
theorem dX12_build_245 : decode cX12_build 245 = .ok (.iadd, 1) := by decide +kernel
theorem dX12_build_246 : decode cX12_build 246 = .ok (.iastore, 1) := by decide +kernel
theorem dX12_build_247 : decode cX12_build 247 = .ok (.aload_n 0, 1) := by decide +kernel
theorem dX12_build_248 : decode cX12_build 248 = .ok (.getfield 78, 3) := by decide +kernel
theorem dX12_build_251 : decode cX12_build 251 = .ok (.iconst 3, 1) := by decide +kernel
theorem dX12_build_252 : decode cX12_build 252 = .ok (.iload_n 2, 1) := by decide +kernel
theorem dX12_build_253 : decode cX12_build 253 = .ok (.imul, 1) := by decide +kernel
theorem dX12_build_254 : decode cX12_build 254 = .ok (.iconst 1, 1) := by decide +kernel
theorem dX12_build_255 : decode cX12_build 255 = .ok (.iadd, 1) := by decide +kernel
theorem dX12_build_256 : decode cX12_build 256 = .ok (.aload_n 0, 1) := by decide +kernel
theorem dX12_build_257 : decode cX12_build 257 = .ok (.getfield 54, 3) := by decide +kernel
theorem dX12_build_260 : decode cX12_build 260 = .ok (.iload 4, 2) := by decide +kernel
theorem dX12_build_262 : decode cX12_build 262 = .ok (.iaload, 1) := by decide +kernel
theorem dX12_build_263 : decode cX12_build 263 = .ok (.iload 5, 2) := by decide +kernel
theorem dX12_build_265 : decode cX12_build 265 = .ok (.isub, 1) := by decide +kernel
theorem dX12_build_266 : decode cX12_build 266 = .ok (.iastore, 1) := by decide +kernel
theorem dX12_build_267 : decode cX12_build 267 = .ok (.aload_n 0, 1) := by decide +kernel
theorem dX12_build_268 : decode cX12_build 268 = .ok (.getfield 78, 3) := by decide +kernel
theorem dX12_build_271 : decode cX12_build 271 = .ok (.iconst 3, 1) := by decide +kernel
theorem dX12_build_272 : decode cX12_build 272 = .ok (.iload_n 2, 1) := by decide +kernel
theorem dX12_build_273 : decode cX12_build 273 = .ok (.imul, 1) := by decide +kernel
theorem dX12_build_274 : decode cX12_build 274 = .ok (.iconst 2, 1) := by decide +kernel
theorem dX12_build_275 : decode cX12_build 275 = .ok (.iadd, 1) := by decide +kernel
theorem dX12_build_276 : decode cX12_build 276 = .ok (.iload 4, 2) := by decide +kernel
theorem dX12_build_278 : decode cX12_build 278 = .ok (.iastore, 1) := by decide +kernel
theorem dX12_build_279 : decode cX12_build 279 = .ok (.iinc 2 1, 3) := by decide +kernel
theorem dX12_build_282 : decode cX12_build 282 = .ok (.aload_n 0, 1) := by decide +kernel
theorem dX12_build_283 : decode cX12_build 283 = .ok (.getfield 78, 3) := by decide +kernel
theorem dX12_build_286 : decode cX12_build 286 = .ok (.iconst 3, 1) := by decide +kernel
theorem dX12_build_287 : decode cX12_build 287 = .ok (.iload_n 2, 1) := by decide +kernel
theorem dX12_build_288 : decode cX12_build 288 = .ok (.imul, 1) := by decide +kernel
theorem dX12_build_289 : decode cX12_build 289 = .ok (.aload_n 0, 1) := by decide +kernel
theorem dX12_build_290 : decode cX12_build 290 = .ok (.getfield 51, 3) := by decide +kernel
theorem dX12_build_293 : decode cX12_build 293 = .ok (.iload 4, 2) := by decide +kernel
theorem dX12_build_295 : decode cX12_build 295 = .ok (.iaload, 1) := by decide +kernel
theorem dX12_build_296 : decode cX12_build 296 = .ok (.iastore, 1) := by decide +kernel
theorem dX12_build_297 : decode cX12_build 297 = .ok (.aload_n 0, 1) := by decide +kernel
theorem dX12_build_298 : decode cX12_build 298 = .ok (.getfield 78, 3) := by decide +kernel
theorem dX12_build_301 : decode cX12_build 301 = .ok (.iconst 3, 1) := by decide +kernel
theorem dX12_build_302 : decode cX12_build 302 = .ok (.iload_n 2, 1) := by decide +kernel
theorem dX12_build_303 : decode cX12_build 303 = .ok (.imul, 1) := by decide +kernel
theorem dX12_build_304 : decode cX12_build 304 = .ok (.iconst 1, 1) := by decide +kernel
theorem dX12_build_305 : decode cX12_build 305 = .ok (.iadd, 1) := by decide +kernel
theorem dX12_build_306 : decode cX12_build 306 = .ok (.iload 5, 2) := by decide +kernel
theorem dX12_build_308 : decode cX12_build 308 = .ok (.iastore, 1) := by decide +kernel
theorem dX12_build_309 : decode cX12_build 309 = .ok (.aload_n 0, 1) := by decide +kernel
theorem dX12_build_310 : decode cX12_build 310 = .ok (.getfield 78, 3) := by decide +kernel
theorem dX12_build_313 : decode cX12_build 313 = .ok (.iconst 3, 1) := by decide +kernel
theorem dX12_build_314 : decode cX12_build 314 = .ok (.iload_n 2, 1) := by decide +kernel
theorem dX12_build_315 : decode cX12_build 315 = .ok (.imul, 1) := by decide +kernel
theorem dX12_build_316 : decode cX12_build 316 = .ok (.iconst 2, 1) := by decide +kernel
theorem dX12_build_317 : decode cX12_build 317 = .ok (.iadd, 1) := by decide +kernel
theorem dX12_build_318 : decode cX12_build 318 = .ok (.iload 4, 2) := by decide +kernel
theorem dX12_build_320 : decode cX12_build 320 = .ok (.iastore, 1) := by decide +kernel
theorem dX12_build_321 : decode cX12_build 321 = .ok (.iinc 2 1, 3) := by decide +kernel
theorem dX12_build_324 : decode cX12_build 324 = .ok (.goto (-244), 3) := by decide +kernel
theorem dX12_build_327 : decode cX12_build 327 = .ok (.aload_n 0, 1) := by decide +kernel
theorem dX12_build_328 : decode cX12_build 328 = .ok (.getfield 158, 3) := by decide +kernel
theorem dX12_build_331 : decode cX12_build 331 = .ok (.ireturn, 1) := by decide +kernel
theorem dX12_refit_0 : decode cX12_refit 0 = .ok (.aload_n 0, 1) := by decide +kernel
theorem dX12_refit_1 : decode cX12_refit 1 = .ok (.getfield 158, 3) := by decide +kernel
theorem dX12_refit_4 : decode cX12_refit 4 = .ok (.ifCond .ne 5, 3) := by decide +kernel
theorem dX12_refit_7 : decode cX12_refit 7 = .ok (.iconst (-1), 1) := by decide +kernel
theorem dX12_refit_8 : decode cX12_refit 8 = .ok (.ireturn, 1) := by decide +kernel
theorem dX12_refit_9 : decode cX12_refit 9 = .ok (.iconst 0, 1) := by decide +kernel
theorem dX12_refit_10 : decode cX12_refit 10 = .ok (.istore_n 1, 1) := by decide +kernel
theorem dX12_refit_11 : decode cX12_refit 11 = .ok (.iconst 0, 1) := by decide +kernel
theorem dX12_refit_12 : decode cX12_refit 12 = .ok (.istore_n 2, 1) := by decide +kernel
theorem dX12_refit_13 : decode cX12_refit 13 = .ok (.iload_n 2, 1) := by decide +kernel
theorem dX12_refit_14 : decode cX12_refit 14 = .ok (.aload_n 0, 1) := by decide +kernel
theorem dX12_refit_15 : decode cX12_refit 15 = .ok (.getfield 158, 3) := by decide +kernel
theorem dX12_refit_18 : decode cX12_refit 18 = .ok (.if_icmp .ge 95, 3) := by decide +kernel
theorem dX12_refit_21 : decode cX12_refit 21 = .ok (.aload_n 0, 1) := by decide +kernel
theorem dX12_refit_22 : decode cX12_refit 22 = .ok (.iload_n 2, 1) := by decide +kernel
theorem dX12_refit_23 : decode cX12_refit 23 = .ok (.invokevirtual 201, 3) := by decide +kernel
theorem dX12_refit_26 : decode cX12_refit 26 = .ok (.iconst 1, 1) := by decide +kernel
theorem dX12_refit_27 : decode cX12_refit 27 = .ok (.istore_n 3, 1) := by decide +kernel
theorem dX12_refit_28 : decode cX12_refit 28 = .ok (.iconst 0, 1) := by decide +kernel
theorem dX12_refit_29 : decode cX12_refit 29 = .ok (.istore 4, 2) := by decide +kernel
theorem dX12_refit_31 : decode cX12_refit 31 = .ok (.iload 4, 2) := by decide +kernel
theorem dX12_refit_33 : decode cX12_refit 33 = .ok (.bipush 6, 2) := by decide +kernel
theorem dX12_refit_35 : decode cX12_refit 35 = .ok (.if_icmp .ge 60, 3) := by decide +kernel
theorem dX12_refit_38 : decode cX12_refit 38 = .ok (.iload_n 3, 1) := by decide +kernel
theorem dX12_refit_39 : decode cX12_refit 39 = .ok (.ifCond .eq 29, 3) := by decide +kernel
theorem dX12_refit_42 : decode cX12_refit 42 = .ok (.aload_n 0, 1) := by decide +kernel
theorem dX12_refit_43 : decode cX12_refit 43 = .ok (.getfield 69, 3) := by decide +kernel
theorem dX12_refit_46 : decode cX12_refit 46 = .ok (.bipush 6, 2) := by decide +kernel
theorem dX12_refit_48 : decode cX12_refit 48 = .ok (.iload_n 2, 1) := by decide +kernel
theorem dX12_refit_49 : decode cX12_refit 49 = .ok (.imul, 1) := by decide +kernel
theorem dX12_refit_50 : decode cX12_refit 50 = .ok (.iload 4, 2) := by decide +kernel
theorem dX12_refit_52 : decode cX12_refit 52 = .ok (.iadd, 1) := by decide +kernel
theorem dX12_refit_53 : decode cX12_refit 53 = .ok (.iaload, 1) := by decide +kernel
theorem dX12_refit_54 : decode cX12_refit 54 = .ok (.aload_n 0, 1) := by decide +kernel
theorem dX12_refit_55 : decode cX12_refit 55 = .ok (.getfield 75, 3) := by decide +kernel
theorem dX12_refit_58 : decode cX12_refit 58 = .ok (.iload 4, 2) := by decide +kernel
theorem dX12_refit_60 : decode cX12_refit 60 = .ok (.iaload, 1) := by decide +kernel
theorem dX12_refit_61 : decode cX12_refit 61 = .ok (.if_icmp .ne 7, 3) := by decide +kernel
theorem dX12_refit_64 : decode cX12_refit 64 = .ok (.iconst 1, 1) := by decide +kernel
theorem dX12_refit_65 : decode cX12_refit 65 = .ok (.goto 4, 3) := by decide +kernel
theorem dX12_refit_68 : decode cX12_refit 68 = .ok (.iconst 0, 1) := by decide +kernel
theorem dX12_refit_69 : decode cX12_refit 69 = .ok (.istore_n 3, 1) := by decide +kernel
theorem dX12_refit_70 : decode cX12_refit 70 = .ok (.aload_n 0, 1) := by decide +kernel
theorem dX12_refit_71 : decode cX12_refit 71 = .ok (.getfield 69, 3) := by decide +kernel
theorem dX12_refit_74 : decode cX12_refit 74 = .ok (.bipush 6, 2) := by decide +kernel
theorem dX12_refit_76 : decode cX12_refit 76 = .ok (.iload_n 2, 1) := by decide +kernel
theorem dX12_refit_77 : decode cX12_refit 77 = .ok (.imul, 1) := by decide +kernel
theorem dX12_refit_78 : decode cX12_refit 78 = .ok (.iload 4, 2) := by decide +kernel
theorem dX12_refit_80 : decode cX12_refit 80 = .ok (.iadd, 1) := by decide +kernel
theorem dX12_refit_81 : decode cX12_refit 81 = .ok (.aload_n 0, 1) := by decide +kernel
theorem dX12_refit_82 : decode cX12_refit 82 = .ok (.getfield 75, 3) := by decide +kernel
theorem dX12_refit_85 : decode cX12_refit 85 = .ok (.iload 4, 2) := by decide +kernel
theorem dX12_refit_87 : decode cX12_refit 87 = .ok (.iaload, 1) := by decide +kernel
theorem dX12_refit_88 : decode cX12_refit 88 = .ok (.iastore, 1) := by decide +kernel
theorem dX12_refit_89 : decode cX12_refit 89 = .ok (.iinc 4 1, 3) := by decide +kernel
theorem dX12_refit_92 : decode cX12_refit 92 = .ok (.goto (-61), 3) := by decide +kernel
theorem dX12_refit_95 : decode cX12_refit 95 = .ok (.iload_n 1, 1) := by decide +kernel
theorem dX12_refit_96 : decode cX12_refit 96 = .ok (.iload_n 3, 1) := by decide +kernel
theorem dX12_refit_97 : decode cX12_refit 97 = .ok (.ifCond .eq 7, 3) := by decide +kernel
theorem dX12_refit_100 : decode cX12_refit 100 = .ok (.iconst 0, 1) := by decide +kernel
theorem dX12_refit_101 : decode cX12_refit 101 = .ok (.goto 4, 3) := by decide +kernel
theorem dX12_refit_104 : decode cX12_refit 104 = .ok (.iconst 1, 1) := by decide +kernel
theorem dX12_refit_105 : decode cX12_refit 105 = .ok (.iadd, 1) := by decide +kernel
theorem dX12_refit_106 : decode cX12_refit 106 = .ok (.istore_n 1, 1) := by decide +kernel
theorem dX12_refit_107 : decode cX12_refit 107 = .ok (.iinc 2 1, 3) := by decide +kernel
theorem dX12_refit_110 : decode cX12_refit 110 = .ok (.goto (-97), 3) := by decide +kernel
theorem dX12_refit_113 : decode cX12_refit 113 = .ok (.iload_n 1, 1) := by decide +kernel
theorem dX12_refit_114 : decode cX12_refit 114 = .ok (.ireturn, 1) := by decide +kernel
theorem dX12_node_0 : decode cX12_node 0 = .ok (.iload_n 1, 1) := by decide +kernel
theorem dX12_node_1 : decode cX12_node 1 = .ok (.i2l, 1) := by decide +kernel
theorem dX12_node_2 : decode cX12_node 2 = .ok (.lconst 0, 1) := by decide +kernel
theorem dX12_node_3 : decode cX12_node 3 = .ok (.aload_n 0, 1) := by decide +kernel
theorem dX12_node_4 : decode cX12_node 4 = .ok (.getfield 158, 3) := by decide +kernel
theorem dX12_node_7 : decode cX12_node 7 = .ok (.iconst 1, 1) := by decide +kernel
theorem dX12_node_8 : decode cX12_node 8 = .ok (.isub, 1) := by decide +kernel
theorem dX12_node_9 : decode cX12_node 9 = .ok (.i2l, 1) := by decide +kernel
theorem dX12_node_10 : decode cX12_node 10 = .ok (.invokestatic 140, 3) := by decide +kernel
theorem dX12_node_13 : decode cX12_node 13 = .ok (.ifCond .eq 15, 3) := by decide +kernel
theorem dX12_node_16 : decode cX12_node 16 = .ok (.iload_n 2, 1) := by decide +kernel
theorem dX12_node_17 : decode cX12_node 17 = .ok (.i2l, 1) := by decide +kernel
theorem dX12_node_18 : decode cX12_node 18 = .ok (.lconst 0, 1) := by decide +kernel
theorem dX12_node_19 : decode cX12_node 19 = .ok (.ldc2_w 208, 3) := by decide +kernel
theorem dX12_node_22 : decode cX12_node 22 = .ok (.invokestatic 140, 3) := by decide +kernel
theorem dX12_node_25 : decode cX12_node 25 = .ok (.ifCond .ne 5, 3) := by decide +kernel
theorem dX12_node_28 : decode cX12_node 28 = .ok (.iconst (-1), 1) := by decide +kernel
theorem dX12_node_29 : decode cX12_node 29 = .ok (.ireturn, 1) := by decide +kernel
theorem dX12_node_30 : decode cX12_node 30 = .ok (.iload_n 2, 1) := by decide +kernel
theorem dX12_node_31 : decode cX12_node 31 = .ok (.tableswitch 68 0 4 #[33, 40, 47, 54, 61], 33) := by decide +kernel
theorem dX12_node_64 : decode cX12_node 64 = .ok (.aload_n 0, 1) := by decide +kernel
theorem dX12_node_65 : decode cX12_node 65 = .ok (.getfield 51, 3) := by decide +kernel
theorem dX12_node_68 : decode cX12_node 68 = .ok (.iload_n 1, 1) := by decide +kernel
theorem dX12_node_69 : decode cX12_node 69 = .ok (.iaload, 1) := by decide +kernel
theorem dX12_node_70 : decode cX12_node 70 = .ok (.ireturn, 1) := by decide +kernel
theorem dX12_node_71 : decode cX12_node 71 = .ok (.aload_n 0, 1) := by decide +kernel
theorem dX12_node_72 : decode cX12_node 72 = .ok (.getfield 54, 3) := by decide +kernel
theorem dX12_node_75 : decode cX12_node 75 = .ok (.iload_n 1, 1) := by decide +kernel
theorem dX12_node_76 : decode cX12_node 76 = .ok (.iaload, 1) := by decide +kernel
theorem dX12_node_77 : decode cX12_node 77 = .ok (.ireturn, 1) := by decide +kernel
theorem dX12_node_78 : decode cX12_node 78 = .ok (.aload_n 0, 1) := by decide +kernel
theorem dX12_node_79 : decode cX12_node 79 = .ok (.getfield 57, 3) := by decide +kernel
theorem dX12_node_82 : decode cX12_node 82 = .ok (.iload_n 1, 1) := by decide +kernel
theorem dX12_node_83 : decode cX12_node 83 = .ok (.iaload, 1) := by decide +kernel
theorem dX12_node_84 : decode cX12_node 84 = .ok (.ireturn, 1) := by decide +kernel
theorem dX12_node_85 : decode cX12_node 85 = .ok (.aload_n 0, 1) := by decide +kernel
theorem dX12_node_86 : decode cX12_node 86 = .ok (.getfield 60, 3) := by decide +kernel
theorem dX12_node_89 : decode cX12_node 89 = .ok (.iload_n 1, 1) := by decide +kernel
theorem dX12_node_90 : decode cX12_node 90 = .ok (.iaload, 1) := by decide +kernel
theorem dX12_node_91 : decode cX12_node 91 = .ok (.ireturn, 1) := by decide +kernel
theorem dX12_node_92 : decode cX12_node 92 = .ok (.aload_n 0, 1) := by decide +kernel
theorem dX12_node_93 : decode cX12_node 93 = .ok (.getfield 63, 3) := by decide +kernel
theorem dX12_node_96 : decode cX12_node 96 = .ok (.iload_n 1, 1) := by decide +kernel
theorem dX12_node_97 : decode cX12_node 97 = .ok (.iaload, 1) := by decide +kernel
theorem dX12_node_98 : decode cX12_node 98 = .ok (.ireturn, 1) := by decide +kernel
theorem dX12_node_99 : decode cX12_node 99 = .ok (.aload_n 0, 1) := by decide +kernel
theorem dX12_node_100 : decode cX12_node 100 = .ok (.getfield 69, 3) := by decide +kernel
theorem dX12_node_103 : decode cX12_node 103 = .ok (.bipush 6, 2) := by decide +kernel
theorem dX12_node_105 : decode cX12_node 105 = .ok (.iload_n 1, 1) := by decide +kernel
theorem dX12_node_106 : decode cX12_node 106 = .ok (.imul, 1) := by decide +kernel
theorem dX12_node_107 : decode cX12_node 107 = .ok (.iload_n 2, 1) := by decide +kernel
theorem dX12_node_108 : decode cX12_node 108 = .ok (.iadd, 1) := by decide +kernel
theorem dX12_node_109 : decode cX12_node 109 = .ok (.iconst 5, 1) := by decide +kernel
theorem dX12_node_110 : decode cX12_node 110 = .ok (.isub, 1) := by decide +kernel
theorem dX12_node_111 : decode cX12_node 111 = .ok (.iaload, 1) := by decide +kernel
theorem dX12_node_112 : decode cX12_node 112 = .ok (.ireturn, 1) := by decide +kernel
theorem dX12_order_0 : decode cX12_order 0 = .ok (.aload_n 0, 1) := by decide +kernel
theorem dX12_order_1 : decode cX12_order 1 = .ok (.getfield 158, 3) := by decide +kernel
theorem dX12_order_4 : decode cX12_order 4 = .ok (.ifCond .le 28, 3) := by decide +kernel
theorem dX12_order_7 : decode cX12_order 7 = .ok (.iload_n 1, 1) := by decide +kernel
theorem dX12_order_8 : decode cX12_order 8 = .ok (.i2l, 1) := by decide +kernel
theorem dX12_order_9 : decode cX12_order 9 = .ok (.lconst 0, 1) := by decide +kernel
theorem dX12_order_10 : decode cX12_order 10 = .ok (.aload_n 0, 1) := by decide +kernel
theorem dX12_order_11 : decode cX12_order 11 = .ok (.getfield 151, 3) := by decide +kernel
theorem dX12_order_14 : decode cX12_order 14 = .ok (.iconst 1, 1) := by decide +kernel
theorem dX12_order_15 : decode cX12_order 15 = .ok (.isub, 1) := by decide +kernel
theorem dX12_order_16 : decode cX12_order 16 = .ok (.i2l, 1) := by decide +kernel
theorem dX12_order_17 : decode cX12_order 17 = .ok (.invokestatic 140, 3) := by decide +kernel
theorem dX12_order_20 : decode cX12_order 20 = .ok (.ifCond .eq 12, 3) := by decide +kernel
theorem dX12_order_23 : decode cX12_order 23 = .ok (.aload_n 0, 1) := by decide +kernel
theorem dX12_order_24 : decode cX12_order 24 = .ok (.getfield 72, 3) := by decide +kernel
theorem dX12_order_27 : decode cX12_order 27 = .ok (.iload_n 1, 1) := by decide +kernel
theorem dX12_order_28 : decode cX12_order 28 = .ok (.iaload, 1) := by decide +kernel
theorem dX12_order_29 : decode cX12_order 29 = .ok (.goto 4, 3) := by decide +kernel
theorem dX12_order_32 : decode cX12_order 32 = .ok (.iconst (-1), 1) := by decide +kernel
theorem dX12_order_33 : decode cX12_order 33 = .ok (.ireturn, 1) := by decide +kernel
theorem dX12_isPixel_0 : decode cX12_isPixel 0 = .ok (.iload_n 1, 1) := by decide +kernel
theorem dX12_isPixel_1 : decode cX12_isPixel 1 = .ok (.i2l, 1) := by decide +kernel
theorem dX12_isPixel_2 : decode cX12_isPixel 2 = .ok (.lconst 0, 1) := by decide +kernel
theorem dX12_isPixel_3 : decode cX12_isPixel 3 = .ok (.aload_n 0, 1) := by decide +kernel
theorem dX12_isPixel_4 : decode cX12_isPixel 4 = .ok (.getfield 29, 3) := by decide +kernel
theorem dX12_isPixel_7 : decode cX12_isPixel 7 = .ok (.iconst 1, 1) := by decide +kernel
theorem dX12_isPixel_8 : decode cX12_isPixel 8 = .ok (.isub, 1) := by decide +kernel
theorem dX12_isPixel_9 : decode cX12_isPixel 9 = .ok (.i2l, 1) := by decide +kernel
theorem dX12_isPixel_10 : decode cX12_isPixel 10 = .ok (.invokestatic 140, 3) := by decide +kernel
theorem dX12_isPixel_13 : decode cX12_isPixel 13 = .ok (.ifCond .eq 23, 3) := by decide +kernel
theorem dX12_isPixel_16 : decode cX12_isPixel 16 = .ok (.iload_n 2, 1) := by decide +kernel
theorem dX12_isPixel_17 : decode cX12_isPixel 17 = .ok (.i2l, 1) := by decide +kernel
theorem dX12_isPixel_18 : decode cX12_isPixel 18 = .ok (.lconst 0, 1) := by decide +kernel
theorem dX12_isPixel_19 : decode cX12_isPixel 19 = .ok (.aload_n 0, 1) := by decide +kernel
theorem dX12_isPixel_20 : decode cX12_isPixel 20 = .ok (.getfield 33, 3) := by decide +kernel
theorem dX12_isPixel_23 : decode cX12_isPixel 23 = .ok (.iconst 1, 1) := by decide +kernel
theorem dX12_isPixel_24 : decode cX12_isPixel 24 = .ok (.isub, 1) := by decide +kernel
theorem dX12_isPixel_25 : decode cX12_isPixel 25 = .ok (.i2l, 1) := by decide +kernel
theorem dX12_isPixel_26 : decode cX12_isPixel 26 = .ok (.invokestatic 140, 3) := by decide +kernel
theorem dX12_isPixel_29 : decode cX12_isPixel 29 = .ok (.ifCond .eq 7, 3) := by decide +kernel
theorem dX12_isPixel_32 : decode cX12_isPixel 32 = .ok (.iconst 1, 1) := by decide +kernel
theorem dX12_isPixel_33 : decode cX12_isPixel 33 = .ok (.goto 4, 3) := by decide +kernel
theorem dX12_isPixel_36 : decode cX12_isPixel 36 = .ok (.iconst 0, 1) := by decide +kernel
theorem dX12_isPixel_37 : decode cX12_isPixel 37 = .ok (.ireturn, 1) := by decide +kernel
theorem dX12_rayOf_0 : decode cX12_rayOf 0 = .ok (.iconst 0, 1) := by decide +kernel
theorem dX12_rayOf_1 : decode cX12_rayOf 1 = .ok (.istore_n 3, 1) := by decide +kernel
theorem dX12_rayOf_2 : decode cX12_rayOf 2 = .ok (.iload_n 3, 1) := by decide +kernel
theorem dX12_rayOf_3 : decode cX12_rayOf 3 = .ok (.iconst 3, 1) := by decide +kernel
theorem dX12_rayOf_4 : decode cX12_rayOf 4 = .ok (.if_icmp .ge 70, 3) := by decide +kernel
theorem dX12_rayOf_7 : decode cX12_rayOf 7 = .ok (.aload_n 0, 1) := by decide +kernel
theorem dX12_rayOf_8 : decode cX12_rayOf 8 = .ok (.getfield 81, 3) := by decide +kernel
theorem dX12_rayOf_11 : decode cX12_rayOf 11 = .ok (.iload_n 3, 1) := by decide +kernel
theorem dX12_rayOf_12 : decode cX12_rayOf 12 = .ok (.aload_n 0, 1) := by decide +kernel
theorem dX12_rayOf_13 : decode cX12_rayOf 13 = .ok (.getfield 26, 3) := by decide +kernel
theorem dX12_rayOf_16 : decode cX12_rayOf 16 = .ok (.iload_n 3, 1) := by decide +kernel
theorem dX12_rayOf_17 : decode cX12_rayOf 17 = .ok (.laload, 1) := by decide +kernel
theorem dX12_rayOf_18 : decode cX12_rayOf 18 = .ok (.ldc2_w 161, 3) := by decide +kernel
theorem dX12_rayOf_21 : decode cX12_rayOf 21 = .ok (.iload_n 1, 1) := by decide +kernel
theorem dX12_rayOf_22 : decode cX12_rayOf 22 = .ok (.i2l, 1) := by decide +kernel
theorem dX12_rayOf_23 : decode cX12_rayOf 23 = .ok (.lmul, 1) := by decide +kernel
theorem dX12_rayOf_24 : decode cX12_rayOf 24 = .ok (.aload_n 0, 1) := by decide +kernel
theorem dX12_rayOf_25 : decode cX12_rayOf 25 = .ok (.getfield 29, 3) := by decide +kernel
theorem dX12_rayOf_28 : decode cX12_rayOf 28 = .ok (.i2l, 1) := by decide +kernel
theorem dX12_rayOf_29 : decode cX12_rayOf 29 = .ok (.lsub, 1) := by decide +kernel
theorem dX12_rayOf_30 : decode cX12_rayOf 30 = .ok (.lconst 1, 1) := by decide +kernel
theorem dX12_rayOf_31 : decode cX12_rayOf 31 = .ok (.ladd, 1) := by decide +kernel
theorem dX12_rayOf_32 : decode cX12_rayOf 32 = .ok (.aload_n 0, 1) := by decide +kernel
theorem dX12_rayOf_33 : decode cX12_rayOf 33 = .ok (.getfield 26, 3) := by decide +kernel
theorem dX12_rayOf_36 : decode cX12_rayOf 36 = .ok (.iconst 3, 1) := by decide +kernel
theorem dX12_rayOf_37 : decode cX12_rayOf 37 = .ok (.iload_n 3, 1) := by decide +kernel
theorem dX12_rayOf_38 : decode cX12_rayOf 38 = .ok (.iadd, 1) := by decide +kernel
theorem dX12_rayOf_39 : decode cX12_rayOf 39 = .ok (.laload, 1) := by decide +kernel
theorem dX12_rayOf_40 : decode cX12_rayOf 40 = .ok (.lmul, 1) := by decide +kernel
theorem dX12_rayOf_41 : decode cX12_rayOf 41 = .ok (.ladd, 1) := by decide +kernel
theorem dX12_rayOf_42 : decode cX12_rayOf 42 = .ok (.aload_n 0, 1) := by decide +kernel
theorem dX12_rayOf_43 : decode cX12_rayOf 43 = .ok (.getfield 33, 3) := by decide +kernel
theorem dX12_rayOf_46 : decode cX12_rayOf 46 = .ok (.i2l, 1) := by decide +kernel
theorem dX12_rayOf_47 : decode cX12_rayOf 47 = .ok (.lconst 1, 1) := by decide +kernel
theorem dX12_rayOf_48 : decode cX12_rayOf 48 = .ok (.lsub, 1) := by decide +kernel
theorem dX12_rayOf_49 : decode cX12_rayOf 49 = .ok (.ldc2_w 161, 3) := by decide +kernel
theorem dX12_rayOf_52 : decode cX12_rayOf 52 = .ok (.iload_n 2, 1) := by decide +kernel
theorem dX12_rayOf_53 : decode cX12_rayOf 53 = .ok (.i2l, 1) := by decide +kernel
theorem dX12_rayOf_54 : decode cX12_rayOf 54 = .ok (.lmul, 1) := by decide +kernel
theorem dX12_rayOf_55 : decode cX12_rayOf 55 = .ok (.lsub, 1) := by decide +kernel
theorem dX12_rayOf_56 : decode cX12_rayOf 56 = .ok (.aload_n 0, 1) := by decide +kernel
theorem dX12_rayOf_57 : decode cX12_rayOf 57 = .ok (.getfield 26, 3) := by decide +kernel
theorem dX12_rayOf_60 : decode cX12_rayOf 60 = .ok (.bipush 6, 2) := by decide +kernel
theorem dX12_rayOf_62 : decode cX12_rayOf 62 = .ok (.iload_n 3, 1) := by decide +kernel
theorem dX12_rayOf_63 : decode cX12_rayOf 63 = .ok (.iadd, 1) := by decide +kernel
theorem dX12_rayOf_64 : decode cX12_rayOf 64 = .ok (.laload, 1) := by decide +kernel
theorem dX12_rayOf_65 : decode cX12_rayOf 65 = .ok (.lmul, 1) := by decide +kernel
theorem dX12_rayOf_66 : decode cX12_rayOf 66 = .ok (.ladd, 1) := by decide +kernel
theorem dX12_rayOf_67 : decode cX12_rayOf 67 = .ok (.lastore, 1) := by decide +kernel
theorem dX12_rayOf_68 : decode cX12_rayOf 68 = .ok (.iinc 3 1, 3) := by decide +kernel
theorem dX12_rayOf_71 : decode cX12_rayOf 71 = .ok (.goto (-69), 3) := by decide +kernel
theorem dX12_rayOf_74 : decode cX12_rayOf 74 = .ok (.return_, 1) := by decide +kernel
theorem dX12_hits_0 : decode cX12_hits 0 = .ok (.aload_n 0, 1) := by decide +kernel
theorem dX12_hits_1 : decode cX12_hits 1 = .ok (.lconst 0, 1) := by decide +kernel
theorem dX12_hits_2 : decode cX12_hits 2 = .ok (.putfield 210, 3) := by decide +kernel
theorem dX12_hits_5 : decode cX12_hits 5 = .ok (.aload_n 0, 1) := by decide +kernel
theorem dX12_hits_6 : decode cX12_hits 6 = .ok (.lconst 0, 1) := by decide +kernel
theorem dX12_hits_7 : decode cX12_hits 7 = .ok (.putfield 214, 3) := by decide +kernel
theorem dX12_hits_10 : decode cX12_hits 10 = .ok (.iconst 0, 1) := by decide +kernel
theorem dX12_hits_11 : decode cX12_hits 11 = .ok (.istore_n 2, 1) := by decide +kernel
theorem dX12_hits_12 : decode cX12_hits 12 = .ok (.iload_n 2, 1) := by decide +kernel
theorem dX12_hits_13 : decode cX12_hits 13 = .ok (.iconst 3, 1) := by decide +kernel
theorem dX12_hits_14 : decode cX12_hits 14 = .ok (.if_icmp .ge 74, 3) := by decide +kernel
theorem dX12_hits_17 : decode cX12_hits 17 = .ok (.aload_n 0, 1) := by decide +kernel
theorem dX12_hits_18 : decode cX12_hits 18 = .ok (.dup, 1) := by decide +kernel
theorem dX12_hits_19 : decode cX12_hits 19 = .ok (.getfield 210, 3) := by decide +kernel
theorem dX12_hits_22 : decode cX12_hits 22 = .ok (.aload_n 0, 1) := by decide +kernel
theorem dX12_hits_23 : decode cX12_hits 23 = .ok (.getfield 90, 3) := by decide +kernel
theorem dX12_hits_26 : decode cX12_hits 26 = .ok (.iload_n 2, 1) := by decide +kernel
theorem dX12_hits_27 : decode cX12_hits 27 = .ok (.laload, 1) := by decide +kernel
theorem dX12_hits_28 : decode cX12_hits 28 = .ok (.aload_n 0, 1) := by decide +kernel
theorem dX12_hits_29 : decode cX12_hits 29 = .ok (.getfield 16, 3) := by decide +kernel
theorem dX12_hits_32 : decode cX12_hits 32 = .ok (.iconst 3, 1) := by decide +kernel
theorem dX12_hits_33 : decode cX12_hits 33 = .ok (.iload_n 1, 1) := by decide +kernel
theorem dX12_hits_34 : decode cX12_hits 34 = .ok (.imul, 1) := by decide +kernel
theorem dX12_hits_35 : decode cX12_hits 35 = .ok (.iload_n 2, 1) := by decide +kernel
theorem dX12_hits_36 : decode cX12_hits 36 = .ok (.iadd, 1) := by decide +kernel
theorem dX12_hits_37 : decode cX12_hits 37 = .ok (.laload, 1) := by decide +kernel
theorem dX12_hits_38 : decode cX12_hits 38 = .ok (.lmul, 1) := by decide +kernel
theorem dX12_hits_39 : decode cX12_hits 39 = .ok (.ladd, 1) := by decide +kernel
theorem dX12_hits_40 : decode cX12_hits 40 = .ok (.putfield 210, 3) := by decide +kernel
theorem dX12_hits_43 : decode cX12_hits 43 = .ok (.aload_n 0, 1) := by decide +kernel
theorem dX12_hits_44 : decode cX12_hits 44 = .ok (.dup, 1) := by decide +kernel
theorem dX12_hits_45 : decode cX12_hits 45 = .ok (.getfield 214, 3) := by decide +kernel
theorem dX12_hits_48 : decode cX12_hits 48 = .ok (.aload_n 0, 1) := by decide +kernel
theorem dX12_hits_49 : decode cX12_hits 49 = .ok (.getfield 13, 3) := by decide +kernel
theorem dX12_hits_52 : decode cX12_hits 52 = .ok (.bipush 9, 2) := by decide +kernel
theorem dX12_hits_54 : decode cX12_hits 54 = .ok (.iload_n 1, 1) := by decide +kernel
theorem dX12_hits_55 : decode cX12_hits 55 = .ok (.imul, 1) := by decide +kernel
theorem dX12_hits_56 : decode cX12_hits 56 = .ok (.iload_n 2, 1) := by decide +kernel
theorem dX12_hits_57 : decode cX12_hits 57 = .ok (.iadd, 1) := by decide +kernel
theorem dX12_hits_58 : decode cX12_hits 58 = .ok (.iaload, 1) := by decide +kernel
theorem dX12_hits_59 : decode cX12_hits 59 = .ok (.i2l, 1) := by decide +kernel
theorem dX12_hits_60 : decode cX12_hits 60 = .ok (.aload_n 0, 1) := by decide +kernel
theorem dX12_hits_61 : decode cX12_hits 61 = .ok (.getfield 87, 3) := by decide +kernel
theorem dX12_hits_64 : decode cX12_hits 64 = .ok (.iload_n 2, 1) := by decide +kernel
theorem dX12_hits_65 : decode cX12_hits 65 = .ok (.laload, 1) := by decide +kernel
theorem dX12_hits_66 : decode cX12_hits 66 = .ok (.lsub, 1) := by decide +kernel
theorem dX12_hits_67 : decode cX12_hits 67 = .ok (.aload_n 0, 1) := by decide +kernel
theorem dX12_hits_68 : decode cX12_hits 68 = .ok (.getfield 16, 3) := by decide +kernel
theorem dX12_hits_71 : decode cX12_hits 71 = .ok (.iconst 3, 1) := by decide +kernel
theorem dX12_hits_72 : decode cX12_hits 72 = .ok (.iload_n 1, 1) := by decide +kernel
theorem dX12_hits_73 : decode cX12_hits 73 = .ok (.imul, 1) := by decide +kernel
theorem dX12_hits_74 : decode cX12_hits 74 = .ok (.iload_n 2, 1) := by decide +kernel
theorem dX12_hits_75 : decode cX12_hits 75 = .ok (.iadd, 1) := by decide +kernel
theorem dX12_hits_76 : decode cX12_hits 76 = .ok (.laload, 1) := by decide +kernel
theorem dX12_hits_77 : decode cX12_hits 77 = .ok (.lmul, 1) := by decide +kernel
theorem dX12_hits_78 : decode cX12_hits 78 = .ok (.ladd, 1) := by decide +kernel
theorem dX12_hits_79 : decode cX12_hits 79 = .ok (.putfield 214, 3) := by decide +kernel
theorem dX12_hits_82 : decode cX12_hits 82 = .ok (.iinc 2 1, 3) := by decide +kernel
theorem dX12_hits_85 : decode cX12_hits 85 = .ok (.goto (-73), 3) := by decide +kernel
theorem dX12_hits_88 : decode cX12_hits 88 = .ok (.aload_n 0, 1) := by decide +kernel
theorem dX12_hits_89 : decode cX12_hits 89 = .ok (.getfield 210, 3) := by decide +kernel
theorem dX12_hits_92 : decode cX12_hits 92 = .ok (.lconst 0, 1) := by decide +kernel
theorem dX12_hits_93 : decode cX12_hits 93 = .ok (.lcmp, 1) := by decide +kernel
theorem dX12_hits_94 : decode cX12_hits 94 = .ok (.ifCond .eq 43, 3) := by decide +kernel
theorem dX12_hits_97 : decode cX12_hits 97 = .ok (.aload_n 0, 1) := by decide +kernel
theorem dX12_hits_98 : decode cX12_hits 98 = .ok (.getfield 214, 3) := by decide +kernel
theorem dX12_hits_101 : decode cX12_hits 101 = .ok (.lconst 0, 1) := by decide +kernel
theorem dX12_hits_102 : decode cX12_hits 102 = .ok (.lcmp, 1) := by decide +kernel
theorem dX12_hits_103 : decode cX12_hits 103 = .ok (.ifCond .eq 34, 3) := by decide +kernel
theorem dX12_hits_106 : decode cX12_hits 106 = .ok (.aload_n 0, 1) := by decide +kernel
theorem dX12_hits_107 : decode cX12_hits 107 = .ok (.getfield 214, 3) := by decide +kernel
theorem dX12_hits_110 : decode cX12_hits 110 = .ok (.lconst 0, 1) := by decide +kernel
theorem dX12_hits_111 : decode cX12_hits 111 = .ok (.lcmp, 1) := by decide +kernel
theorem dX12_hits_112 : decode cX12_hits 112 = .ok (.ifCond .le 7, 3) := by decide +kernel
theorem dX12_hits_115 : decode cX12_hits 115 = .ok (.iconst 1, 1) := by decide +kernel
theorem dX12_hits_116 : decode cX12_hits 116 = .ok (.goto 4, 3) := by decide +kernel
theorem dX12_hits_119 : decode cX12_hits 119 = .ok (.iconst 0, 1) := by decide +kernel
theorem dX12_hits_120 : decode cX12_hits 120 = .ok (.aload_n 0, 1) := by decide +kernel
theorem dX12_hits_121 : decode cX12_hits 121 = .ok (.getfield 210, 3) := by decide +kernel
theorem dX12_hits_124 : decode cX12_hits 124 = .ok (.lconst 0, 1) := by decide +kernel
theorem dX12_hits_125 : decode cX12_hits 125 = .ok (.lcmp, 1) := by decide +kernel
theorem dX12_hits_126 : decode cX12_hits 126 = .ok (.ifCond .le 7, 3) := by decide +kernel
theorem dX12_hits_129 : decode cX12_hits 129 = .ok (.iconst 1, 1) := by decide +kernel
theorem dX12_hits_130 : decode cX12_hits 130 = .ok (.goto 4, 3) := by decide +kernel
theorem dX12_hits_133 : decode cX12_hits 133 = .ok (.iconst 0, 1) := by decide +kernel
theorem dX12_hits_134 : decode cX12_hits 134 = .ok (.if_icmp .eq 5, 3) := by decide +kernel
theorem dX12_hits_137 : decode cX12_hits 137 = .ok (.iconst 0, 1) := by decide +kernel
theorem dX12_hits_138 : decode cX12_hits 138 = .ok (.ireturn, 1) := by decide +kernel
theorem dX12_hits_139 : decode cX12_hits 139 = .ok (.iconst 0, 1) := by decide +kernel
theorem dX12_hits_140 : decode cX12_hits 140 = .ok (.istore_n 2, 1) := by decide +kernel
theorem dX12_hits_141 : decode cX12_hits 141 = .ok (.iload_n 2, 1) := by decide +kernel
theorem dX12_hits_142 : decode cX12_hits 142 = .ok (.bipush 9, 2) := by decide +kernel
theorem dX12_hits_144 : decode cX12_hits 144 = .ok (.if_icmp .ge 36, 3) := by decide +kernel
theorem dX12_hits_147 : decode cX12_hits 147 = .ok (.aload_n 0, 1) := by decide +kernel
theorem dX12_hits_148 : decode cX12_hits 148 = .ok (.getfield 93, 3) := by decide +kernel
theorem dX12_hits_151 : decode cX12_hits 151 = .ok (.iload_n 2, 1) := by decide +kernel
theorem dX12_hits_152 : decode cX12_hits 152 = .ok (.aload_n 0, 1) := by decide +kernel
theorem dX12_hits_153 : decode cX12_hits 153 = .ok (.getfield 13, 3) := by decide +kernel
theorem dX12_hits_156 : decode cX12_hits 156 = .ok (.bipush 9, 2) := by decide +kernel
theorem dX12_hits_158 : decode cX12_hits 158 = .ok (.iload_n 1, 1) := by decide +kernel
theorem dX12_hits_159 : decode cX12_hits 159 = .ok (.imul, 1) := by decide +kernel
theorem dX12_hits_160 : decode cX12_hits 160 = .ok (.iload_n 2, 1) := by decide +kernel
theorem dX12_hits_161 : decode cX12_hits 161 = .ok (.iadd, 1) := by decide +kernel
theorem dX12_hits_162 : decode cX12_hits 162 = .ok (.iaload, 1) := by decide +kernel
theorem dX12_hits_163 : decode cX12_hits 163 = .ok (.i2l, 1) := by decide +kernel
theorem dX12_hits_164 : decode cX12_hits 164 = .ok (.aload_n 0, 1) := by decide +kernel
theorem dX12_hits_165 : decode cX12_hits 165 = .ok (.getfield 87, 3) := by decide +kernel
theorem dX12_hits_168 : decode cX12_hits 168 = .ok (.iload_n 2, 1) := by decide +kernel
theorem dX12_hits_169 : decode cX12_hits 169 = .ok (.iconst 3, 1) := by decide +kernel
theorem dX12_hits_170 : decode cX12_hits 170 = .ok (.irem, 1) := by decide +kernel
theorem dX12_hits_171 : decode cX12_hits 171 = .ok (.laload, 1) := by decide +kernel
theorem dX12_hits_172 : decode cX12_hits 172 = .ok (.lsub, 1) := by decide +kernel
theorem dX12_hits_173 : decode cX12_hits 173 = .ok (.lastore, 1) := by decide +kernel
theorem dX12_hits_174 : decode cX12_hits 174 = .ok (.iinc 2 1, 3) := by decide +kernel
theorem dX12_hits_177 : decode cX12_hits 177 = .ok (.goto (-36), 3) := by decide +kernel
theorem dX12_hits_180 : decode cX12_hits 180 = .ok (.iconst 1, 1) := by decide +kernel
theorem dX12_hits_181 : decode cX12_hits 181 = .ok (.istore_n 2, 1) := by decide +kernel
theorem dX12_hits_182 : decode cX12_hits 182 = .ok (.iconst 0, 1) := by decide +kernel
theorem dX12_hits_183 : decode cX12_hits 183 = .ok (.istore_n 3, 1) := by decide +kernel
theorem dX12_hits_184 : decode cX12_hits 184 = .ok (.iload_n 3, 1) := by decide +kernel
theorem dX12_hits_185 : decode cX12_hits 185 = .ok (.iconst 3, 1) := by decide +kernel
theorem dX12_hits_186 : decode cX12_hits 186 = .ok (.if_icmp .ge 87, 3) := by decide +kernel
theorem dX12_hits_189 : decode cX12_hits 189 = .ok (.aload_n 0, 1) := by decide +kernel
theorem dX12_hits_190 : decode cX12_hits 190 = .ok (.getfield 84, 3) := by decide +kernel
theorem dX12_hits_193 : decode cX12_hits 193 = .ok (.iload_n 3, 1) := by decide +kernel
theorem dX12_hits_194 : decode cX12_hits 194 = .ok (.aload_n 0, 1) := by decide +kernel
theorem dX12_hits_195 : decode cX12_hits 195 = .ok (.iconst 3, 1) := by decide +kernel
theorem dX12_hits_196 : decode cX12_hits 196 = .ok (.iload_n 3, 1) := by decide +kernel
theorem dX12_hits_197 : decode cX12_hits 197 = .ok (.iconst 1, 1) := by decide +kernel
