theorem dX12_meets_209 : decode cX12_meets 209 = .ok (.iload 5, 2) := by decide +kernel
theorem dX12_meets_211 : decode cX12_meets 211 = .ok (.goto 5, 3) := by decide +kernel
theorem dX12_meets_214 : decode cX12_meets 214 = .ok (.iload 6, 2) := by decide +kernel
theorem dX12_meets_216 : decode cX12_meets 216 = .ok (.ireturn, 1) := by decide +kernel
theorem dX12_sideOf_0 : decode cX12_sideOf 0 = .ok (.lconst 0, 1) := by decide +kernel
theorem dX12_sideOf_1 : decode cX12_sideOf 1 = .ok (.lstore 4, 2) := by decide +kernel
theorem dX12_sideOf_3 : decode cX12_sideOf 3 = .ok (.iconst 0, 1) := by decide +kernel
theorem dX12_sideOf_4 : decode cX12_sideOf 4 = .ok (.istore 6, 2) := by decide +kernel
theorem dX12_sideOf_6 : decode cX12_sideOf 6 = .ok (.iload 6, 2) := by decide +kernel
theorem dX12_sideOf_8 : decode cX12_sideOf 8 = .ok (.iconst 3, 1) := by decide +kernel
theorem dX12_sideOf_9 : decode cX12_sideOf 9 = .ok (.if_icmp .ge 46, 3) := by decide +kernel
theorem dX12_sideOf_12 : decode cX12_sideOf 12 = .ok (.lload 4, 2) := by decide +kernel
theorem dX12_sideOf_14 : decode cX12_sideOf 14 = .ok (.aload_n 2, 1) := by decide +kernel
theorem dX12_sideOf_15 : decode cX12_sideOf 15 = .ok (.iload_n 3, 1) := by decide +kernel
theorem dX12_sideOf_16 : decode cX12_sideOf 16 = .ok (.iload 6, 2) := by decide +kernel
theorem dX12_sideOf_18 : decode cX12_sideOf 18 = .ok (.iadd, 1) := by decide +kernel
theorem dX12_sideOf_19 : decode cX12_sideOf 19 = .ok (.iaload, 1) := by decide +kernel
theorem dX12_sideOf_20 : decode cX12_sideOf 20 = .ok (.aload_n 0, 1) := by decide +kernel
theorem dX12_sideOf_21 : decode cX12_sideOf 21 = .ok (.getfield 13, 3) := by decide +kernel
theorem dX12_sideOf_24 : decode cX12_sideOf 24 = .ok (.bipush 9, 2) := by decide +kernel
theorem dX12_sideOf_26 : decode cX12_sideOf 26 = .ok (.iload_n 1, 1) := by decide +kernel
theorem dX12_sideOf_27 : decode cX12_sideOf 27 = .ok (.imul, 1) := by decide +kernel
theorem dX12_sideOf_28 : decode cX12_sideOf 28 = .ok (.iload 6, 2) := by decide +kernel
theorem dX12_sideOf_30 : decode cX12_sideOf 30 = .ok (.iadd, 1) := by decide +kernel
theorem dX12_sideOf_31 : decode cX12_sideOf 31 = .ok (.iaload, 1) := by decide +kernel
theorem dX12_sideOf_32 : decode cX12_sideOf 32 = .ok (.isub, 1) := by decide +kernel
theorem dX12_sideOf_33 : decode cX12_sideOf 33 = .ok (.i2l, 1) := by decide +kernel
theorem dX12_sideOf_34 : decode cX12_sideOf 34 = .ok (.aload_n 0, 1) := by decide +kernel
theorem dX12_sideOf_35 : decode cX12_sideOf 35 = .ok (.getfield 16, 3) := by decide +kernel
theorem dX12_sideOf_38 : decode cX12_sideOf 38 = .ok (.iconst 3, 1) := by decide +kernel
theorem dX12_sideOf_39 : decode cX12_sideOf 39 = .ok (.iload_n 1, 1) := by decide +kernel
theorem dX12_sideOf_40 : decode cX12_sideOf 40 = .ok (.imul, 1) := by decide +kernel
theorem dX12_sideOf_41 : decode cX12_sideOf 41 = .ok (.iload 6, 2) := by decide +kernel
theorem dX12_sideOf_43 : decode cX12_sideOf 43 = .ok (.iadd, 1) := by decide +kernel
theorem dX12_sideOf_44 : decode cX12_sideOf 44 = .ok (.laload, 1) := by decide +kernel
theorem dX12_sideOf_45 : decode cX12_sideOf 45 = .ok (.lmul, 1) := by decide +kernel
theorem dX12_sideOf_46 : decode cX12_sideOf 46 = .ok (.ladd, 1) := by decide +kernel
theorem dX12_sideOf_47 : decode cX12_sideOf 47 = .ok (.lstore 4, 2) := by decide +kernel
theorem dX12_sideOf_49 : decode cX12_sideOf 49 = .ok (.iinc 6 1, 3) := by decide +kernel
theorem dX12_sideOf_52 : decode cX12_sideOf 52 = .ok (.goto (-46), 3) := by decide +kernel
theorem dX12_sideOf_55 : decode cX12_sideOf 55 = .ok (.lload 4, 2) := by decide +kernel
theorem dX12_sideOf_57 : decode cX12_sideOf 57 = .ok (.lconst 0, 1) := by decide +kernel
theorem dX12_sideOf_58 : decode cX12_sideOf 58 = .ok (.lcmp, 1) := by decide +kernel
theorem dX12_sideOf_59 : decode cX12_sideOf 59 = .ok (.ifCond .le 7, 3) := by decide +kernel
theorem dX12_sideOf_62 : decode cX12_sideOf 62 = .ok (.iconst 1, 1) := by decide +kernel
theorem dX12_sideOf_63 : decode cX12_sideOf 63 = .ok (.goto 15, 3) := by decide +kernel
theorem dX12_sideOf_66 : decode cX12_sideOf 66 = .ok (.lload 4, 2) := by decide +kernel
theorem dX12_sideOf_68 : decode cX12_sideOf 68 = .ok (.lconst 0, 1) := by decide +kernel
theorem dX12_sideOf_69 : decode cX12_sideOf 69 = .ok (.lcmp, 1) := by decide +kernel
theorem dX12_sideOf_70 : decode cX12_sideOf 70 = .ok (.ifCond .ge 7, 3) := by decide +kernel
theorem dX12_sideOf_73 : decode cX12_sideOf 73 = .ok (.iconst (-1), 1) := by decide +kernel
theorem dX12_sideOf_74 : decode cX12_sideOf 74 = .ok (.goto 4, 3) := by decide +kernel
theorem dX12_sideOf_77 : decode cX12_sideOf 77 = .ok (.iconst 0, 1) := by decide +kernel
theorem dX12_sideOf_78 : decode cX12_sideOf 78 = .ok (.ireturn, 1) := by decide +kernel
theorem dX12_isTowards_0 : decode cX12_isTowards 0 = .ok (.aload_n 0, 1) := by decide +kernel
theorem dX12_isTowards_1 : decode cX12_isTowards 1 = .ok (.aload_n 0, 1) := by decide +kernel
theorem dX12_isTowards_2 : decode cX12_isTowards 2 = .ok (.getfield 228, 3) := by decide +kernel
theorem dX12_isTowards_5 : decode cX12_isTowards 5 = .ok (.aload_n 0, 1) := by decide +kernel
theorem dX12_isTowards_6 : decode cX12_isTowards 6 = .ok (.getfield 23, 3) := by decide +kernel
theorem dX12_isTowards_9 : decode cX12_isTowards 9 = .ok (.iconst 0, 1) := by decide +kernel
theorem dX12_isTowards_10 : decode cX12_isTowards 10 = .ok (.invokevirtual 265, 3) := by decide +kernel
theorem dX12_isTowards_13 : decode cX12_isTowards 13 = .ok (.istore_n 2, 1) := by decide +kernel
theorem dX12_isTowards_14 : decode cX12_isTowards 14 = .ok (.iload_n 2, 1) := by decide +kernel
theorem dX12_isTowards_15 : decode cX12_isTowards 15 = .ok (.ifCond .eq 26, 3) := by decide +kernel
theorem dX12_isTowards_18 : decode cX12_isTowards 18 = .ok (.iload_n 2, 1) := by decide +kernel
theorem dX12_isTowards_19 : decode cX12_isTowards 19 = .ok (.aload_n 0, 1) := by decide +kernel
theorem dX12_isTowards_20 : decode cX12_isTowards 20 = .ok (.aload_n 0, 1) := by decide +kernel
theorem dX12_isTowards_21 : decode cX12_isTowards 21 = .ok (.getfield 228, 3) := by decide +kernel
theorem dX12_isTowards_24 : decode cX12_isTowards 24 = .ok (.aload_n 0, 1) := by decide +kernel
theorem dX12_isTowards_25 : decode cX12_isTowards 25 = .ok (.getfield 36, 3) := by decide +kernel
theorem dX12_isTowards_28 : decode cX12_isTowards 28 = .ok (.iconst 3, 1) := by decide +kernel
theorem dX12_isTowards_29 : decode cX12_isTowards 29 = .ok (.iload_n 1, 1) := by decide +kernel
theorem dX12_isTowards_30 : decode cX12_isTowards 30 = .ok (.imul, 1) := by decide +kernel
theorem dX12_isTowards_31 : decode cX12_isTowards 31 = .ok (.invokevirtual 265, 3) := by decide +kernel
theorem dX12_isTowards_34 : decode cX12_isTowards 34 = .ok (.if_icmp .ne 7, 3) := by decide +kernel
theorem dX12_isTowards_37 : decode cX12_isTowards 37 = .ok (.iconst 1, 1) := by decide +kernel
theorem dX12_isTowards_38 : decode cX12_isTowards 38 = .ok (.goto 4, 3) := by decide +kernel
theorem dX12_isTowards_41 : decode cX12_isTowards 41 = .ok (.iconst 0, 1) := by decide +kernel
theorem dX12_isTowards_42 : decode cX12_isTowards 42 = .ok (.ireturn, 1) := by decide +kernel
theorem dX12_between_0 : decode cX12_between 0 = .ok (.aload_n 0, 1) := by decide +kernel
theorem dX12_between_1 : decode cX12_between 1 = .ok (.invokevirtual 254, 3) := by decide +kernel
theorem dX12_between_4 : decode cX12_between 4 = .ok (.iconst 0, 1) := by decide +kernel
theorem dX12_between_5 : decode cX12_between 5 = .ok (.istore_n 2, 1) := by decide +kernel
theorem dX12_between_6 : decode cX12_between 6 = .ok (.iload_n 2, 1) := by decide +kernel
theorem dX12_between_7 : decode cX12_between 7 = .ok (.aload_n 0, 1) := by decide +kernel
theorem dX12_between_8 : decode cX12_between 8 = .ok (.getfield 151, 3) := by decide +kernel
theorem dX12_between_11 : decode cX12_between 11 = .ok (.if_icmp .ge 142, 3) := by decide +kernel
theorem dX12_between_14 : decode cX12_between 14 = .ok (.iconst 0, 1) := by decide +kernel
theorem dX12_between_15 : decode cX12_between 15 = .ok (.istore_n 3, 1) := by decide +kernel
theorem dX12_between_16 : decode cX12_between 16 = .ok (.iload_n 3, 1) := by decide +kernel
theorem dX12_between_17 : decode cX12_between 17 = .ok (.iconst 3, 1) := by decide +kernel
theorem dX12_between_18 : decode cX12_between 18 = .ok (.if_icmp .ge 52, 3) := by decide +kernel
theorem dX12_between_21 : decode cX12_between 21 = .ok (.aload_n 0, 1) := by decide +kernel
theorem dX12_between_22 : decode cX12_between 22 = .ok (.getfield 87, 3) := by decide +kernel
theorem dX12_between_25 : decode cX12_between 25 = .ok (.iload_n 3, 1) := by decide +kernel
theorem dX12_between_26 : decode cX12_between 26 = .ok (.aload_n 0, 1) := by decide +kernel
theorem dX12_between_27 : decode cX12_between 27 = .ok (.getfield 36, 3) := by decide +kernel
theorem dX12_between_30 : decode cX12_between 30 = .ok (.iconst 3, 1) := by decide +kernel
theorem dX12_between_31 : decode cX12_between 31 = .ok (.iload_n 1, 1) := by decide +kernel
theorem dX12_between_32 : decode cX12_between 32 = .ok (.imul, 1) := by decide +kernel
theorem dX12_between_33 : decode cX12_between 33 = .ok (.iload_n 3, 1) := by decide +kernel
theorem dX12_between_34 : decode cX12_between 34 = .ok (.iadd, 1) := by decide +kernel
theorem dX12_between_35 : decode cX12_between 35 = .ok (.iaload, 1) := by decide +kernel
theorem dX12_between_36 : decode cX12_between 36 = .ok (.i2l, 1) := by decide +kernel
theorem dX12_between_37 : decode cX12_between 37 = .ok (.lastore, 1) := by decide +kernel
theorem dX12_between_38 : decode cX12_between 38 = .ok (.aload_n 0, 1) := by decide +kernel
theorem dX12_between_39 : decode cX12_between 39 = .ok (.getfield 90, 3) := by decide +kernel
theorem dX12_between_42 : decode cX12_between 42 = .ok (.iload_n 3, 1) := by decide +kernel
theorem dX12_between_43 : decode cX12_between 43 = .ok (.aload_n 0, 1) := by decide +kernel
theorem dX12_between_44 : decode cX12_between 44 = .ok (.getfield 102, 3) := by decide +kernel
theorem dX12_between_47 : decode cX12_between 47 = .ok (.iload_n 3, 1) := by decide +kernel
theorem dX12_between_48 : decode cX12_between 48 = .ok (.laload, 1) := by decide +kernel
theorem dX12_between_49 : decode cX12_between 49 = .ok (.aload_n 0, 1) := by decide +kernel
theorem dX12_between_50 : decode cX12_between 50 = .ok (.getfield 87, 3) := by decide +kernel
theorem dX12_between_53 : decode cX12_between 53 = .ok (.iload_n 3, 1) := by decide +kernel
theorem dX12_between_54 : decode cX12_between 54 = .ok (.laload, 1) := by decide +kernel
theorem dX12_between_55 : decode cX12_between 55 = .ok (.aload_n 0, 1) := by decide +kernel
theorem dX12_between_56 : decode cX12_between 56 = .ok (.getfield 102, 3) := by decide +kernel
theorem dX12_between_59 : decode cX12_between 59 = .ok (.iconst 3, 1) := by decide +kernel
theorem dX12_between_60 : decode cX12_between 60 = .ok (.laload, 1) := by decide +kernel
theorem dX12_between_61 : decode cX12_between 61 = .ok (.lmul, 1) := by decide +kernel
theorem dX12_between_62 : decode cX12_between 62 = .ok (.lsub, 1) := by decide +kernel
theorem dX12_between_63 : decode cX12_between 63 = .ok (.lastore, 1) := by decide +kernel
theorem dX12_between_64 : decode cX12_between 64 = .ok (.iinc 3 1, 3) := by decide +kernel
theorem dX12_between_67 : decode cX12_between 67 = .ok (.goto (-51), 3) := by decide +kernel
theorem dX12_between_70 : decode cX12_between 70 = .ok (.iload_n 2, 1) := by decide +kernel
theorem dX12_between_71 : decode cX12_between 71 = .ok (.aload_n 0, 1) := by decide +kernel
theorem dX12_between_72 : decode cX12_between 72 = .ok (.getfield 228, 3) := by decide +kernel
theorem dX12_between_75 : decode cX12_between 75 = .ok (.if_icmp .eq 72, 3) := by decide +kernel
theorem dX12_between_78 : decode cX12_between 78 = .ok (.aload_n 0, 1) := by decide +kernel
theorem dX12_between_79 : decode cX12_between 79 = .ok (.iload_n 2, 1) := by decide +kernel
theorem dX12_between_80 : decode cX12_between 80 = .ok (.invokevirtual 221, 3) := by decide +kernel
theorem dX12_between_83 : decode cX12_between 83 = .ok (.ifCond .eq 64, 3) := by decide +kernel
theorem dX12_between_86 : decode cX12_between 86 = .ok (.aload_n 0, 1) := by decide +kernel
theorem dX12_between_87 : decode cX12_between 87 = .ok (.getfield 214, 3) := by decide +kernel
theorem dX12_between_90 : decode cX12_between 90 = .ok (.lconst 0, 1) := by decide +kernel
theorem dX12_between_91 : decode cX12_between 91 = .ok (.lcmp, 1) := by decide +kernel
theorem dX12_between_92 : decode cX12_between 92 = .ok (.ifCond .ge 11, 3) := by decide +kernel
theorem dX12_between_95 : decode cX12_between 95 = .ok (.aload_n 0, 1) := by decide +kernel
theorem dX12_between_96 : decode cX12_between 96 = .ok (.getfield 214, 3) := by decide +kernel
theorem dX12_between_99 : decode cX12_between 99 = .ok (.lneg, 1) := by decide +kernel
theorem dX12_between_100 : decode cX12_between 100 = .ok (.goto 7, 3) := by decide +kernel
theorem dX12_between_103 : decode cX12_between 103 = .ok (.aload_n 0, 1) := by decide +kernel
theorem dX12_between_104 : decode cX12_between 104 = .ok (.getfield 214, 3) := by decide +kernel
theorem dX12_between_107 : decode cX12_between 107 = .ok (.lstore_n 3, 1) := by decide +kernel
theorem dX12_between_108 : decode cX12_between 108 = .ok (.aload_n 0, 1) := by decide +kernel
theorem dX12_between_109 : decode cX12_between 109 = .ok (.getfield 210, 3) := by decide +kernel
theorem dX12_between_112 : decode cX12_between 112 = .ok (.lconst 0, 1) := by decide +kernel
theorem dX12_between_113 : decode cX12_between 113 = .ok (.lcmp, 1) := by decide +kernel
theorem dX12_between_114 : decode cX12_between 114 = .ok (.ifCond .ge 11, 3) := by decide +kernel
theorem dX12_between_117 : decode cX12_between 117 = .ok (.aload_n 0, 1) := by decide +kernel
theorem dX12_between_118 : decode cX12_between 118 = .ok (.getfield 210, 3) := by decide +kernel
theorem dX12_between_121 : decode cX12_between 121 = .ok (.lneg, 1) := by decide +kernel
theorem dX12_between_122 : decode cX12_between 122 = .ok (.goto 7, 3) := by decide +kernel
theorem dX12_between_125 : decode cX12_between 125 = .ok (.aload_n 0, 1) := by decide +kernel
theorem dX12_between_126 : decode cX12_between 126 = .ok (.getfield 210, 3) := by decide +kernel
theorem dX12_between_129 : decode cX12_between 129 = .ok (.lstore 5, 2) := by decide +kernel
theorem dX12_between_131 : decode cX12_between 131 = .ok (.lload_n 3, 1) := by decide +kernel
theorem dX12_between_132 : decode cX12_between 132 = .ok (.aload_n 0, 1) := by decide +kernel
theorem dX12_between_133 : decode cX12_between 133 = .ok (.getfield 102, 3) := by decide +kernel
theorem dX12_between_136 : decode cX12_between 136 = .ok (.iconst 3, 1) := by decide +kernel
theorem dX12_between_137 : decode cX12_between 137 = .ok (.laload, 1) := by decide +kernel
theorem dX12_between_138 : decode cX12_between 138 = .ok (.lmul, 1) := by decide +kernel
theorem dX12_between_139 : decode cX12_between 139 = .ok (.lload 5, 2) := by decide +kernel
theorem dX12_between_141 : decode cX12_between 141 = .ok (.lcmp, 1) := by decide +kernel
theorem dX12_between_142 : decode cX12_between 142 = .ok (.ifCond .ge 5, 3) := by decide +kernel
theorem dX12_between_145 : decode cX12_between 145 = .ok (.iload_n 2, 1) := by decide +kernel
theorem dX12_between_146 : decode cX12_between 146 = .ok (.ireturn, 1) := by decide +kernel
theorem dX12_between_147 : decode cX12_between 147 = .ok (.iinc 2 1, 3) := by decide +kernel
theorem dX12_between_150 : decode cX12_between 150 = .ok (.goto (-144), 3) := by decide +kernel
theorem dX12_between_153 : decode cX12_between 153 = .ok (.bipush (-2), 2) := by decide +kernel
theorem dX12_between_155 : decode cX12_between 155 = .ok (.ireturn, 1) := by decide +kernel
theorem dX12_isNumber_0 : decode cX12_isNumber 0 = .ok (.iconst 0, 1) := by decide +kernel
theorem dX12_isNumber_1 : decode cX12_isNumber 1 = .ok (.istore_n 3, 1) := by decide +kernel
theorem dX12_isNumber_2 : decode cX12_isNumber 2 = .ok (.iload_n 3, 1) := by decide +kernel
theorem dX12_isNumber_3 : decode cX12_isNumber 3 = .ok (.bipush 8, 2) := by decide +kernel
theorem dX12_isNumber_5 : decode cX12_isNumber 5 = .ok (.if_icmp .ge 31, 3) := by decide +kernel
theorem dX12_isNumber_8 : decode cX12_isNumber 8 = .ok (.aload_n 0, 1) := by decide +kernel
theorem dX12_isNumber_9 : decode cX12_isNumber 9 = .ok (.iload_n 3, 1) := by decide +kernel
theorem dX12_isNumber_10 : decode cX12_isNumber 10 = .ok (.iload_n 3, 1) := by decide +kernel
theorem dX12_isNumber_11 : decode cX12_isNumber 11 = .ok (.iconst 3, 1) := by decide +kernel
theorem dX12_isNumber_12 : decode cX12_isNumber 12 = .ok (.if_icmp .ge 16, 3) := by decide +kernel
theorem dX12_isNumber_15 : decode cX12_isNumber 15 = .ok (.lload_n 1, 1) := by decide +kernel
theorem dX12_isNumber_16 : decode cX12_isNumber 16 = .ok (.bipush 30, 2) := by decide +kernel
theorem dX12_isNumber_18 : decode cX12_isNumber 18 = .ok (.iload_n 3, 1) := by decide +kernel
theorem dX12_isNumber_19 : decode cX12_isNumber 19 = .ok (.imul, 1) := by decide +kernel
theorem dX12_isNumber_20 : decode cX12_isNumber 20 = .ok (.lushr, 1) := by decide +kernel
theorem dX12_isNumber_21 : decode cX12_isNumber 21 = .ok (.ldc2_w 269, 3) := by decide +kernel
theorem dX12_isNumber_24 : decode cX12_isNumber 24 = .ok (.land, 1) := by decide +kernel
theorem dX12_isNumber_25 : decode cX12_isNumber 25 = .ok (.goto 4, 3) := by decide +kernel
theorem dX12_isNumber_28 : decode cX12_isNumber 28 = .ok (.lconst 0, 1) := by decide +kernel
theorem dX12_isNumber_29 : decode cX12_isNumber 29 = .ok (.lastore, 1) := by decide +kernel
theorem dX12_isNumber_30 : decode cX12_isNumber 30 = .ok (.iinc 3 1, 3) := by decide +kernel
theorem dX12_isNumber_33 : decode cX12_isNumber 33 = .ok (.goto (-31), 3) := by decide +kernel
theorem dX12_isNumber_36 : decode cX12_isNumber 36 = .ok (.return_, 1) := by decide +kernel
theorem dX12_times_0 : decode cX12_times 0 = .ok (.iconst 0, 1) := by decide +kernel
theorem dX12_times_1 : decode cX12_times 1 = .ok (.istore 4, 2) := by decide +kernel
theorem dX12_times_3 : decode cX12_times 3 = .ok (.iload 4, 2) := by decide +kernel
theorem dX12_times_5 : decode cX12_times 5 = .ok (.bipush 8, 2) := by decide +kernel
theorem dX12_times_7 : decode cX12_times 7 = .ok (.if_icmp .ge 17, 3) := by decide +kernel
theorem dX12_times_10 : decode cX12_times 10 = .ok (.aload_n 0, 1) := by decide +kernel
theorem dX12_times_11 : decode cX12_times 11 = .ok (.getfield 124, 3) := by decide +kernel
theorem dX12_times_14 : decode cX12_times 14 = .ok (.iload 4, 2) := by decide +kernel
theorem dX12_times_16 : decode cX12_times 16 = .ok (.lconst 0, 1) := by decide +kernel
theorem dX12_times_17 : decode cX12_times 17 = .ok (.lastore, 1) := by decide +kernel
theorem dX12_times_18 : decode cX12_times 18 = .ok (.iinc 4 1, 3) := by decide +kernel
theorem dX12_times_21 : decode cX12_times 21 = .ok (.goto (-18), 3) := by decide +kernel
theorem dX12_times_24 : decode cX12_times 24 = .ok (.iconst 0, 1) := by decide +kernel
theorem dX12_times_25 : decode cX12_times 25 = .ok (.istore 4, 2) := by decide +kernel
theorem dX12_times_27 : decode cX12_times 27 = .ok (.iload 4, 2) := by decide +kernel
theorem dX12_times_29 : decode cX12_times 29 = .ok (.iconst 3, 1) := by decide +kernel
theorem dX12_times_30 : decode cX12_times 30 = .ok (.if_icmp .ge 90, 3) := by decide +kernel
theorem dX12_times_33 : decode cX12_times 33 = .ok (.lload_n 2, 1) := by decide +kernel
theorem dX12_times_34 : decode cX12_times 34 = .ok (.bipush 30, 2) := by decide +kernel
theorem dX12_times_36 : decode cX12_times 36 = .ok (.iload 4, 2) := by decide +kernel
theorem dX12_times_38 : decode cX12_times 38 = .ok (.imul, 1) := by decide +kernel
theorem dX12_times_39 : decode cX12_times 39 = .ok (.lushr, 1) := by decide +kernel
theorem dX12_times_40 : decode cX12_times 40 = .ok (.ldc2_w 269, 3) := by decide +kernel
theorem dX12_times_43 : decode cX12_times 43 = .ok (.land, 1) := by decide +kernel
theorem dX12_times_44 : decode cX12_times 44 = .ok (.lstore 5, 2) := by decide +kernel
theorem dX12_times_46 : decode cX12_times 46 = .ok (.lconst 0, 1) := by decide +kernel
theorem dX12_times_47 : decode cX12_times 47 = .ok (.lstore 7, 2) := by decide +kernel
theorem dX12_times_49 : decode cX12_times 49 = .ok (.iconst 0, 1) := by decide +kernel
theorem dX12_times_50 : decode cX12_times 50 = .ok (.istore 9, 2) := by decide +kernel
theorem dX12_times_52 : decode cX12_times 52 = .ok (.iload 4, 2) := by decide +kernel
theorem dX12_times_54 : decode cX12_times 54 = .ok (.iload 9, 2) := by decide +kernel
theorem dX12_times_56 : decode cX12_times 56 = .ok (.iadd, 1) := by decide +kernel
theorem dX12_times_57 : decode cX12_times 57 = .ok (.bipush 8, 2) := by decide +kernel
theorem dX12_times_59 : decode cX12_times 59 = .ok (.if_icmp .ge 55, 3) := by decide +kernel
theorem dX12_times_62 : decode cX12_times 62 = .ok (.aload_n 0, 1) := by decide +kernel
theorem dX12_times_63 : decode cX12_times 63 = .ok (.getfield 124, 3) := by decide +kernel
theorem dX12_times_66 : decode cX12_times 66 = .ok (.iload 4, 2) := by decide +kernel
theorem dX12_times_68 : decode cX12_times 68 = .ok (.iload 9, 2) := by decide +kernel
theorem dX12_times_70 : decode cX12_times 70 = .ok (.iadd, 1) := by decide +kernel
theorem dX12_times_71 : decode cX12_times 71 = .ok (.laload, 1) := by decide +kernel
theorem dX12_times_72 : decode cX12_times 72 = .ok (.lload 5, 2) := by decide +kernel
theorem dX12_times_74 : decode cX12_times 74 = .ok (.aload_n 1, 1) := by decide +kernel
theorem dX12_times_75 : decode cX12_times 75 = .ok (.iload 9, 2) := by decide +kernel
theorem dX12_times_77 : decode cX12_times 77 = .ok (.laload, 1) := by decide +kernel
theorem dX12_times_78 : decode cX12_times 78 = .ok (.lmul, 1) := by decide +kernel
theorem dX12_times_79 : decode cX12_times 79 = .ok (.ladd, 1) := by decide +kernel
theorem dX12_times_80 : decode cX12_times 80 = .ok (.lload 7, 2) := by decide +kernel
theorem dX12_times_82 : decode cX12_times 82 = .ok (.ladd, 1) := by decide +kernel
theorem dX12_times_83 : decode cX12_times 83 = .ok (.lstore 10, 2) := by decide +kernel
theorem dX12_times_85 : decode cX12_times 85 = .ok (.aload_n 0, 1) := by decide +kernel
theorem dX12_times_86 : decode cX12_times 86 = .ok (.getfield 124, 3) := by decide +kernel
theorem dX12_times_89 : decode cX12_times 89 = .ok (.iload 4, 2) := by decide +kernel
theorem dX12_times_91 : decode cX12_times 91 = .ok (.iload 9, 2) := by decide +kernel
theorem dX12_times_93 : decode cX12_times 93 = .ok (.iadd, 1) := by decide +kernel
theorem dX12_times_94 : decode cX12_times 94 = .ok (.lload 10, 2) := by decide +kernel
theorem dX12_times_96 : decode cX12_times 96 = .ok (.ldc2_w 269, 3) := by decide +kernel
theorem dX12_times_99 : decode cX12_times 99 = .ok (.land, 1) := by decide +kernel
theorem dX12_times_100 : decode cX12_times 100 = .ok (.lastore, 1) := by decide +kernel
theorem dX12_times_101 : decode cX12_times 101 = .ok (.lload 10, 2) := by decide +kernel
theorem dX12_times_103 : decode cX12_times 103 = .ok (.bipush 30, 2) := by decide +kernel
theorem dX12_times_105 : decode cX12_times 105 = .ok (.lushr, 1) := by decide +kernel
theorem dX12_times_106 : decode cX12_times 106 = .ok (.lstore 7, 2) := by decide +kernel
theorem dX12_times_108 : decode cX12_times 108 = .ok (.iinc 9 1, 3) := by decide +kernel
theorem dX12_times_111 : decode cX12_times 111 = .ok (.goto (-59), 3) := by decide +kernel
theorem dX12_times_114 : decode cX12_times 114 = .ok (.iinc 4 1, 3) := by decide +kernel
theorem dX12_times_117 : decode cX12_times 117 = .ok (.goto (-90), 3) := by decide +kernel
theorem dX12_times_120 : decode cX12_times 120 = .ok (.iconst 0, 1) := by decide +kernel
theorem dX12_times_121 : decode cX12_times 121 = .ok (.istore 4, 2) := by decide +kernel
theorem dX12_times_123 : decode cX12_times 123 = .ok (.iload 4, 2) := by decide +kernel
theorem dX12_times_125 : decode cX12_times 125 = .ok (.bipush 8, 2) := by decide +kernel
theorem dX12_times_127 : decode cX12_times 127 = .ok (.if_icmp .ge 20, 3) := by decide +kernel
theorem dX12_times_130 : decode cX12_times 130 = .ok (.aload_n 1, 1) := by decide +kernel
theorem dX12_times_131 : decode cX12_times 131 = .ok (.iload 4, 2) := by decide +kernel
theorem dX12_times_133 : decode cX12_times 133 = .ok (.aload_n 0, 1) := by decide +kernel
theorem dX12_times_134 : decode cX12_times 134 = .ok (.getfield 124, 3) := by decide +kernel
theorem dX12_times_137 : decode cX12_times 137 = .ok (.iload 4, 2) := by decide +kernel
theorem dX12_times_139 : decode cX12_times 139 = .ok (.laload, 1) := by decide +kernel
theorem dX12_times_140 : decode cX12_times 140 = .ok (.lastore, 1) := by decide +kernel
theorem dX12_times_141 : decode cX12_times 141 = .ok (.iinc 4 1, 3) := by decide +kernel
theorem dX12_times_144 : decode cX12_times 144 = .ok (.goto (-21), 3) := by decide +kernel
theorem dX12_times_147 : decode cX12_times 147 = .ok (.return_, 1) := by decide +kernel
theorem dX12_addSquare_0 : decode cX12_addSquare 0 = .ok (.lload_n 1, 1) := by decide +kernel
theorem dX12_addSquare_1 : decode cX12_addSquare 1 = .ok (.lconst 0, 1) := by decide +kernel
theorem dX12_addSquare_2 : decode cX12_addSquare 2 = .ok (.lcmp, 1) := by decide +kernel
theorem dX12_addSquare_3 : decode cX12_addSquare 3 = .ok (.ifCond .ge 8, 3) := by decide +kernel
theorem dX12_addSquare_6 : decode cX12_addSquare 6 = .ok (.lload_n 1, 1) := by decide +kernel
theorem dX12_addSquare_7 : decode cX12_addSquare 7 = .ok (.lneg, 1) := by decide +kernel
theorem dX12_addSquare_8 : decode cX12_addSquare 8 = .ok (.goto 4, 3) := by decide +kernel
theorem dX12_addSquare_11 : decode cX12_addSquare 11 = .ok (.lload_n 1, 1) := by decide +kernel
theorem dX12_addSquare_12 : decode cX12_addSquare 12 = .ok (.lstore_n 3, 1) := by decide +kernel
theorem dX12_addSquare_13 : decode cX12_addSquare 13 = .ok (.aload_n 0, 1) := by decide +kernel
theorem dX12_addSquare_14 : decode cX12_addSquare 14 = .ok (.getfield 118, 3) := by decide +kernel
theorem dX12_addSquare_17 : decode cX12_addSquare 17 = .ok (.lload_n 3, 1) := by decide +kernel
theorem dX12_addSquare_18 : decode cX12_addSquare 18 = .ok (.invokestatic 271, 3) := by decide +kernel
theorem dX12_addSquare_21 : decode cX12_addSquare 21 = .ok (.aload_n 0, 1) := by decide +kernel
theorem dX12_addSquare_22 : decode cX12_addSquare 22 = .ok (.aload_n 0, 1) := by decide +kernel
theorem dX12_addSquare_23 : decode cX12_addSquare 23 = .ok (.getfield 118, 3) := by decide +kernel
theorem dX12_addSquare_26 : decode cX12_addSquare 26 = .ok (.lload_n 3, 1) := by decide +kernel
theorem dX12_addSquare_27 : decode cX12_addSquare 27 = .ok (.invokevirtual 275, 3) := by decide +kernel
theorem dX12_addSquare_30 : decode cX12_addSquare 30 = .ok (.lconst 0, 1) := by decide +kernel
theorem dX12_addSquare_31 : decode cX12_addSquare 31 = .ok (.lstore 5, 2) := by decide +kernel
theorem dX12_addSquare_33 : decode cX12_addSquare 33 = .ok (.iconst 0, 1) := by decide +kernel
theorem dX12_addSquare_34 : decode cX12_addSquare 34 = .ok (.istore 7, 2) := by decide +kernel
theorem dX12_addSquare_36 : decode cX12_addSquare 36 = .ok (.iload 7, 2) := by decide +kernel
theorem dX12_addSquare_38 : decode cX12_addSquare 38 = .ok (.bipush 8, 2) := by decide +kernel
theorem dX12_addSquare_40 : decode cX12_addSquare 40 = .ok (.if_icmp .ge 49, 3) := by decide +kernel
theorem dX12_addSquare_43 : decode cX12_addSquare 43 = .ok (.aload_n 0, 1) := by decide +kernel
theorem dX12_addSquare_44 : decode cX12_addSquare 44 = .ok (.getfield 127, 3) := by decide +kernel
theorem dX12_addSquare_47 : decode cX12_addSquare 47 = .ok (.iload 7, 2) := by decide +kernel
theorem dX12_addSquare_49 : decode cX12_addSquare 49 = .ok (.laload, 1) := by decide +kernel
theorem dX12_addSquare_50 : decode cX12_addSquare 50 = .ok (.aload_n 0, 1) := by decide +kernel
theorem dX12_addSquare_51 : decode cX12_addSquare 51 = .ok (.getfield 118, 3) := by decide +kernel
theorem dX12_addSquare_54 : decode cX12_addSquare 54 = .ok (.iload 7, 2) := by decide +kernel
theorem dX12_addSquare_56 : decode cX12_addSquare 56 = .ok (.laload, 1) := by decide +kernel
theorem dX12_addSquare_57 : decode cX12_addSquare 57 = .ok (.ladd, 1) := by decide +kernel
theorem dX12_addSquare_58 : decode cX12_addSquare 58 = .ok (.lload 5, 2) := by decide +kernel
theorem dX12_addSquare_60 : decode cX12_addSquare 60 = .ok (.ladd, 1) := by decide +kernel
theorem dX12_addSquare_61 : decode cX12_addSquare 61 = .ok (.lstore 8, 2) := by decide +kernel
theorem dX12_addSquare_63 : decode cX12_addSquare 63 = .ok (.aload_n 0, 1) := by decide +kernel
theorem dX12_addSquare_64 : decode cX12_addSquare 64 = .ok (.getfield 127, 3) := by decide +kernel
theorem dX12_addSquare_67 : decode cX12_addSquare 67 = .ok (.iload 7, 2) := by decide +kernel
theorem dX12_addSquare_69 : decode cX12_addSquare 69 = .ok (.lload 8, 2) := by decide +kernel
theorem dX12_addSquare_71 : decode cX12_addSquare 71 = .ok (.ldc2_w 269, 3) := by decide +kernel
theorem dX12_addSquare_74 : decode cX12_addSquare 74 = .ok (.land, 1) := by decide +kernel
theorem dX12_addSquare_75 : decode cX12_addSquare 75 = .ok (.lastore, 1) := by decide +kernel
theorem dX12_addSquare_76 : decode cX12_addSquare 76 = .ok (.lload 8, 2) := by decide +kernel
theorem dX12_addSquare_78 : decode cX12_addSquare 78 = .ok (.bipush 30, 2) := by decide +kernel
theorem dX12_addSquare_80 : decode cX12_addSquare 80 = .ok (.lushr, 1) := by decide +kernel
theorem dX12_addSquare_81 : decode cX12_addSquare 81 = .ok (.lstore 5, 2) := by decide +kernel
theorem dX12_addSquare_83 : decode cX12_addSquare 83 = .ok (.iinc 7 1, 3) := by decide +kernel
theorem dX12_addSquare_86 : decode cX12_addSquare 86 = .ok (.goto (-50), 3) := by decide +kernel
theorem dX12_addSquare_89 : decode cX12_addSquare 89 = .ok (.return_, 1) := by decide +kernel
theorem dX12_levelOf_0 : decode cX12_levelOf 0 = .ok (.lconst 0, 1) := by decide +kernel
theorem dX12_levelOf_1 : decode cX12_levelOf 1 = .ok (.lstore_n 2, 1) := by decide +kernel
theorem dX12_levelOf_2 : decode cX12_levelOf 2 = .ok (.lconst 0, 1) := by decide +kernel
theorem dX12_levelOf_3 : decode cX12_levelOf 3 = .ok (.lstore 4, 2) := by decide +kernel
theorem dX12_levelOf_5 : decode cX12_levelOf 5 = .ok (.iconst 0, 1) := by decide +kernel
theorem dX12_levelOf_6 : decode cX12_levelOf 6 = .ok (.istore 6, 2) := by decide +kernel
theorem dX12_levelOf_8 : decode cX12_levelOf 8 = .ok (.iload 6, 2) := by decide +kernel
theorem dX12_levelOf_10 : decode cX12_levelOf 10 = .ok (.bipush 8, 2) := by decide +kernel
theorem dX12_levelOf_12 : decode cX12_levelOf 12 = .ok (.if_icmp .ge 17, 3) := by decide +kernel
theorem dX12_levelOf_15 : decode cX12_levelOf 15 = .ok (.aload_n 0, 1) := by decide +kernel
theorem dX12_levelOf_16 : decode cX12_levelOf 16 = .ok (.getfield 127, 3) := by decide +kernel
theorem dX12_levelOf_19 : decode cX12_levelOf 19 = .ok (.iload 6, 2) := by decide +kernel
theorem dX12_levelOf_21 : decode cX12_levelOf 21 = .ok (.lconst 0, 1) := by decide +kernel
theorem dX12_levelOf_22 : decode cX12_levelOf 22 = .ok (.lastore, 1) := by decide +kernel
theorem dX12_levelOf_23 : decode cX12_levelOf 23 = .ok (.iinc 6 1, 3) := by decide +kernel
theorem dX12_levelOf_26 : decode cX12_levelOf 26 = .ok (.goto (-18), 3) := by decide +kernel
theorem dX12_levelOf_29 : decode cX12_levelOf 29 = .ok (.iconst 0, 1) := by decide +kernel
theorem dX12_levelOf_30 : decode cX12_levelOf 30 = .ok (.istore 6, 2) := by decide +kernel
theorem dX12_levelOf_32 : decode cX12_levelOf 32 = .ok (.iload 6, 2) := by decide +kernel
theorem dX12_levelOf_34 : decode cX12_levelOf 34 = .ok (.iconst 3, 1) := by decide +kernel
theorem dX12_levelOf_35 : decode cX12_levelOf 35 = .ok (.if_icmp .ge 78, 3) := by decide +kernel
theorem dX12_levelOf_38 : decode cX12_levelOf 38 = .ok (.aload_n 0, 1) := by decide +kernel
theorem dX12_levelOf_39 : decode cX12_levelOf 39 = .ok (.getfield 36, 3) := by decide +kernel
theorem dX12_levelOf_42 : decode cX12_levelOf 42 = .ok (.iconst 3, 1) := by decide +kernel
theorem dX12_levelOf_43 : decode cX12_levelOf 43 = .ok (.iload_n 1, 1) := by decide +kernel
theorem dX12_levelOf_44 : decode cX12_levelOf 44 = .ok (.imul, 1) := by decide +kernel
theorem dX12_levelOf_45 : decode cX12_levelOf 45 = .ok (.iload 6, 2) := by decide +kernel
theorem dX12_levelOf_47 : decode cX12_levelOf 47 = .ok (.iadd, 1) := by decide +kernel
theorem dX12_levelOf_48 : decode cX12_levelOf 48 = .ok (.iaload, 1) := by decide +kernel
theorem dX12_levelOf_49 : decode cX12_levelOf 49 = .ok (.i2l, 1) := by decide +kernel
theorem dX12_levelOf_50 : decode cX12_levelOf 50 = .ok (.aload_n 0, 1) := by decide +kernel
theorem dX12_levelOf_51 : decode cX12_levelOf 51 = .ok (.getfield 102, 3) := by decide +kernel
theorem dX12_levelOf_54 : decode cX12_levelOf 54 = .ok (.iconst 3, 1) := by decide +kernel
theorem dX12_levelOf_55 : decode cX12_levelOf 55 = .ok (.laload, 1) := by decide +kernel
theorem dX12_levelOf_56 : decode cX12_levelOf 56 = .ok (.lmul, 1) := by decide +kernel
theorem dX12_levelOf_57 : decode cX12_levelOf 57 = .ok (.aload_n 0, 1) := by decide +kernel
theorem dX12_levelOf_58 : decode cX12_levelOf 58 = .ok (.getfield 102, 3) := by decide +kernel
theorem dX12_levelOf_61 : decode cX12_levelOf 61 = .ok (.iload 6, 2) := by decide +kernel
theorem dX12_levelOf_63 : decode cX12_levelOf 63 = .ok (.laload, 1) := by decide +kernel
theorem dX12_levelOf_64 : decode cX12_levelOf 64 = .ok (.lsub, 1) := by decide +kernel
theorem dX12_levelOf_65 : decode cX12_levelOf 65 = .ok (.lstore 7, 2) := by decide +kernel
theorem dX12_levelOf_67 : decode cX12_levelOf 67 = .ok (.aload_n 0, 1) := by decide +kernel
theorem dX12_levelOf_68 : decode cX12_levelOf 68 = .ok (.getfield 16, 3) := by decide +kernel
theorem dX12_levelOf_71 : decode cX12_levelOf 71 = .ok (.iconst 3, 1) := by decide +kernel
theorem dX12_levelOf_72 : decode cX12_levelOf 72 = .ok (.aload_n 0, 1) := by decide +kernel
theorem dX12_levelOf_73 : decode cX12_levelOf 73 = .ok (.getfield 228, 3) := by decide +kernel
theorem dX12_levelOf_76 : decode cX12_levelOf 76 = .ok (.imul, 1) := by decide +kernel
theorem dX12_levelOf_77 : decode cX12_levelOf 77 = .ok (.iload 6, 2) := by decide +kernel
theorem dX12_levelOf_79 : decode cX12_levelOf 79 = .ok (.iadd, 1) := by decide +kernel
theorem dX12_levelOf_80 : decode cX12_levelOf 80 = .ok (.laload, 1) := by decide +kernel
theorem dX12_levelOf_81 : decode cX12_levelOf 81 = .ok (.lstore 9, 2) := by decide +kernel
theorem dX12_levelOf_83 : decode cX12_levelOf 83 = .ok (.lload_n 2, 1) := by decide +kernel
theorem dX12_levelOf_84 : decode cX12_levelOf 84 = .ok (.lload 7, 2) := by decide +kernel
theorem dX12_levelOf_86 : decode cX12_levelOf 86 = .ok (.lload 9, 2) := by decide +kernel
theorem dX12_levelOf_88 : decode cX12_levelOf 88 = .ok (.lmul, 1) := by decide +kernel
theorem dX12_levelOf_89 : decode cX12_levelOf 89 = .ok (.ladd, 1) := by decide +kernel
theorem dX12_levelOf_90 : decode cX12_levelOf 90 = .ok (.lstore_n 2, 1) := by decide +kernel
theorem dX12_levelOf_91 : decode cX12_levelOf 91 = .ok (.lload 4, 2) := by decide +kernel
theorem dX12_levelOf_93 : decode cX12_levelOf 93 = .ok (.lload 9, 2) := by decide +kernel
theorem dX12_levelOf_95 : decode cX12_levelOf 95 = .ok (.lload 9, 2) := by decide +kernel
theorem dX12_levelOf_97 : decode cX12_levelOf 97 = .ok (.lmul, 1) := by decide +kernel
theorem dX12_levelOf_98 : decode cX12_levelOf 98 = .ok (.ladd, 1) := by decide +kernel
theorem dX12_levelOf_99 : decode cX12_levelOf 99 = .ok (.lstore 4, 2) := by decide +kernel
theorem dX12_levelOf_101 : decode cX12_levelOf 101 = .ok (.aload_n 0, 1) := by decide +kernel
theorem dX12_levelOf_102 : decode cX12_levelOf 102 = .ok (.lload 7, 2) := by decide +kernel
theorem dX12_levelOf_104 : decode cX12_levelOf 104 = .ok (.invokevirtual 278, 3) := by decide +kernel
theorem dX12_levelOf_107 : decode cX12_levelOf 107 = .ok (.iinc 6 1, 3) := by decide +kernel
theorem dX12_levelOf_110 : decode cX12_levelOf 110 = .ok (.goto (-78), 3) := by decide +kernel
theorem dX12_levelOf_113 : decode cX12_levelOf 113 = .ok (.lload_n 2, 1) := by decide +kernel
theorem dX12_levelOf_114 : decode cX12_levelOf 114 = .ok (.lconst 0, 1) := by decide +kernel
theorem dX12_levelOf_115 : decode cX12_levelOf 115 = .ok (.lcmp, 1) := by decide +kernel
theorem dX12_levelOf_116 : decode cX12_levelOf 116 = .ok (.ifCond .ge 8, 3) := by decide +kernel
theorem dX12_levelOf_119 : decode cX12_levelOf 119 = .ok (.lload_n 2, 1) := by decide +kernel
theorem dX12_levelOf_120 : decode cX12_levelOf 120 = .ok (.lneg, 1) := by decide +kernel
theorem dX12_levelOf_121 : decode cX12_levelOf 121 = .ok (.goto 4, 3) := by decide +kernel
theorem dX12_levelOf_124 : decode cX12_levelOf 124 = .ok (.lload_n 2, 1) := by decide +kernel
theorem dX12_levelOf_125 : decode cX12_levelOf 125 = .ok (.lstore_n 2, 1) := by decide +kernel
theorem dX12_levelOf_126 : decode cX12_levelOf 126 = .ok (.bipush 15, 2) := by decide +kernel
theorem dX12_levelOf_128 : decode cX12_levelOf 128 = .ok (.istore 6, 2) := by decide +kernel
theorem dX12_levelOf_130 : decode cX12_levelOf 130 = .ok (.iload 6, 2) := by decide +kernel
theorem dX12_levelOf_132 : decode cX12_levelOf 132 = .ok (.ifCond .le 170, 3) := by decide +kernel
theorem dX12_levelOf_135 : decode cX12_levelOf 135 = .ok (.aload_n 0, 1) := by decide +kernel
theorem dX12_levelOf_136 : decode cX12_levelOf 136 = .ok (.getfield 118, 3) := by decide +kernel
theorem dX12_levelOf_139 : decode cX12_levelOf 139 = .ok (.lload_n 2, 1) := by decide +kernel
theorem dX12_levelOf_140 : decode cX12_levelOf 140 = .ok (.invokestatic 271, 3) := by decide +kernel
theorem dX12_levelOf_143 : decode cX12_levelOf 143 = .ok (.aload_n 0, 1) := by decide +kernel
theorem dX12_levelOf_144 : decode cX12_levelOf 144 = .ok (.aload_n 0, 1) := by decide +kernel
theorem dX12_levelOf_145 : decode cX12_levelOf 145 = .ok (.getfield 118, 3) := by decide +kernel
theorem dX12_levelOf_148 : decode cX12_levelOf 148 = .ok (.lload_n 2, 1) := by decide +kernel
theorem dX12_levelOf_149 : decode cX12_levelOf 149 = .ok (.invokevirtual 275, 3) := by decide +kernel
theorem dX12_levelOf_152 : decode cX12_levelOf 152 = .ok (.aload_n 0, 1) := by decide +kernel
theorem dX12_levelOf_153 : decode cX12_levelOf 153 = .ok (.aload_n 0, 1) := by decide +kernel
theorem dX12_levelOf_154 : decode cX12_levelOf 154 = .ok (.getfield 118, 3) := by decide +kernel
theorem dX12_levelOf_157 : decode cX12_levelOf 157 = .ok (.ldc2_w 282, 3) := by decide +kernel
theorem dX12_levelOf_160 : decode cX12_levelOf 160 = .ok (.invokevirtual 275, 3) := by decide +kernel
theorem dX12_levelOf_163 : decode cX12_levelOf 163 = .ok (.iconst 0, 1) := by decide +kernel
theorem dX12_levelOf_164 : decode cX12_levelOf 164 = .ok (.istore 7, 2) := by decide +kernel
theorem dX12_levelOf_166 : decode cX12_levelOf 166 = .ok (.iload 7, 2) := by decide +kernel
theorem dX12_levelOf_168 : decode cX12_levelOf 168 = .ok (.bipush 8, 2) := by decide +kernel
theorem dX12_levelOf_170 : decode cX12_levelOf 170 = .ok (.if_icmp .ge 23, 3) := by decide +kernel
theorem dX12_levelOf_173 : decode cX12_levelOf 173 = .ok (.aload_n 0, 1) := by decide +kernel
theorem dX12_levelOf_174 : decode cX12_levelOf 174 = .ok (.getfield 121, 3) := by decide +kernel
theorem dX12_levelOf_177 : decode cX12_levelOf 177 = .ok (.iload 7, 2) := by decide +kernel
theorem dX12_levelOf_179 : decode cX12_levelOf 179 = .ok (.aload_n 0, 1) := by decide +kernel
theorem dX12_levelOf_180 : decode cX12_levelOf 180 = .ok (.getfield 127, 3) := by decide +kernel
theorem dX12_levelOf_183 : decode cX12_levelOf 183 = .ok (.iload 7, 2) := by decide +kernel
theorem dX12_levelOf_185 : decode cX12_levelOf 185 = .ok (.laload, 1) := by decide +kernel
theorem dX12_levelOf_186 : decode cX12_levelOf 186 = .ok (.lastore, 1) := by decide +kernel
theorem dX12_levelOf_187 : decode cX12_levelOf 187 = .ok (.iinc 7 1, 3) := by decide +kernel
theorem dX12_levelOf_190 : decode cX12_levelOf 190 = .ok (.goto (-24), 3) := by decide +kernel
theorem dX12_levelOf_193 : decode cX12_levelOf 193 = .ok (.aload_n 0, 1) := by decide +kernel
theorem dX12_levelOf_194 : decode cX12_levelOf 194 = .ok (.aload_n 0, 1) := by decide +kernel
theorem dX12_levelOf_195 : decode cX12_levelOf 195 = .ok (.getfield 121, 3) := by decide +kernel
theorem dX12_levelOf_198 : decode cX12_levelOf 198 = .ok (.lload 4, 2) := by decide +kernel
theorem dX12_levelOf_200 : decode cX12_levelOf 200 = .ok (.invokevirtual 275, 3) := by decide +kernel
theorem dX12_levelOf_203 : decode cX12_levelOf 203 = .ok (.aload_n 0, 1) := by decide +kernel
theorem dX12_levelOf_204 : decode cX12_levelOf 204 = .ok (.aload_n 0, 1) := by decide +kernel
theorem dX12_levelOf_205 : decode cX12_levelOf 205 = .ok (.getfield 121, 3) := by decide +kernel
theorem dX12_levelOf_208 : decode cX12_levelOf 208 = .ok (.iload 6, 2) := by decide +kernel
theorem dX12_levelOf_210 : decode cX12_levelOf 210 = .ok (.i2l, 1) := by decide +kernel
theorem dX12_levelOf_211 : decode cX12_levelOf 211 = .ok (.iload 6, 2) := by decide +kernel
theorem dX12_levelOf_213 : decode cX12_levelOf 213 = .ok (.i2l, 1) := by decide +kernel
theorem dX12_levelOf_214 : decode cX12_levelOf 214 = .ok (.lmul, 1) := by decide +kernel
theorem dX12_levelOf_215 : decode cX12_levelOf 215 = .ok (.invokevirtual 275, 3) := by decide +kernel
theorem dX12_levelOf_218 : decode cX12_levelOf 218 = .ok (.iconst 0, 1) := by decide +kernel
theorem dX12_levelOf_219 : decode cX12_levelOf 219 = .ok (.istore 7, 2) := by decide +kernel
theorem dX12_levelOf_221 : decode cX12_levelOf 221 = .ok (.bipush 7, 2) := by decide +kernel
theorem dX12_levelOf_223 : decode cX12_levelOf 223 = .ok (.istore 8, 2) := by decide +kernel
theorem dX12_levelOf_225 : decode cX12_levelOf 225 = .ok (.iload 8, 2) := by decide +kernel
theorem dX12_levelOf_227 : decode cX12_levelOf 227 = .ok (.ifCond .lt 61, 3) := by decide +kernel
theorem dX12_levelOf_230 : decode cX12_levelOf 230 = .ok (.iload 7, 2) := by decide +kernel
theorem dX12_levelOf_232 : decode cX12_levelOf 232 = .ok (.ifCond .ne 56, 3) := by decide +kernel
theorem dX12_levelOf_235 : decode cX12_levelOf 235 = .ok (.aload_n 0, 1) := by decide +kernel
theorem dX12_levelOf_236 : decode cX12_levelOf 236 = .ok (.getfield 118, 3) := by decide +kernel
theorem dX12_levelOf_239 : decode cX12_levelOf 239 = .ok (.iload 8, 2) := by decide +kernel
theorem dX12_levelOf_241 : decode cX12_levelOf 241 = .ok (.laload, 1) := by decide +kernel
theorem dX12_levelOf_242 : decode cX12_levelOf 242 = .ok (.aload_n 0, 1) := by decide +kernel
theorem dX12_levelOf_243 : decode cX12_levelOf 243 = .ok (.getfield 121, 3) := by decide +kernel
theorem dX12_levelOf_246 : decode cX12_levelOf 246 = .ok (.iload 8, 2) := by decide +kernel
theorem dX12_levelOf_248 : decode cX12_levelOf 248 = .ok (.laload, 1) := by decide +kernel
theorem dX12_levelOf_249 : decode cX12_levelOf 249 = .ok (.lcmp, 1) := by decide +kernel
theorem dX12_levelOf_250 : decode cX12_levelOf 250 = .ok (.ifCond .ge 7, 3) := by decide +kernel
theorem dX12_levelOf_253 : decode cX12_levelOf 253 = .ok (.iconst (-1), 1) := by decide +kernel
theorem dX12_levelOf_254 : decode cX12_levelOf 254 = .ok (.goto 26, 3) := by decide +kernel
theorem dX12_levelOf_257 : decode cX12_levelOf 257 = .ok (.aload_n 0, 1) := by decide +kernel
theorem dX12_levelOf_258 : decode cX12_levelOf 258 = .ok (.getfield 118, 3) := by decide +kernel
theorem dX12_levelOf_261 : decode cX12_levelOf 261 = .ok (.iload 8, 2) := by decide +kernel
theorem dX12_levelOf_263 : decode cX12_levelOf 263 = .ok (.laload, 1) := by decide +kernel
theorem dX12_levelOf_264 : decode cX12_levelOf 264 = .ok (.aload_n 0, 1) := by decide +kernel
theorem dX12_levelOf_265 : decode cX12_levelOf 265 = .ok (.getfield 121, 3) := by decide +kernel
theorem dX12_levelOf_268 : decode cX12_levelOf 268 = .ok (.iload 8, 2) := by decide +kernel
theorem dX12_levelOf_270 : decode cX12_levelOf 270 = .ok (.laload, 1) := by decide +kernel
theorem dX12_levelOf_271 : decode cX12_levelOf 271 = .ok (.lcmp, 1) := by decide +kernel
theorem dX12_levelOf_272 : decode cX12_levelOf 272 = .ok (.ifCond .le 7, 3) := by decide +kernel
theorem dX12_levelOf_275 : decode cX12_levelOf 275 = .ok (.iconst 1, 1) := by decide +kernel
theorem dX12_levelOf_276 : decode cX12_levelOf 276 = .ok (.goto 4, 3) := by decide +kernel
theorem dX12_levelOf_279 : decode cX12_levelOf 279 = .ok (.iconst 0, 1) := by decide +kernel
theorem dX12_levelOf_280 : decode cX12_levelOf 280 = .ok (.istore 7, 2) := by decide +kernel
theorem dX12_levelOf_282 : decode cX12_levelOf 282 = .ok (.iinc 8 (-1), 3) := by decide +kernel
theorem dX12_levelOf_285 : decode cX12_levelOf 285 = .ok (.goto (-60), 3) := by decide +kernel
theorem dX12_levelOf_288 : decode cX12_levelOf 288 = .ok (.iload 7, 2) := by decide +kernel
theorem dX12_levelOf_290 : decode cX12_levelOf 290 = .ok (.ifCond .lt 6, 3) := by decide +kernel
theorem dX12_levelOf_293 : decode cX12_levelOf 293 = .ok (.iload 6, 2) := by decide +kernel
theorem dX12_levelOf_295 : decode cX12_levelOf 295 = .ok (.ireturn, 1) := by decide +kernel
theorem dX12_levelOf_296 : decode cX12_levelOf 296 = .ok (.iinc 6 (-1), 3) := by decide +kernel
theorem dX12_levelOf_299 : decode cX12_levelOf 299 = .ok (.goto (-169), 3) := by decide +kernel
theorem dX12_levelOf_302 : decode cX12_levelOf 302 = .ok (.iconst 0, 1) := by decide +kernel
theorem dX12_levelOf_303 : decode cX12_levelOf 303 = .ok (.ireturn, 1) := by decide +kernel
theorem dX12_litBy_0 : decode cX12_litBy 0 = .ok (.aload_n 0, 1) := by decide +kernel
theorem dX12_litBy_1 : decode cX12_litBy 1 = .ok (.iload_n 1, 1) := by decide +kernel
theorem dX12_litBy_2 : decode cX12_litBy 2 = .ok (.invokevirtual 284, 3) := by decide +kernel
theorem dX12_litBy_5 : decode cX12_litBy 5 = .ok (.ifCond .eq 19, 3) := by decide +kernel
theorem dX12_litBy_8 : decode cX12_litBy 8 = .ok (.aload_n 0, 1) := by decide +kernel
theorem dX12_litBy_9 : decode cX12_litBy 9 = .ok (.iload_n 1, 1) := by decide +kernel
theorem dX12_litBy_10 : decode cX12_litBy 10 = .ok (.invokevirtual 287, 3) := by decide +kernel
theorem dX12_litBy_13 : decode cX12_litBy 13 = .ok (.ifCond .ge 11, 3) := by decide +kernel
theorem dX12_litBy_16 : decode cX12_litBy 16 = .ok (.aload_n 0, 1) := by decide +kernel
theorem dX12_litBy_17 : decode cX12_litBy 17 = .ok (.iload_n 1, 1) := by decide +kernel
theorem dX12_litBy_18 : decode cX12_litBy 18 = .ok (.invokevirtual 291, 3) := by decide +kernel
theorem dX12_litBy_21 : decode cX12_litBy 21 = .ok (.goto 5, 3) := by decide +kernel
theorem dX12_litBy_24 : decode cX12_litBy 24 = .ok (.bipush (-2), 2) := by decide +kernel
theorem dX12_litBy_26 : decode cX12_litBy 26 = .ok (.ireturn, 1) := by decide +kernel
theorem dX12_lit_0 : decode cX12_lit 0 = .ok (.aload_n 0, 1) := by decide +kernel
theorem dX12_lit_1 : decode cX12_lit 1 = .ok (.iload_n 1, 1) := by decide +kernel
theorem dX12_lit_2 : decode cX12_lit 2 = .ok (.iload_n 2, 1) := by decide +kernel
theorem dX12_lit_3 : decode cX12_lit 3 = .ok (.invokevirtual 244, 3) := by decide +kernel
theorem dX12_lit_6 : decode cX12_lit 6 = .ok (.ifCond .eq 15, 3) := by decide +kernel
theorem dX12_lit_9 : decode cX12_lit 9 = .ok (.iload_n 3, 1) := by decide +kernel
theorem dX12_lit_10 : decode cX12_lit 10 = .ok (.i2l, 1) := by decide +kernel
theorem dX12_lit_11 : decode cX12_lit 11 = .ok (.lconst 0, 1) := by decide +kernel
theorem dX12_lit_12 : decode cX12_lit 12 = .ok (.ldc2_w 177, 3) := by decide +kernel
theorem dX12_lit_15 : decode cX12_lit 15 = .ok (.invokestatic 140, 3) := by decide +kernel
theorem dX12_lit_18 : decode cX12_lit 18 = .ok (.ifCond .ne 5, 3) := by decide +kernel
theorem dX12_lit_21 : decode cX12_lit 21 = .ok (.iconst (-1), 1) := by decide +kernel
theorem dX12_lit_22 : decode cX12_lit 22 = .ok (.ireturn, 1) := by decide +kernel
theorem dX12_lit_23 : decode cX12_lit 23 = .ok (.aload_n 0, 1) := by decide +kernel
theorem dX12_lit_24 : decode cX12_lit 24 = .ok (.iload_n 1, 1) := by decide +kernel
theorem dX12_lit_25 : decode cX12_lit 25 = .ok (.iload_n 2, 1) := by decide +kernel
theorem dX12_lit_26 : decode cX12_lit 26 = .ok (.invokevirtual 247, 3) := by decide +kernel
theorem dX12_lit_29 : decode cX12_lit 29 = .ok (.aload_n 0, 1) := by decide +kernel
theorem dX12_lit_30 : decode cX12_lit 30 = .ok (.getfield 228, 3) := by decide +kernel
theorem dX12_lit_33 : decode cX12_lit 33 = .ok (.ifCond .ge 8, 3) := by decide +kernel
theorem dX12_lit_36 : decode cX12_lit 36 = .ok (.bipush (-3), 2) := by decide +kernel
theorem dX12_lit_38 : decode cX12_lit 38 = .ok (.goto 8, 3) := by decide +kernel
theorem dX12_lit_41 : decode cX12_lit 41 = .ok (.aload_n 0, 1) := by decide +kernel
theorem dX12_lit_42 : decode cX12_lit 42 = .ok (.iload_n 3, 1) := by decide +kernel
theorem dX12_lit_43 : decode cX12_lit 43 = .ok (.invokevirtual 294, 3) := by decide +kernel
theorem dX12_lit_46 : decode cX12_lit 46 = .ok (.ireturn, 1) := by decide +kernel
theorem dX12_shadow_0 : decode cX12_shadow 0 = .ok (.aload_n 0, 1) := by decide +kernel
theorem dX12_shadow_1 : decode cX12_shadow 1 = .ok (.iload_n 1, 1) := by decide +kernel
theorem dX12_shadow_2 : decode cX12_shadow 2 = .ok (.iload_n 2, 1) := by decide +kernel
theorem dX12_shadow_3 : decode cX12_shadow 3 = .ok (.invokevirtual 244, 3) := by decide +kernel
theorem dX12_shadow_6 : decode cX12_shadow 6 = .ok (.ifCond .eq 15, 3) := by decide +kernel
theorem dX12_shadow_9 : decode cX12_shadow 9 = .ok (.iload_n 3, 1) := by decide +kernel
theorem dX12_shadow_10 : decode cX12_shadow 10 = .ok (.i2l, 1) := by decide +kernel
theorem dX12_shadow_11 : decode cX12_shadow 11 = .ok (.lconst 0, 1) := by decide +kernel
theorem dX12_shadow_12 : decode cX12_shadow 12 = .ok (.ldc2_w 177, 3) := by decide +kernel
theorem dX12_shadow_15 : decode cX12_shadow 15 = .ok (.invokestatic 140, 3) := by decide +kernel
theorem dX12_shadow_18 : decode cX12_shadow 18 = .ok (.ifCond .ne 5, 3) := by decide +kernel
theorem dX12_shadow_21 : decode cX12_shadow 21 = .ok (.iconst (-1), 1) := by decide +kernel
theorem dX12_shadow_22 : decode cX12_shadow 22 = .ok (.ireturn, 1) := by decide +kernel
theorem dX12_shadow_23 : decode cX12_shadow 23 = .ok (.aload_n 0, 1) := by decide +kernel
theorem dX12_shadow_24 : decode cX12_shadow 24 = .ok (.iload_n 1, 1) := by decide +kernel
theorem dX12_shadow_25 : decode cX12_shadow 25 = .ok (.iload_n 2, 1) := by decide +kernel
theorem dX12_shadow_26 : decode cX12_shadow 26 = .ok (.invokevirtual 247, 3) := by decide +kernel
theorem dX12_shadow_29 : decode cX12_shadow 29 = .ok (.aload_n 0, 1) := by decide +kernel
theorem dX12_shadow_30 : decode cX12_shadow 30 = .ok (.getfield 228, 3) := by decide +kernel
theorem dX12_shadow_33 : decode cX12_shadow 33 = .ok (.ifCond .lt 11, 3) := by decide +kernel
theorem dX12_shadow_36 : decode cX12_shadow 36 = .ok (.aload_n 0, 1) := by decide +kernel
theorem dX12_shadow_37 : decode cX12_shadow 37 = .ok (.iload_n 3, 1) := by decide +kernel
theorem dX12_shadow_38 : decode cX12_shadow 38 = .ok (.invokevirtual 284, 3) := by decide +kernel
theorem dX12_shadow_41 : decode cX12_shadow 41 = .ok (.ifCond .ne 8, 3) := by decide +kernel
theorem dX12_shadow_44 : decode cX12_shadow 44 = .ok (.bipush (-2), 2) := by decide +kernel
theorem dX12_shadow_46 : decode cX12_shadow 46 = .ok (.goto 8, 3) := by decide +kernel
theorem dX12_shadow_49 : decode cX12_shadow 49 = .ok (.aload_n 0, 1) := by decide +kernel
theorem dX12_shadow_50 : decode cX12_shadow 50 = .ok (.iload_n 3, 1) := by decide +kernel
theorem dX12_shadow_51 : decode cX12_shadow 51 = .ok (.invokevirtual 287, 3) := by decide +kernel
theorem dX12_shadow_54 : decode cX12_shadow 54 = .ok (.ireturn, 1) := by decide +kernel
theorem dX12_pixelOf_0 : decode cX12_pixelOf 0 = .ok (.aload_n 0, 1) := by decide +kernel
theorem dX12_pixelOf_1 : decode cX12_pixelOf 1 = .ok (.iload_n 1, 1) := by decide +kernel
theorem dX12_pixelOf_2 : decode cX12_pixelOf 2 = .ok (.iload_n 2, 1) := by decide +kernel
theorem dX12_pixelOf_3 : decode cX12_pixelOf 3 = .ok (.invokevirtual 247, 3) := by decide +kernel
theorem dX12_pixelOf_6 : decode cX12_pixelOf 6 = .ok (.aload_n 0, 1) := by decide +kernel
theorem dX12_pixelOf_7 : decode cX12_pixelOf 7 = .ok (.getfield 228, 3) := by decide +kernel
theorem dX12_pixelOf_10 : decode cX12_pixelOf 10 = .ok (.ifCond .ge 8, 3) := by decide +kernel
theorem dX12_pixelOf_13 : decode cX12_pixelOf 13 = .ok (.aload_n 0, 1) := by decide +kernel
theorem dX12_pixelOf_14 : decode cX12_pixelOf 14 = .ok (.getfield 184, 3) := by decide +kernel
theorem dX12_pixelOf_17 : decode cX12_pixelOf 17 = .ok (.ireturn, 1) := by decide +kernel
theorem dX12_pixelOf_18 : decode cX12_pixelOf 18 = .ok (.aload_n 0, 1) := by decide +kernel
theorem dX12_pixelOf_19 : decode cX12_pixelOf 19 = .ok (.getfield 181, 3) := by decide +kernel
theorem dX12_pixelOf_22 : decode cX12_pixelOf 22 = .ok (.istore_n 3, 1) := by decide +kernel
theorem dX12_pixelOf_23 : decode cX12_pixelOf 23 = .ok (.iconst 0, 1) := by decide +kernel
theorem dX12_pixelOf_24 : decode cX12_pixelOf 24 = .ok (.istore 4, 2) := by decide +kernel
theorem dX12_pixelOf_26 : decode cX12_pixelOf 26 = .ok (.iload 4, 2) := by decide +kernel
theorem dX12_pixelOf_28 : decode cX12_pixelOf 28 = .ok (.iconst 4, 1) := by decide +kernel
theorem dX12_pixelOf_29 : decode cX12_pixelOf 29 = .ok (.if_icmp .ge 63, 3) := by decide +kernel
theorem dX12_pixelOf_32 : decode cX12_pixelOf 32 = .ok (.aload_n 0, 1) := by decide +kernel
theorem dX12_pixelOf_33 : decode cX12_pixelOf 33 = .ok (.getfield 39, 3) := by decide +kernel
theorem dX12_pixelOf_36 : decode cX12_pixelOf 36 = .ok (.iload 4, 2) := by decide +kernel
theorem dX12_pixelOf_38 : decode cX12_pixelOf 38 = .ok (.iaload, 1) := by decide +kernel
theorem dX12_pixelOf_39 : decode cX12_pixelOf 39 = .ok (.ifCond .le 12, 3) := by decide +kernel
theorem dX12_pixelOf_42 : decode cX12_pixelOf 42 = .ok (.aload_n 0, 1) := by decide +kernel
theorem dX12_pixelOf_43 : decode cX12_pixelOf 43 = .ok (.iload 4, 2) := by decide +kernel
theorem dX12_pixelOf_45 : decode cX12_pixelOf 45 = .ok (.invokevirtual 294, 3) := by decide +kernel
theorem dX12_pixelOf_48 : decode cX12_pixelOf 48 = .ok (.goto 5, 3) := by decide +kernel
theorem dX12_pixelOf_51 : decode cX12_pixelOf 51 = .ok (.bipush (-2), 2) := by decide +kernel
theorem dX12_pixelOf_53 : decode cX12_pixelOf 53 = .ok (.istore 5, 2) := by decide +kernel
theorem dX12_pixelOf_55 : decode cX12_pixelOf 55 = .ok (.iload_n 3, 1) := by decide +kernel
theorem dX12_pixelOf_56 : decode cX12_pixelOf 56 = .ok (.iload 5, 2) := by decide +kernel
theorem dX12_pixelOf_58 : decode cX12_pixelOf 58 = .ok (.ifCond .lt 25, 3) := by decide +kernel
theorem dX12_pixelOf_61 : decode cX12_pixelOf 61 = .ok (.aload_n 0, 1) := by decide +kernel
theorem dX12_pixelOf_62 : decode cX12_pixelOf 62 = .ok (.getfield 39, 3) := by decide +kernel
theorem dX12_pixelOf_65 : decode cX12_pixelOf 65 = .ok (.iload 4, 2) := by decide +kernel
theorem dX12_pixelOf_67 : decode cX12_pixelOf 67 = .ok (.iaload, 1) := by decide +kernel
theorem dX12_pixelOf_68 : decode cX12_pixelOf 68 = .ok (.aload_n 0, 1) := by decide +kernel
theorem dX12_pixelOf_69 : decode cX12_pixelOf 69 = .ok (.getfield 42, 3) := by decide +kernel
theorem dX12_pixelOf_72 : decode cX12_pixelOf 72 = .ok (.iload 5, 2) := by decide +kernel
theorem dX12_pixelOf_74 : decode cX12_pixelOf 74 = .ok (.iaload, 1) := by decide +kernel
theorem dX12_pixelOf_75 : decode cX12_pixelOf 75 = .ok (.imul, 1) := by decide +kernel
theorem dX12_pixelOf_76 : decode cX12_pixelOf 76 = .ok (.sipush 255, 3) := by decide +kernel
theorem dX12_pixelOf_79 : decode cX12_pixelOf 79 = .ok (.idiv, 1) := by decide +kernel
theorem dX12_pixelOf_80 : decode cX12_pixelOf 80 = .ok (.goto 4, 3) := by decide +kernel
theorem dX12_pixelOf_83 : decode cX12_pixelOf 83 = .ok (.iconst 0, 1) := by decide +kernel
theorem dX12_pixelOf_84 : decode cX12_pixelOf 84 = .ok (.iadd, 1) := by decide +kernel
theorem dX12_pixelOf_85 : decode cX12_pixelOf 85 = .ok (.istore_n 3, 1) := by decide +kernel
theorem dX12_pixelOf_86 : decode cX12_pixelOf 86 = .ok (.iinc 4 1, 3) := by decide +kernel
theorem dX12_pixelOf_89 : decode cX12_pixelOf 89 = .ok (.goto (-63), 3) := by decide +kernel
theorem dX12_pixelOf_92 : decode cX12_pixelOf 92 = .ok (.aload_n 0, 1) := by decide +kernel
theorem dX12_pixelOf_93 : decode cX12_pixelOf 93 = .ok (.getfield 20, 3) := by decide +kernel
theorem dX12_pixelOf_96 : decode cX12_pixelOf 96 = .ok (.aload_n 0, 1) := by decide +kernel
theorem dX12_pixelOf_97 : decode cX12_pixelOf 97 = .ok (.getfield 228, 3) := by decide +kernel
theorem dX12_pixelOf_100 : decode cX12_pixelOf 100 = .ok (.iaload, 1) := by decide +kernel
theorem dX12_pixelOf_101 : decode cX12_pixelOf 101 = .ok (.iload_n 3, 1) := by decide +kernel
theorem dX12_pixelOf_102 : decode cX12_pixelOf 102 = .ok (.imul, 1) := by decide +kernel
theorem dX12_pixelOf_103 : decode cX12_pixelOf 103 = .ok (.sipush 255, 3) := by decide +kernel
theorem dX12_pixelOf_106 : decode cX12_pixelOf 106 = .ok (.idiv, 1) := by decide +kernel
theorem dX12_pixelOf_107 : decode cX12_pixelOf 107 = .ok (.istore 4, 2) := by decide +kernel
theorem dX12_pixelOf_109 : decode cX12_pixelOf 109 = .ok (.iload 4, 2) := by decide +kernel
theorem dX12_pixelOf_111 : decode cX12_pixelOf 111 = .ok (.sipush 255, 3) := by decide +kernel
theorem dX12_pixelOf_114 : decode cX12_pixelOf 114 = .ok (.if_icmp .le 9, 3) := by decide +kernel
theorem dX12_pixelOf_117 : decode cX12_pixelOf 117 = .ok (.sipush 255, 3) := by decide +kernel
theorem dX12_pixelOf_120 : decode cX12_pixelOf 120 = .ok (.goto 5, 3) := by decide +kernel
theorem dX12_pixelOf_123 : decode cX12_pixelOf 123 = .ok (.iload 4, 2) := by decide +kernel
theorem dX12_pixelOf_125 : decode cX12_pixelOf 125 = .ok (.ireturn, 1) := by decide +kernel
theorem dX12_pixel_0 : decode cX12_pixel 0 = .ok (.aload_n 0, 1) := by decide +kernel
theorem dX12_pixel_1 : decode cX12_pixel 1 = .ok (.iload_n 1, 1) := by decide +kernel
theorem dX12_pixel_2 : decode cX12_pixel 2 = .ok (.iload_n 2, 1) := by decide +kernel
theorem dX12_pixel_3 : decode cX12_pixel 3 = .ok (.invokevirtual 244, 3) := by decide +kernel
theorem dX12_pixel_6 : decode cX12_pixel 6 = .ok (.ifCond .eq 12, 3) := by decide +kernel
theorem dX12_pixel_9 : decode cX12_pixel 9 = .ok (.aload_n 0, 1) := by decide +kernel
theorem dX12_pixel_10 : decode cX12_pixel 10 = .ok (.iload_n 1, 1) := by decide +kernel
theorem dX12_pixel_11 : decode cX12_pixel 11 = .ok (.iload_n 2, 1) := by decide +kernel
theorem dX12_pixel_12 : decode cX12_pixel 12 = .ok (.invokevirtual 297, 3) := by decide +kernel
theorem dX12_pixel_15 : decode cX12_pixel 15 = .ok (.goto 4, 3) := by decide +kernel
theorem dX12_pixel_18 : decode cX12_pixel 18 = .ok (.iconst (-1), 1) := by decide +kernel
theorem dX12_pixel_19 : decode cX12_pixel 19 = .ok (.ireturn, 1) := by decide +kernel
theorem dX12_picture_0 : decode cX12_picture 0 = .ok (.iconst 1, 1) := by decide +kernel
theorem dX12_picture_1 : decode cX12_picture 1 = .ok (.istore 5, 2) := by decide +kernel
theorem dX12_picture_3 : decode cX12_picture 3 = .ok (.iconst 0, 1) := by decide +kernel
theorem dX12_picture_4 : decode cX12_picture 4 = .ok (.istore 6, 2) := by decide +kernel
theorem dX12_picture_6 : decode cX12_picture 6 = .ok (.iload 6, 2) := by decide +kernel
theorem dX12_picture_8 : decode cX12_picture 8 = .ok (.aload_n 0, 1) := by decide +kernel
theorem dX12_picture_9 : decode cX12_picture 9 = .ok (.getfield 33, 3) := by decide +kernel
theorem dX12_picture_12 : decode cX12_picture 12 = .ok (.if_icmp .ge 80, 3) := by decide +kernel
theorem dX12_picture_15 : decode cX12_picture 15 = .ok (.iconst 0, 1) := by decide +kernel
theorem dX12_picture_16 : decode cX12_picture 16 = .ok (.istore 7, 2) := by decide +kernel
theorem dX12_picture_18 : decode cX12_picture 18 = .ok (.iload 7, 2) := by decide +kernel
theorem dX12_picture_20 : decode cX12_picture 20 = .ok (.aload_n 0, 1) := by decide +kernel
theorem dX12_picture_21 : decode cX12_picture 21 = .ok (.getfield 29, 3) := by decide +kernel
theorem dX12_picture_24 : decode cX12_picture 24 = .ok (.if_icmp .ge 62, 3) := by decide +kernel
theorem dX12_picture_27 : decode cX12_picture 27 = .ok (.iload 7, 2) := by decide +kernel
theorem dX12_picture_29 : decode cX12_picture 29 = .ok (.iload_n 1, 1) := by decide +kernel
theorem dX12_picture_30 : decode cX12_picture 30 = .ok (.if_icmp .lt 50, 3) := by decide +kernel
theorem dX12_picture_33 : decode cX12_picture 33 = .ok (.iload 7, 2) := by decide +kernel
theorem dX12_picture_35 : decode cX12_picture 35 = .ok (.i2l, 1) := by decide +kernel
theorem dX12_picture_36 : decode cX12_picture 36 = .ok (.iload_n 1, 1) := by decide +kernel
theorem dX12_picture_37 : decode cX12_picture 37 = .ok (.i2l, 1) := by decide +kernel
theorem dX12_picture_38 : decode cX12_picture 38 = .ok (.iload_n 3, 1) := by decide +kernel
theorem dX12_picture_39 : decode cX12_picture 39 = .ok (.i2l, 1) := by decide +kernel
theorem dX12_picture_40 : decode cX12_picture 40 = .ok (.ladd, 1) := by decide +kernel
theorem dX12_picture_41 : decode cX12_picture 41 = .ok (.lcmp, 1) := by decide +kernel
theorem dX12_picture_42 : decode cX12_picture 42 = .ok (.ifCond .ge 38, 3) := by decide +kernel
theorem dX12_picture_45 : decode cX12_picture 45 = .ok (.iload 6, 2) := by decide +kernel
theorem dX12_picture_47 : decode cX12_picture 47 = .ok (.iload_n 2, 1) := by decide +kernel
theorem dX12_picture_48 : decode cX12_picture 48 = .ok (.if_icmp .lt 32, 3) := by decide +kernel
theorem dX12_picture_51 : decode cX12_picture 51 = .ok (.iload 6, 2) := by decide +kernel
theorem dX12_picture_53 : decode cX12_picture 53 = .ok (.i2l, 1) := by decide +kernel
theorem dX12_picture_54 : decode cX12_picture 54 = .ok (.iload_n 2, 1) := by decide +kernel
theorem dX12_picture_55 : decode cX12_picture 55 = .ok (.i2l, 1) := by decide +kernel
theorem dX12_picture_56 : decode cX12_picture 56 = .ok (.iload 4, 2) := by decide +kernel
theorem dX12_picture_58 : decode cX12_picture 58 = .ok (.i2l, 1) := by decide +kernel
theorem dX12_picture_59 : decode cX12_picture 59 = .ok (.ladd, 1) := by decide +kernel
theorem dX12_picture_60 : decode cX12_picture 60 = .ok (.lcmp, 1) := by decide +kernel
theorem dX12_picture_61 : decode cX12_picture 61 = .ok (.ifCond .ge 19, 3) := by decide +kernel
theorem dX12_picture_64 : decode cX12_picture 64 = .ok (.bipush 31, 2) := by decide +kernel
theorem dX12_picture_66 : decode cX12_picture 66 = .ok (.iload 5, 2) := by decide +kernel
theorem dX12_picture_68 : decode cX12_picture 68 = .ok (.imul, 1) := by decide +kernel
theorem dX12_picture_69 : decode cX12_picture 69 = .ok (.aload_n 0, 1) := by decide +kernel
theorem dX12_picture_70 : decode cX12_picture 70 = .ok (.iload 7, 2) := by decide +kernel
theorem dX12_picture_72 : decode cX12_picture 72 = .ok (.iload 6, 2) := by decide +kernel
theorem dX12_picture_74 : decode cX12_picture 74 = .ok (.invokevirtual 297, 3) := by decide +kernel
theorem dX12_picture_77 : decode cX12_picture 77 = .ok (.iadd, 1) := by decide +kernel
theorem dX12_picture_78 : decode cX12_picture 78 = .ok (.istore 5, 2) := by decide +kernel
theorem dX12_picture_80 : decode cX12_picture 80 = .ok (.iinc 7 1, 3) := by decide +kernel
theorem dX12_picture_83 : decode cX12_picture 83 = .ok (.goto (-65), 3) := by decide +kernel
theorem dX12_picture_86 : decode cX12_picture 86 = .ok (.iinc 6 1, 3) := by decide +kernel
theorem dX12_picture_89 : decode cX12_picture 89 = .ok (.goto (-83), 3) := by decide +kernel
theorem dX12_picture_92 : decode cX12_picture 92 = .ok (.iload 5, 2) := by decide +kernel
theorem dX12_picture_94 : decode cX12_picture 94 = .ok (.ireturn, 1) := by decide +kernel
theorem dX12_seen_0 : decode cX12_seen 0 = .ok (.iconst 0, 1) := by decide +kernel
theorem dX12_seen_1 : decode cX12_seen 1 = .ok (.istore_n 2, 1) := by decide +kernel
theorem dX12_seen_2 : decode cX12_seen 2 = .ok (.iload_n 2, 1) := by decide +kernel
theorem dX12_seen_3 : decode cX12_seen 3 = .ok (.aload_n 0, 1) := by decide +kernel
theorem dX12_seen_4 : decode cX12_seen 4 = .ok (.getfield 151, 3) := by decide +kernel
theorem dX12_seen_7 : decode cX12_seen 7 = .ok (.if_icmp .ge 16, 3) := by decide +kernel
theorem dX12_seen_10 : decode cX12_seen 10 = .ok (.aload_n 0, 1) := by decide +kernel
theorem dX12_seen_11 : decode cX12_seen 11 = .ok (.getfield 130, 3) := by decide +kernel
theorem dX12_seen_14 : decode cX12_seen 14 = .ok (.iload_n 2, 1) := by decide +kernel
theorem dX12_seen_15 : decode cX12_seen 15 = .ok (.iconst 0, 1) := by decide +kernel
theorem dX12_seen_16 : decode cX12_seen 16 = .ok (.bastore, 1) := by decide +kernel
theorem dX12_seen_17 : decode cX12_seen 17 = .ok (.iinc 2 1, 3) := by decide +kernel
theorem dX12_seen_20 : decode cX12_seen 20 = .ok (.goto (-18), 3) := by decide +kernel
theorem dX12_seen_23 : decode cX12_seen 23 = .ok (.iconst 0, 1) := by decide +kernel
theorem dX12_seen_24 : decode cX12_seen 24 = .ok (.istore_n 2, 1) := by decide +kernel
theorem dX12_seen_25 : decode cX12_seen 25 = .ok (.iload_n 2, 1) := by decide +kernel
theorem dX12_seen_26 : decode cX12_seen 26 = .ok (.aload_n 0, 1) := by decide +kernel
theorem dX12_seen_27 : decode cX12_seen 27 = .ok (.getfield 33, 3) := by decide +kernel
theorem dX12_seen_30 : decode cX12_seen 30 = .ok (.if_icmp .ge 48, 3) := by decide +kernel
theorem dX12_seen_33 : decode cX12_seen 33 = .ok (.iconst 0, 1) := by decide +kernel
theorem dX12_seen_34 : decode cX12_seen 34 = .ok (.istore_n 3, 1) := by decide +kernel
theorem dX12_seen_35 : decode cX12_seen 35 = .ok (.iload_n 3, 1) := by decide +kernel
theorem dX12_seen_36 : decode cX12_seen 36 = .ok (.aload_n 0, 1) := by decide +kernel
theorem dX12_seen_37 : decode cX12_seen 37 = .ok (.getfield 29, 3) := by decide +kernel
theorem dX12_seen_40 : decode cX12_seen 40 = .ok (.if_icmp .ge 32, 3) := by decide +kernel
theorem dX12_seen_43 : decode cX12_seen 43 = .ok (.aload_n 0, 1) := by decide +kernel
theorem dX12_seen_44 : decode cX12_seen 44 = .ok (.iload_n 3, 1) := by decide +kernel
theorem dX12_seen_45 : decode cX12_seen 45 = .ok (.iload_n 2, 1) := by decide +kernel
theorem dX12_seen_46 : decode cX12_seen 46 = .ok (.invokevirtual 247, 3) := by decide +kernel
theorem dX12_seen_49 : decode cX12_seen 49 = .ok (.aload_n 0, 1) := by decide +kernel
theorem dX12_seen_50 : decode cX12_seen 50 = .ok (.getfield 228, 3) := by decide +kernel
theorem dX12_seen_53 : decode cX12_seen 53 = .ok (.ifCond .lt 13, 3) := by decide +kernel
theorem dX12_seen_56 : decode cX12_seen 56 = .ok (.aload_n 0, 1) := by decide +kernel
theorem dX12_seen_57 : decode cX12_seen 57 = .ok (.getfield 130, 3) := by decide +kernel
theorem dX12_seen_60 : decode cX12_seen 60 = .ok (.aload_n 0, 1) := by decide +kernel
theorem dX12_seen_61 : decode cX12_seen 61 = .ok (.getfield 228, 3) := by decide +kernel
theorem dX12_seen_64 : decode cX12_seen 64 = .ok (.iconst 1, 1) := by decide +kernel
theorem dX12_seen_65 : decode cX12_seen 65 = .ok (.bastore, 1) := by decide +kernel
theorem dX12_seen_66 : decode cX12_seen 66 = .ok (.iinc 3 1, 3) := by decide +kernel
theorem dX12_seen_69 : decode cX12_seen 69 = .ok (.goto (-34), 3) := by decide +kernel
theorem dX12_seen_72 : decode cX12_seen 72 = .ok (.iinc 2 1, 3) := by decide +kernel
theorem dX12_seen_75 : decode cX12_seen 75 = .ok (.goto (-50), 3) := by decide +kernel
theorem dX12_seen_78 : decode cX12_seen 78 = .ok (.iconst 0, 1) := by decide +kernel
theorem dX12_seen_79 : decode cX12_seen 79 = .ok (.istore_n 2, 1) := by decide +kernel
theorem dX12_seen_80 : decode cX12_seen 80 = .ok (.iconst 0, 1) := by decide +kernel
theorem dX12_seen_81 : decode cX12_seen 81 = .ok (.istore_n 3, 1) := by decide +kernel
theorem dX12_seen_82 : decode cX12_seen 82 = .ok (.iload_n 3, 1) := by decide +kernel
theorem dX12_seen_83 : decode cX12_seen 83 = .ok (.aload_n 0, 1) := by decide +kernel
theorem dX12_seen_84 : decode cX12_seen 84 = .ok (.getfield 151, 3) := by decide +kernel
theorem dX12_seen_87 : decode cX12_seen 87 = .ok (.if_icmp .ge 28, 3) := by decide +kernel
theorem dX12_seen_90 : decode cX12_seen 90 = .ok (.aload_n 0, 1) := by decide +kernel
theorem dX12_seen_91 : decode cX12_seen 91 = .ok (.getfield 130, 3) := by decide +kernel
theorem dX12_seen_94 : decode cX12_seen 94 = .ok (.iload_n 3, 1) := by decide +kernel
theorem dX12_seen_95 : decode cX12_seen 95 = .ok (.baload, 1) := by decide +kernel
theorem dX12_seen_96 : decode cX12_seen 96 = .ok (.ifCond .eq 13, 3) := by decide +kernel
theorem dX12_seen_99 : decode cX12_seen 99 = .ok (.iload_n 2, 1) := by decide +kernel
theorem dX12_seen_100 : decode cX12_seen 100 = .ok (.iload_n 1, 1) := by decide +kernel
theorem dX12_seen_101 : decode cX12_seen 101 = .ok (.if_icmp .ne 5, 3) := by decide +kernel
theorem dX12_seen_104 : decode cX12_seen 104 = .ok (.iload_n 3, 1) := by decide +kernel
theorem dX12_seen_105 : decode cX12_seen 105 = .ok (.ireturn, 1) := by decide +kernel
theorem dX12_seen_106 : decode cX12_seen 106 = .ok (.iinc 2 1, 3) := by decide +kernel
theorem dX12_seen_109 : decode cX12_seen 109 = .ok (.iinc 3 1, 3) := by decide +kernel
theorem dX12_seen_112 : decode cX12_seen 112 = .ok (.goto (-30), 3) := by decide +kernel
theorem dX12_seen_115 : decode cX12_seen 115 = .ok (.iload_n 1, 1) := by decide +kernel
theorem dX12_seen_116 : decode cX12_seen 116 = .ok (.iconst (-1), 1) := by decide +kernel
theorem dX12_seen_117 : decode cX12_seen 117 = .ok (.if_icmp .ne 7, 3) := by decide +kernel
theorem dX12_seen_120 : decode cX12_seen 120 = .ok (.iload_n 2, 1) := by decide +kernel
theorem dX12_seen_121 : decode cX12_seen 121 = .ok (.goto 4, 3) := by decide +kernel
theorem dX12_seen_124 : decode cX12_seen 124 = .ok (.iconst (-1), 1) := by decide +kernel
theorem dX12_seen_125 : decode cX12_seen 125 = .ok (.ireturn, 1) := by decide +kernel
theorem dX12_facing_0 : decode cX12_facing 0 = .ok (.iload_n 1, 1) := by decide +kernel
theorem dX12_facing_1 : decode cX12_facing 1 = .ok (.i2l, 1) := by decide +kernel
theorem dX12_facing_2 : decode cX12_facing 2 = .ok (.lconst 0, 1) := by decide +kernel
theorem dX12_facing_3 : decode cX12_facing 3 = .ok (.aload_n 0, 1) := by decide +kernel
theorem dX12_facing_4 : decode cX12_facing 4 = .ok (.getfield 151, 3) := by decide +kernel
theorem dX12_facing_7 : decode cX12_facing 7 = .ok (.iconst 1, 1) := by decide +kernel
theorem dX12_facing_8 : decode cX12_facing 8 = .ok (.isub, 1) := by decide +kernel
theorem dX12_facing_9 : decode cX12_facing 9 = .ok (.i2l, 1) := by decide +kernel
theorem dX12_facing_10 : decode cX12_facing 10 = .ok (.invokestatic 140, 3) := by decide +kernel
theorem dX12_facing_13 : decode cX12_facing 13 = .ok (.ifCond .eq 16, 3) := by decide +kernel
theorem dX12_facing_16 : decode cX12_facing 16 = .ok (.aload_n 0, 1) := by decide +kernel
theorem dX12_facing_17 : decode cX12_facing 17 = .ok (.iload_n 1, 1) := by decide +kernel
theorem dX12_facing_18 : decode cX12_facing 18 = .ok (.aload_n 0, 1) := by decide +kernel
theorem dX12_facing_19 : decode cX12_facing 19 = .ok (.getfield 23, 3) := by decide +kernel
theorem dX12_facing_22 : decode cX12_facing 22 = .ok (.iconst 0, 1) := by decide +kernel
theorem dX12_facing_23 : decode cX12_facing 23 = .ok (.invokevirtual 265, 3) := by decide +kernel
theorem dX12_facing_26 : decode cX12_facing 26 = .ok (.goto 5, 3) := by decide +kernel
theorem dX12_facing_29 : decode cX12_facing 29 = .ok (.bipush (-2), 2) := by decide +kernel
theorem dX12_facing_31 : decode cX12_facing 31 = .ok (.ireturn, 1) := by decide +kernel
theorem dX12_areApart_0 : decode cX12_areApart 0 = .ok (.ldc2_w 300, 3) := by decide +kernel
theorem dX12_areApart_3 : decode cX12_areApart 3 = .ok (.lstore_n 2, 1) := by decide +kernel
theorem dX12_areApart_4 : decode cX12_areApart 4 = .ok (.ldc2_w 302, 3) := by decide +kernel
theorem dX12_areApart_7 : decode cX12_areApart 7 = .ok (.lstore 4, 2) := by decide +kernel
theorem dX12_areApart_9 : decode cX12_areApart 9 = .ok (.iconst 0, 1) := by decide +kernel
theorem dX12_areApart_10 : decode cX12_areApart 10 = .ok (.istore 6, 2) := by decide +kernel
theorem dX12_areApart_12 : decode cX12_areApart 12 = .ok (.iload 6, 2) := by decide +kernel
theorem dX12_areApart_14 : decode cX12_areApart 14 = .ok (.iconst 3, 1) := by decide +kernel
theorem dX12_areApart_15 : decode cX12_areApart 15 = .ok (.if_icmp .ge 89, 3) := by decide +kernel
theorem dX12_areApart_18 : decode cX12_areApart 18 = .ok (.lconst 0, 1) := by decide +kernel
theorem dX12_areApart_19 : decode cX12_areApart 19 = .ok (.lstore 7, 2) := by decide +kernel
theorem dX12_areApart_21 : decode cX12_areApart 21 = .ok (.iconst 0, 1) := by decide +kernel
theorem dX12_areApart_22 : decode cX12_areApart 22 = .ok (.istore 9, 2) := by decide +kernel
theorem dX12_areApart_24 : decode cX12_areApart 24 = .ok (.iload 9, 2) := by decide +kernel
theorem dX12_areApart_26 : decode cX12_areApart 26 = .ok (.iconst 3, 1) := by decide +kernel
theorem dX12_areApart_27 : decode cX12_areApart 27 = .ok (.if_icmp .ge 40, 3) := by decide +kernel
theorem dX12_areApart_30 : decode cX12_areApart 30 = .ok (.lload 7, 2) := by decide +kernel
theorem dX12_areApart_32 : decode cX12_areApart 32 = .ok (.aload_n 0, 1) := by decide +kernel
theorem dX12_areApart_33 : decode cX12_areApart 33 = .ok (.getfield 133, 3) := by decide +kernel
theorem dX12_areApart_36 : decode cX12_areApart 36 = .ok (.iload 9, 2) := by decide +kernel
theorem dX12_areApart_38 : decode cX12_areApart 38 = .ok (.laload, 1) := by decide +kernel
theorem dX12_areApart_39 : decode cX12_areApart 39 = .ok (.aload_n 0, 1) := by decide +kernel
theorem dX12_areApart_40 : decode cX12_areApart 40 = .ok (.getfield 13, 3) := by decide +kernel
theorem dX12_areApart_43 : decode cX12_areApart 43 = .ok (.bipush 9, 2) := by decide +kernel
theorem dX12_areApart_45 : decode cX12_areApart 45 = .ok (.iload_n 1, 1) := by decide +kernel
theorem dX12_areApart_46 : decode cX12_areApart 46 = .ok (.imul, 1) := by decide +kernel
theorem dX12_areApart_47 : decode cX12_areApart 47 = .ok (.iconst 3, 1) := by decide +kernel
theorem dX12_areApart_48 : decode cX12_areApart 48 = .ok (.iload 6, 2) := by decide +kernel
theorem dX12_areApart_50 : decode cX12_areApart 50 = .ok (.imul, 1) := by decide +kernel
theorem dX12_areApart_51 : decode cX12_areApart 51 = .ok (.iadd, 1) := by decide +kernel
theorem dX12_areApart_52 : decode cX12_areApart 52 = .ok (.iload 9, 2) := by decide +kernel
theorem dX12_areApart_54 : decode cX12_areApart 54 = .ok (.iadd, 1) := by decide +kernel
theorem dX12_areApart_55 : decode cX12_areApart 55 = .ok (.iaload, 1) := by decide +kernel
theorem dX12_areApart_56 : decode cX12_areApart 56 = .ok (.i2l, 1) := by decide +kernel
theorem dX12_areApart_57 : decode cX12_areApart 57 = .ok (.lmul, 1) := by decide +kernel
theorem dX12_areApart_58 : decode cX12_areApart 58 = .ok (.ladd, 1) := by decide +kernel
theorem dX12_areApart_59 : decode cX12_areApart 59 = .ok (.lstore 7, 2) := by decide +kernel
theorem dX12_areApart_61 : decode cX12_areApart 61 = .ok (.iinc 9 1, 3) := by decide +kernel
theorem dX12_areApart_64 : decode cX12_areApart 64 = .ok (.goto (-40), 3) := by decide +kernel
theorem dX12_areApart_67 : decode cX12_areApart 67 = .ok (.lload 7, 2) := by decide +kernel
theorem dX12_areApart_69 : decode cX12_areApart 69 = .ok (.lload_n 2, 1) := by decide +kernel
theorem dX12_areApart_70 : decode cX12_areApart 70 = .ok (.lcmp, 1) := by decide +kernel
theorem dX12_areApart_71 : decode cX12_areApart 71 = .ok (.ifCond .ge 8, 3) := by decide +kernel
theorem dX12_areApart_74 : decode cX12_areApart 74 = .ok (.lload 7, 2) := by decide +kernel
theorem dX12_areApart_76 : decode cX12_areApart 76 = .ok (.goto 4, 3) := by decide +kernel
theorem dX12_areApart_79 : decode cX12_areApart 79 = .ok (.lload_n 2, 1) := by decide +kernel
theorem dX12_areApart_80 : decode cX12_areApart 80 = .ok (.lstore_n 2, 1) := by decide +kernel
theorem dX12_areApart_81 : decode cX12_areApart 81 = .ok (.lload 7, 2) := by decide +kernel
theorem dX12_areApart_83 : decode cX12_areApart 83 = .ok (.lload 4, 2) := by decide +kernel
theorem dX12_areApart_85 : decode cX12_areApart 85 = .ok (.lcmp, 1) := by decide +kernel
theorem dX12_areApart_86 : decode cX12_areApart 86 = .ok (.ifCond .le 8, 3) := by decide +kernel
theorem dX12_areApart_89 : decode cX12_areApart 89 = .ok (.lload 7, 2) := by decide +kernel
theorem dX12_areApart_91 : decode cX12_areApart 91 = .ok (.goto 5, 3) := by decide +kernel
theorem dX12_areApart_94 : decode cX12_areApart 94 = .ok (.lload 4, 2) := by decide +kernel
theorem dX12_areApart_96 : decode cX12_areApart 96 = .ok (.lstore 4, 2) := by decide +kernel
theorem dX12_areApart_98 : decode cX12_areApart 98 = .ok (.iinc 6 1, 3) := by decide +kernel
theorem dX12_areApart_101 : decode cX12_areApart 101 = .ok (.goto (-89), 3) := by decide +kernel
theorem dX12_areApart_104 : decode cX12_areApart 104 = .ok (.lconst 0, 1) := by decide +kernel
theorem dX12_areApart_105 : decode cX12_areApart 105 = .ok (.lstore 6, 2) := by decide +kernel
theorem dX12_areApart_107 : decode cX12_areApart 107 = .ok (.lconst 0, 1) := by decide +kernel
theorem dX12_areApart_108 : decode cX12_areApart 108 = .ok (.lstore 8, 2) := by decide +kernel
theorem dX12_areApart_110 : decode cX12_areApart 110 = .ok (.iconst 0, 1) := by decide +kernel
theorem dX12_areApart_111 : decode cX12_areApart 111 = .ok (.istore 10, 2) := by decide +kernel
theorem dX12_areApart_113 : decode cX12_areApart 113 = .ok (.iload 10, 2) := by decide +kernel
theorem dX12_areApart_115 : decode cX12_areApart 115 = .ok (.iconst 3, 1) := by decide +kernel
theorem dX12_areApart_116 : decode cX12_areApart 116 = .ok (.if_icmp .ge 87, 3) := by decide +kernel
theorem dX12_areApart_119 : decode cX12_areApart 119 = .ok (.aload_n 0, 1) := by decide +kernel
theorem dX12_areApart_120 : decode cX12_areApart 120 = .ok (.getfield 133, 3) := by decide +kernel
theorem dX12_areApart_123 : decode cX12_areApart 123 = .ok (.iload 10, 2) := by decide +kernel
theorem dX12_areApart_125 : decode cX12_areApart 125 = .ok (.laload, 1) := by decide +kernel
theorem dX12_areApart_126 : decode cX12_areApart 126 = .ok (.aload_n 0, 1) := by decide +kernel
theorem dX12_areApart_127 : decode cX12_areApart 127 = .ok (.getfield 7, 3) := by decide +kernel
theorem dX12_areApart_130 : decode cX12_areApart 130 = .ok (.iload 10, 2) := by decide +kernel
theorem dX12_areApart_132 : decode cX12_areApart 132 = .ok (.iaload, 1) := by decide +kernel
theorem dX12_areApart_133 : decode cX12_areApart 133 = .ok (.i2l, 1) := by decide +kernel
theorem dX12_areApart_134 : decode cX12_areApart 134 = .ok (.lmul, 1) := by decide +kernel
theorem dX12_areApart_135 : decode cX12_areApart 135 = .ok (.lstore 11, 2) := by decide +kernel
theorem dX12_areApart_137 : decode cX12_areApart 137 = .ok (.aload_n 0, 1) := by decide +kernel
theorem dX12_areApart_138 : decode cX12_areApart 138 = .ok (.getfield 133, 3) := by decide +kernel
theorem dX12_areApart_141 : decode cX12_areApart 141 = .ok (.iload 10, 2) := by decide +kernel
theorem dX12_areApart_143 : decode cX12_areApart 143 = .ok (.laload, 1) := by decide +kernel
theorem dX12_areApart_144 : decode cX12_areApart 144 = .ok (.aload_n 0, 1) := by decide +kernel
theorem dX12_areApart_145 : decode cX12_areApart 145 = .ok (.getfield 7, 3) := by decide +kernel
theorem dX12_areApart_148 : decode cX12_areApart 148 = .ok (.iconst 3, 1) := by decide +kernel
theorem dX12_areApart_149 : decode cX12_areApart 149 = .ok (.iload 10, 2) := by decide +kernel
theorem dX12_areApart_151 : decode cX12_areApart 151 = .ok (.iadd, 1) := by decide +kernel
theorem dX12_areApart_152 : decode cX12_areApart 152 = .ok (.iaload, 1) := by decide +kernel
theorem dX12_areApart_153 : decode cX12_areApart 153 = .ok (.i2l, 1) := by decide +kernel
theorem dX12_areApart_154 : decode cX12_areApart 154 = .ok (.lmul, 1) := by decide +kernel
theorem dX12_areApart_155 : decode cX12_areApart 155 = .ok (.lstore 13, 2) := by decide +kernel
theorem dX12_areApart_157 : decode cX12_areApart 157 = .ok (.lload 6, 2) := by decide +kernel
theorem dX12_areApart_159 : decode cX12_areApart 159 = .ok (.lload 11, 2) := by decide +kernel
theorem dX12_areApart_161 : decode cX12_areApart 161 = .ok (.lload 13, 2) := by decide +kernel
theorem dX12_areApart_163 : decode cX12_areApart 163 = .ok (.lcmp, 1) := by decide +kernel
theorem dX12_areApart_164 : decode cX12_areApart 164 = .ok (.ifCond .ge 8, 3) := by decide +kernel
theorem dX12_areApart_167 : decode cX12_areApart 167 = .ok (.lload 11, 2) := by decide +kernel
theorem dX12_areApart_169 : decode cX12_areApart 169 = .ok (.goto 5, 3) := by decide +kernel
theorem dX12_areApart_172 : decode cX12_areApart 172 = .ok (.lload 13, 2) := by decide +kernel
theorem dX12_areApart_174 : decode cX12_areApart 174 = .ok (.ladd, 1) := by decide +kernel
theorem dX12_areApart_175 : decode cX12_areApart 175 = .ok (.lstore 6, 2) := by decide +kernel
theorem dX12_areApart_177 : decode cX12_areApart 177 = .ok (.lload 8, 2) := by decide +kernel
theorem dX12_areApart_179 : decode cX12_areApart 179 = .ok (.lload 11, 2) := by decide +kernel
theorem dX12_areApart_181 : decode cX12_areApart 181 = .ok (.lload 13, 2) := by decide +kernel
theorem dX12_areApart_183 : decode cX12_areApart 183 = .ok (.lcmp, 1) := by decide +kernel
theorem dX12_areApart_184 : decode cX12_areApart 184 = .ok (.ifCond .ge 8, 3) := by decide +kernel
theorem dX12_areApart_187 : decode cX12_areApart 187 = .ok (.lload 13, 2) := by decide +kernel
theorem dX12_areApart_189 : decode cX12_areApart 189 = .ok (.goto 5, 3) := by decide +kernel
theorem dX12_areApart_192 : decode cX12_areApart 192 = .ok (.lload 11, 2) := by decide +kernel
theorem dX12_areApart_194 : decode cX12_areApart 194 = .ok (.ladd, 1) := by decide +kernel
theorem dX12_areApart_195 : decode cX12_areApart 195 = .ok (.lstore 8, 2) := by decide +kernel
theorem dX12_areApart_197 : decode cX12_areApart 197 = .ok (.iinc 10 1, 3) := by decide +kernel
theorem dX12_areApart_200 : decode cX12_areApart 200 = .ok (.goto (-87), 3) := by decide +kernel
theorem dX12_areApart_203 : decode cX12_areApart 203 = .ok (.lload 4, 2) := by decide +kernel
theorem dX12_areApart_205 : decode cX12_areApart 205 = .ok (.lload 6, 2) := by decide +kernel
theorem dX12_areApart_207 : decode cX12_areApart 207 = .ok (.lcmp, 1) := by decide +kernel
