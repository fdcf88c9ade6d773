theorem dX8_init_0 : decode cX8_init 0 = .ok (.aload_n 0, 1) := by decide +kernel
theorem dX8_init_1 : decode cX8_init 1 = .ok (.invokespecial 3, 3) := by decide +kernel
theorem dX8_init_4 : decode cX8_init 4 = .ok (.aload_n 0, 1) := by decide +kernel
theorem dX8_init_5 : decode cX8_init 5 = .ok (.new 9, 3) := by decide +kernel
theorem dX8_init_8 : decode cX8_init 8 = .ok (.dup, 1) := by decide +kernel
theorem dX8_init_9 : decode cX8_init 9 = .ok (.invokespecial 11, 3) := by decide +kernel
theorem dX8_init_12 : decode cX8_init 12 = .ok (.putfield 12, 3) := by decide +kernel
theorem dX8_init_15 : decode cX8_init 15 = .ok (.aload_n 0, 1) := by decide +kernel
theorem dX8_init_16 : decode cX8_init 16 = .ok (.new 9, 3) := by decide +kernel
theorem dX8_init_19 : decode cX8_init 19 = .ok (.dup, 1) := by decide +kernel
theorem dX8_init_20 : decode cX8_init 20 = .ok (.invokespecial 11, 3) := by decide +kernel
theorem dX8_init_23 : decode cX8_init 23 = .ok (.putfield 18, 3) := by decide +kernel
theorem dX8_init_26 : decode cX8_init 26 = .ok (.aload_n 0, 1) := by decide +kernel
theorem dX8_init_27 : decode cX8_init 27 = .ok (.new 9, 3) := by decide +kernel
theorem dX8_init_30 : decode cX8_init 30 = .ok (.dup, 1) := by decide +kernel
theorem dX8_init_31 : decode cX8_init 31 = .ok (.invokespecial 11, 3) := by decide +kernel
theorem dX8_init_34 : decode cX8_init 34 = .ok (.putfield 21, 3) := by decide +kernel
theorem dX8_init_37 : decode cX8_init 37 = .ok (.aload_n 0, 1) := by decide +kernel
theorem dX8_init_38 : decode cX8_init 38 = .ok (.new 9, 3) := by decide +kernel
theorem dX8_init_41 : decode cX8_init 41 = .ok (.dup, 1) := by decide +kernel
theorem dX8_init_42 : decode cX8_init 42 = .ok (.invokespecial 11, 3) := by decide +kernel
theorem dX8_init_45 : decode cX8_init 45 = .ok (.putfield 24, 3) := by decide +kernel
theorem dX8_init_48 : decode cX8_init 48 = .ok (.aload_n 0, 1) := by decide +kernel
theorem dX8_init_49 : decode cX8_init 49 = .ok (.new 9, 3) := by decide +kernel
theorem dX8_init_52 : decode cX8_init 52 = .ok (.dup, 1) := by decide +kernel
theorem dX8_init_53 : decode cX8_init 53 = .ok (.invokespecial 11, 3) := by decide +kernel
theorem dX8_init_56 : decode cX8_init 56 = .ok (.putfield 27, 3) := by decide +kernel
theorem dX8_init_59 : decode cX8_init 59 = .ok (.aload_n 0, 1) := by decide +kernel
theorem dX8_init_60 : decode cX8_init 60 = .ok (.new 9, 3) := by decide +kernel
theorem dX8_init_63 : decode cX8_init 63 = .ok (.dup, 1) := by decide +kernel
theorem dX8_init_64 : decode cX8_init 64 = .ok (.invokespecial 11, 3) := by decide +kernel
theorem dX8_init_67 : decode cX8_init 67 = .ok (.putfield 30, 3) := by decide +kernel
theorem dX8_init_70 : decode cX8_init 70 = .ok (.return_, 1) := by decide +kernel
theorem dX8_level_0 : decode cX8_level 0 = .ok (.aload_n 0, 1) := by decide +kernel
theorem dX8_level_1 : decode cX8_level 1 = .ok (.getfield 12, 3) := by decide +kernel
theorem dX8_level_4 : decode cX8_level 4 = .ok (.ldc2_w 33, 3) := by decide +kernel
theorem dX8_level_7 : decode cX8_level 7 = .ok (.lload_n 1, 1) := by decide +kernel
theorem dX8_level_8 : decode cX8_level 8 = .ok (.lmul, 1) := by decide +kernel
theorem dX8_level_9 : decode cX8_level 9 = .ok (.invokevirtual 35, 3) := by decide +kernel
theorem dX8_level_12 : decode cX8_level 12 = .ok (.aload_n 0, 1) := by decide +kernel
theorem dX8_level_13 : decode cX8_level 13 = .ok (.getfield 24, 3) := by decide +kernel
theorem dX8_level_16 : decode cX8_level 16 = .ok (.aload_n 0, 1) := by decide +kernel
theorem dX8_level_17 : decode cX8_level 17 = .ok (.getfield 12, 3) := by decide +kernel
theorem dX8_level_20 : decode cX8_level 20 = .ok (.aload_n 0, 1) := by decide +kernel
theorem dX8_level_21 : decode cX8_level 21 = .ok (.getfield 12, 3) := by decide +kernel
theorem dX8_level_24 : decode cX8_level 24 = .ok (.invokevirtual 39, 3) := by decide +kernel
theorem dX8_level_27 : decode cX8_level 27 = .ok (.aload_n 0, 1) := by decide +kernel
theorem dX8_level_28 : decode cX8_level 28 = .ok (.getfield 21, 3) := by decide +kernel
theorem dX8_level_31 : decode cX8_level 31 = .ok (.lconst 0, 1) := by decide +kernel
theorem dX8_level_32 : decode cX8_level 32 = .ok (.invokevirtual 35, 3) := by decide +kernel
theorem dX8_level_35 : decode cX8_level 35 = .ok (.iconst 0, 1) := by decide +kernel
theorem dX8_level_36 : decode cX8_level 36 = .ok (.istore 6, 2) := by decide +kernel
theorem dX8_level_38 : decode cX8_level 38 = .ok (.iload 6, 2) := by decide +kernel
theorem dX8_level_40 : decode cX8_level 40 = .ok (.aload 5, 2) := by decide +kernel
theorem dX8_level_42 : decode cX8_level 42 = .ok (.arraylength, 1) := by decide +kernel
theorem dX8_level_43 : decode cX8_level 43 = .ok (.if_icmp .ge 50, 3) := by decide +kernel
theorem dX8_level_46 : decode cX8_level 46 = .ok (.aload_n 0, 1) := by decide +kernel
theorem dX8_level_47 : decode cX8_level 47 = .ok (.getfield 12, 3) := by decide +kernel
theorem dX8_level_50 : decode cX8_level 50 = .ok (.aload 5, 2) := by decide +kernel
theorem dX8_level_52 : decode cX8_level 52 = .ok (.iload 6, 2) := by decide +kernel
theorem dX8_level_54 : decode cX8_level 54 = .ok (.laload, 1) := by decide +kernel
theorem dX8_level_55 : decode cX8_level 55 = .ok (.invokestatic 43, 3) := by decide +kernel
theorem dX8_level_58 : decode cX8_level 58 = .ok (.invokevirtual 35, 3) := by decide +kernel
theorem dX8_level_61 : decode cX8_level 61 = .ok (.aload_n 0, 1) := by decide +kernel
theorem dX8_level_62 : decode cX8_level 62 = .ok (.getfield 18, 3) := by decide +kernel
theorem dX8_level_65 : decode cX8_level 65 = .ok (.aload_n 0, 1) := by decide +kernel
theorem dX8_level_66 : decode cX8_level 66 = .ok (.getfield 12, 3) := by decide +kernel
theorem dX8_level_69 : decode cX8_level 69 = .ok (.aload_n 0, 1) := by decide +kernel
theorem dX8_level_70 : decode cX8_level 70 = .ok (.getfield 12, 3) := by decide +kernel
theorem dX8_level_73 : decode cX8_level 73 = .ok (.invokevirtual 39, 3) := by decide +kernel
theorem dX8_level_76 : decode cX8_level 76 = .ok (.aload_n 0, 1) := by decide +kernel
theorem dX8_level_77 : decode cX8_level 77 = .ok (.getfield 21, 3) := by decide +kernel
theorem dX8_level_80 : decode cX8_level 80 = .ok (.aload_n 0, 1) := by decide +kernel
theorem dX8_level_81 : decode cX8_level 81 = .ok (.getfield 18, 3) := by decide +kernel
theorem dX8_level_84 : decode cX8_level 84 = .ok (.invokevirtual 49, 3) := by decide +kernel
theorem dX8_level_87 : decode cX8_level 87 = .ok (.iinc 6 1, 3) := by decide +kernel
theorem dX8_level_90 : decode cX8_level 90 = .ok (.goto (-52), 3) := by decide +kernel
theorem dX8_level_93 : decode cX8_level 93 = .ok (.aload_n 0, 1) := by decide +kernel
theorem dX8_level_94 : decode cX8_level 94 = .ok (.getfield 12, 3) := by decide +kernel
theorem dX8_level_97 : decode cX8_level 97 = .ok (.lload_n 3, 1) := by decide +kernel
theorem dX8_level_98 : decode cX8_level 98 = .ok (.invokevirtual 35, 3) := by decide +kernel
theorem dX8_level_101 : decode cX8_level 101 = .ok (.aload_n 0, 1) := by decide +kernel
theorem dX8_level_102 : decode cX8_level 102 = .ok (.getfield 27, 3) := by decide +kernel
theorem dX8_level_105 : decode cX8_level 105 = .ok (.aload_n 0, 1) := by decide +kernel
theorem dX8_level_106 : decode cX8_level 106 = .ok (.getfield 21, 3) := by decide +kernel
theorem dX8_level_109 : decode cX8_level 109 = .ok (.aload_n 0, 1) := by decide +kernel
theorem dX8_level_110 : decode cX8_level 110 = .ok (.getfield 12, 3) := by decide +kernel
theorem dX8_level_113 : decode cX8_level 113 = .ok (.invokevirtual 39, 3) := by decide +kernel
theorem dX8_level_116 : decode cX8_level 116 = .ok (.bipush 15, 2) := by decide +kernel
theorem dX8_level_118 : decode cX8_level 118 = .ok (.istore 6, 2) := by decide +kernel
theorem dX8_level_120 : decode cX8_level 120 = .ok (.iload 6, 2) := by decide +kernel
theorem dX8_level_122 : decode cX8_level 122 = .ok (.ifCond .le 54, 3) := by decide +kernel
theorem dX8_level_125 : decode cX8_level 125 = .ok (.aload_n 0, 1) := by decide +kernel
theorem dX8_level_126 : decode cX8_level 126 = .ok (.getfield 12, 3) := by decide +kernel
theorem dX8_level_129 : decode cX8_level 129 = .ok (.iload 6, 2) := by decide +kernel
theorem dX8_level_131 : decode cX8_level 131 = .ok (.iload 6, 2) := by decide +kernel
theorem dX8_level_133 : decode cX8_level 133 = .ok (.imul, 1) := by decide +kernel
theorem dX8_level_134 : decode cX8_level 134 = .ok (.i2l, 1) := by decide +kernel
theorem dX8_level_135 : decode cX8_level 135 = .ok (.invokevirtual 35, 3) := by decide +kernel
theorem dX8_level_138 : decode cX8_level 138 = .ok (.aload_n 0, 1) := by decide +kernel
theorem dX8_level_139 : decode cX8_level 139 = .ok (.getfield 30, 3) := by decide +kernel
theorem dX8_level_142 : decode cX8_level 142 = .ok (.aload_n 0, 1) := by decide +kernel
theorem dX8_level_143 : decode cX8_level 143 = .ok (.getfield 27, 3) := by decide +kernel
theorem dX8_level_146 : decode cX8_level 146 = .ok (.aload_n 0, 1) := by decide +kernel
theorem dX8_level_147 : decode cX8_level 147 = .ok (.getfield 12, 3) := by decide +kernel
theorem dX8_level_150 : decode cX8_level 150 = .ok (.invokevirtual 39, 3) := by decide +kernel
theorem dX8_level_153 : decode cX8_level 153 = .ok (.aload_n 0, 1) := by decide +kernel
theorem dX8_level_154 : decode cX8_level 154 = .ok (.getfield 24, 3) := by decide +kernel
theorem dX8_level_157 : decode cX8_level 157 = .ok (.aload_n 0, 1) := by decide +kernel
theorem dX8_level_158 : decode cX8_level 158 = .ok (.getfield 30, 3) := by decide +kernel
theorem dX8_level_161 : decode cX8_level 161 = .ok (.invokevirtual 53, 3) := by decide +kernel
theorem dX8_level_164 : decode cX8_level 164 = .ok (.ifCond .eq 6, 3) := by decide +kernel
theorem dX8_level_167 : decode cX8_level 167 = .ok (.iload 6, 2) := by decide +kernel
theorem dX8_level_169 : decode cX8_level 169 = .ok (.ireturn, 1) := by decide +kernel
theorem dX8_level_170 : decode cX8_level 170 = .ok (.iinc 6 (-1), 3) := by decide +kernel
theorem dX8_level_173 : decode cX8_level 173 = .ok (.goto (-53), 3) := by decide +kernel
theorem dX8_level_176 : decode cX8_level 176 = .ok (.iconst 0, 1) := by decide +kernel
theorem dX8_level_177 : decode cX8_level 177 = .ok (.ireturn, 1) := by decide +kernel
