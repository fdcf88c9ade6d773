theorem dX0_init_0 : decode cX0_init 0 = .ok (.aload_n 0, 1) := by decide +kernel
theorem dX0_init_1 : decode cX0_init 1 = .ok (.invokespecial 1, 3) := by decide +kernel
theorem dX0_init_4 : decode cX0_init 4 = .ok (.aload_n 0, 1) := by decide +kernel
theorem dX0_init_5 : decode cX0_init 5 = .ok (.iconst 3, 1) := by decide +kernel
theorem dX0_init_6 : decode cX0_init 6 = .ok (.newarray .long, 2) := by decide +kernel
theorem dX0_init_8 : decode cX0_init 8 = .ok (.putfield 7, 3) := by decide +kernel
theorem dX0_init_11 : decode cX0_init 11 = .ok (.aload_n 0, 1) := by decide +kernel
theorem dX0_init_12 : decode cX0_init 12 = .ok (.iconst 3, 1) := by decide +kernel
theorem dX0_init_13 : decode cX0_init 13 = .ok (.newarray .long, 2) := by decide +kernel
theorem dX0_init_15 : decode cX0_init 15 = .ok (.putfield 13, 3) := by decide +kernel
theorem dX0_init_18 : decode cX0_init 18 = .ok (.return_, 1) := by decide +kernel
theorem dX0_span_0 : decode cX0_span 0 = .ok (.iconst 0, 1) := by decide +kernel
theorem dX0_span_1 : decode cX0_span 1 = .ok (.istore_n 2, 1) := by decide +kernel
theorem dX0_span_2 : decode cX0_span 2 = .ok (.iload_n 2, 1) := by decide +kernel
theorem dX0_span_3 : decode cX0_span 3 = .ok (.iconst 3, 1) := by decide +kernel
theorem dX0_span_4 : decode cX0_span 4 = .ok (.if_icmp .ge 52, 3) := by decide +kernel
theorem dX0_span_7 : decode cX0_span 7 = .ok (.aload_n 0, 1) := by decide +kernel
theorem dX0_span_8 : decode cX0_span 8 = .ok (.getfield 7, 3) := by decide +kernel
theorem dX0_span_11 : decode cX0_span 11 = .ok (.iload_n 2, 1) := by decide +kernel
theorem dX0_span_12 : decode cX0_span 12 = .ok (.aload_n 1, 1) := by decide +kernel
theorem dX0_span_13 : decode cX0_span 13 = .ok (.iconst 0, 1) := by decide +kernel
theorem dX0_span_14 : decode cX0_span 14 = .ok (.iload_n 2, 1) := by decide +kernel
theorem dX0_span_15 : decode cX0_span 15 = .ok (.invokevirtual 16, 3) := by decide +kernel
theorem dX0_span_18 : decode cX0_span 18 = .ok (.aload_n 1, 1) := by decide +kernel
theorem dX0_span_19 : decode cX0_span 19 = .ok (.iconst 1, 1) := by decide +kernel
theorem dX0_span_20 : decode cX0_span 20 = .ok (.iload_n 2, 1) := by decide +kernel
theorem dX0_span_21 : decode cX0_span 21 = .ok (.invokevirtual 16, 3) := by decide +kernel
theorem dX0_span_24 : decode cX0_span 24 = .ok (.iadd, 1) := by decide +kernel
theorem dX0_span_25 : decode cX0_span 25 = .ok (.i2l, 1) := by decide +kernel
theorem dX0_span_26 : decode cX0_span 26 = .ok (.lastore, 1) := by decide +kernel
theorem dX0_span_27 : decode cX0_span 27 = .ok (.aload_n 0, 1) := by decide +kernel
theorem dX0_span_28 : decode cX0_span 28 = .ok (.getfield 13, 3) := by decide +kernel
theorem dX0_span_31 : decode cX0_span 31 = .ok (.iload_n 2, 1) := by decide +kernel
theorem dX0_span_32 : decode cX0_span 32 = .ok (.aload_n 1, 1) := by decide +kernel
theorem dX0_span_33 : decode cX0_span 33 = .ok (.iconst 0, 1) := by decide +kernel
theorem dX0_span_34 : decode cX0_span 34 = .ok (.iload_n 2, 1) := by decide +kernel
theorem dX0_span_35 : decode cX0_span 35 = .ok (.invokevirtual 16, 3) := by decide +kernel
theorem dX0_span_38 : decode cX0_span 38 = .ok (.aload_n 1, 1) := by decide +kernel
theorem dX0_span_39 : decode cX0_span 39 = .ok (.iconst 1, 1) := by decide +kernel
theorem dX0_span_40 : decode cX0_span 40 = .ok (.iload_n 2, 1) := by decide +kernel
theorem dX0_span_41 : decode cX0_span 41 = .ok (.invokevirtual 16, 3) := by decide +kernel
theorem dX0_span_44 : decode cX0_span 44 = .ok (.isub, 1) := by decide +kernel
theorem dX0_span_45 : decode cX0_span 45 = .ok (.invokestatic 22, 3) := by decide +kernel
theorem dX0_span_48 : decode cX0_span 48 = .ok (.i2l, 1) := by decide +kernel
theorem dX0_span_49 : decode cX0_span 49 = .ok (.lastore, 1) := by decide +kernel
theorem dX0_span_50 : decode cX0_span 50 = .ok (.iinc 2 1, 3) := by decide +kernel
theorem dX0_span_53 : decode cX0_span 53 = .ok (.goto (-51), 3) := by decide +kernel
theorem dX0_span_56 : decode cX0_span 56 = .ok (.return_, 1) := by decide +kernel
theorem dX0_touches_0 : decode cX0_touches 0 = .ok (.aload_n 0, 1) := by decide +kernel
theorem dX0_touches_1 : decode cX0_touches 1 = .ok (.aload_n 1, 1) := by decide +kernel
theorem dX0_touches_2 : decode cX0_touches 2 = .ok (.iload_n 2, 1) := by decide +kernel
theorem dX0_touches_3 : decode cX0_touches 3 = .ok (.lconst 1, 1) := by decide +kernel
theorem dX0_touches_4 : decode cX0_touches 4 = .ok (.lconst 0, 1) := by decide +kernel
theorem dX0_touches_5 : decode cX0_touches 5 = .ok (.lconst 0, 1) := by decide +kernel
theorem dX0_touches_6 : decode cX0_touches 6 = .ok (.invokevirtual 28, 3) := by decide +kernel
theorem dX0_touches_9 : decode cX0_touches 9 = .ok (.ifCond .ne 57, 3) := by decide +kernel
theorem dX0_touches_12 : decode cX0_touches 12 = .ok (.aload_n 0, 1) := by decide +kernel
theorem dX0_touches_13 : decode cX0_touches 13 = .ok (.aload_n 1, 1) := by decide +kernel
theorem dX0_touches_14 : decode cX0_touches 14 = .ok (.iload_n 2, 1) := by decide +kernel
theorem dX0_touches_15 : decode cX0_touches 15 = .ok (.lconst 0, 1) := by decide +kernel
theorem dX0_touches_16 : decode cX0_touches 16 = .ok (.lconst 1, 1) := by decide +kernel
theorem dX0_touches_17 : decode cX0_touches 17 = .ok (.lconst 0, 1) := by decide +kernel
theorem dX0_touches_18 : decode cX0_touches 18 = .ok (.invokevirtual 28, 3) := by decide +kernel
theorem dX0_touches_21 : decode cX0_touches 21 = .ok (.ifCond .ne 45, 3) := by decide +kernel
theorem dX0_touches_24 : decode cX0_touches 24 = .ok (.aload_n 0, 1) := by decide +kernel
theorem dX0_touches_25 : decode cX0_touches 25 = .ok (.aload_n 1, 1) := by decide +kernel
theorem dX0_touches_26 : decode cX0_touches 26 = .ok (.iload_n 2, 1) := by decide +kernel
theorem dX0_touches_27 : decode cX0_touches 27 = .ok (.lconst 0, 1) := by decide +kernel
theorem dX0_touches_28 : decode cX0_touches 28 = .ok (.lconst 0, 1) := by decide +kernel
theorem dX0_touches_29 : decode cX0_touches 29 = .ok (.lconst 1, 1) := by decide +kernel
theorem dX0_touches_30 : decode cX0_touches 30 = .ok (.invokevirtual 28, 3) := by decide +kernel
theorem dX0_touches_33 : decode cX0_touches 33 = .ok (.ifCond .ne 33, 3) := by decide +kernel
theorem dX0_touches_36 : decode cX0_touches 36 = .ok (.aload_n 0, 1) := by decide +kernel
theorem dX0_touches_37 : decode cX0_touches 37 = .ok (.aload_n 1, 1) := by decide +kernel
theorem dX0_touches_38 : decode cX0_touches 38 = .ok (.iload_n 2, 1) := by decide +kernel
theorem dX0_touches_39 : decode cX0_touches 39 = .ok (.aload_n 1, 1) := by decide +kernel
theorem dX0_touches_40 : decode cX0_touches 40 = .ok (.iload_n 2, 1) := by decide +kernel
theorem dX0_touches_41 : decode cX0_touches 41 = .ok (.iconst 0, 1) := by decide +kernel
theorem dX0_touches_42 : decode cX0_touches 42 = .ok (.invokevirtual 32, 3) := by decide +kernel
theorem dX0_touches_45 : decode cX0_touches 45 = .ok (.i2l, 1) := by decide +kernel
theorem dX0_touches_46 : decode cX0_touches 46 = .ok (.aload_n 1, 1) := by decide +kernel
theorem dX0_touches_47 : decode cX0_touches 47 = .ok (.iload_n 2, 1) := by decide +kernel
theorem dX0_touches_48 : decode cX0_touches 48 = .ok (.iconst 1, 1) := by decide +kernel
theorem dX0_touches_49 : decode cX0_touches 49 = .ok (.invokevirtual 32, 3) := by decide +kernel
theorem dX0_touches_52 : decode cX0_touches 52 = .ok (.i2l, 1) := by decide +kernel
theorem dX0_touches_53 : decode cX0_touches 53 = .ok (.aload_n 1, 1) := by decide +kernel
theorem dX0_touches_54 : decode cX0_touches 54 = .ok (.iload_n 2, 1) := by decide +kernel
theorem dX0_touches_55 : decode cX0_touches 55 = .ok (.iconst 2, 1) := by decide +kernel
theorem dX0_touches_56 : decode cX0_touches 56 = .ok (.invokevirtual 32, 3) := by decide +kernel
theorem dX0_touches_59 : decode cX0_touches 59 = .ok (.i2l, 1) := by decide +kernel
theorem dX0_touches_60 : decode cX0_touches 60 = .ok (.invokevirtual 28, 3) := by decide +kernel
theorem dX0_touches_63 : decode cX0_touches 63 = .ok (.ifCond .eq 7, 3) := by decide +kernel
theorem dX0_touches_66 : decode cX0_touches 66 = .ok (.iconst 1, 1) := by decide +kernel
theorem dX0_touches_67 : decode cX0_touches 67 = .ok (.goto 4, 3) := by decide +kernel
theorem dX0_touches_70 : decode cX0_touches 70 = .ok (.iconst 0, 1) := by decide +kernel
theorem dX0_touches_71 : decode cX0_touches 71 = .ok (.istore_n 3, 1) := by decide +kernel
theorem dX0_touches_72 : decode cX0_touches 72 = .ok (.iconst 0, 1) := by decide +kernel
theorem dX0_touches_73 : decode cX0_touches 73 = .ok (.istore 4, 2) := by decide +kernel
theorem dX0_touches_75 : decode cX0_touches 75 = .ok (.iload 4, 2) := by decide +kernel
theorem dX0_touches_77 : decode cX0_touches 77 = .ok (.iconst 3, 1) := by decide +kernel
theorem dX0_touches_78 : decode cX0_touches 78 = .ok (.if_icmp .ge 132, 3) := by decide +kernel
theorem dX0_touches_81 : decode cX0_touches 81 = .ok (.iload_n 3, 1) := by decide +kernel
theorem dX0_touches_82 : decode cX0_touches 82 = .ok (.ifCond .ne 128, 3) := by decide +kernel
theorem dX0_touches_85 : decode cX0_touches 85 = .ok (.iload 4, 2) := by decide +kernel
theorem dX0_touches_87 : decode cX0_touches 87 = .ok (.iconst 1, 1) := by decide +kernel
theorem dX0_touches_88 : decode cX0_touches 88 = .ok (.iadd, 1) := by decide +kernel
theorem dX0_touches_89 : decode cX0_touches 89 = .ok (.iconst 3, 1) := by decide +kernel
theorem dX0_touches_90 : decode cX0_touches 90 = .ok (.irem, 1) := by decide +kernel
theorem dX0_touches_91 : decode cX0_touches 91 = .ok (.istore 5, 2) := by decide +kernel
theorem dX0_touches_93 : decode cX0_touches 93 = .ok (.aload_n 1, 1) := by decide +kernel
theorem dX0_touches_94 : decode cX0_touches 94 = .ok (.iload_n 2, 1) := by decide +kernel
theorem dX0_touches_95 : decode cX0_touches 95 = .ok (.iload 5, 2) := by decide +kernel
theorem dX0_touches_97 : decode cX0_touches 97 = .ok (.iconst 0, 1) := by decide +kernel
theorem dX0_touches_98 : decode cX0_touches 98 = .ok (.invokevirtual 37, 3) := by decide +kernel
theorem dX0_touches_101 : decode cX0_touches 101 = .ok (.aload_n 1, 1) := by decide +kernel
theorem dX0_touches_102 : decode cX0_touches 102 = .ok (.iload_n 2, 1) := by decide +kernel
theorem dX0_touches_103 : decode cX0_touches 103 = .ok (.iload 4, 2) := by decide +kernel
theorem dX0_touches_105 : decode cX0_touches 105 = .ok (.iconst 0, 1) := by decide +kernel
theorem dX0_touches_106 : decode cX0_touches 106 = .ok (.invokevirtual 37, 3) := by decide +kernel
theorem dX0_touches_109 : decode cX0_touches 109 = .ok (.isub, 1) := by decide +kernel
theorem dX0_touches_110 : decode cX0_touches 110 = .ok (.i2l, 1) := by decide +kernel
theorem dX0_touches_111 : decode cX0_touches 111 = .ok (.lstore 6, 2) := by decide +kernel
theorem dX0_touches_113 : decode cX0_touches 113 = .ok (.aload_n 1, 1) := by decide +kernel
theorem dX0_touches_114 : decode cX0_touches 114 = .ok (.iload_n 2, 1) := by decide +kernel
theorem dX0_touches_115 : decode cX0_touches 115 = .ok (.iload 5, 2) := by decide +kernel
theorem dX0_touches_117 : decode cX0_touches 117 = .ok (.iconst 1, 1) := by decide +kernel
theorem dX0_touches_118 : decode cX0_touches 118 = .ok (.invokevirtual 37, 3) := by decide +kernel
theorem dX0_touches_121 : decode cX0_touches 121 = .ok (.aload_n 1, 1) := by decide +kernel
theorem dX0_touches_122 : decode cX0_touches 122 = .ok (.iload_n 2, 1) := by decide +kernel
theorem dX0_touches_123 : decode cX0_touches 123 = .ok (.iload 4, 2) := by decide +kernel
theorem dX0_touches_125 : decode cX0_touches 125 = .ok (.iconst 1, 1) := by decide +kernel
theorem dX0_touches_126 : decode cX0_touches 126 = .ok (.invokevirtual 37, 3) := by decide +kernel
theorem dX0_touches_129 : decode cX0_touches 129 = .ok (.isub, 1) := by decide +kernel
theorem dX0_touches_130 : decode cX0_touches 130 = .ok (.i2l, 1) := by decide +kernel
theorem dX0_touches_131 : decode cX0_touches 131 = .ok (.lstore 8, 2) := by decide +kernel
theorem dX0_touches_133 : decode cX0_touches 133 = .ok (.aload_n 1, 1) := by decide +kernel
theorem dX0_touches_134 : decode cX0_touches 134 = .ok (.iload_n 2, 1) := by decide +kernel
theorem dX0_touches_135 : decode cX0_touches 135 = .ok (.iload 5, 2) := by decide +kernel
theorem dX0_touches_137 : decode cX0_touches 137 = .ok (.iconst 2, 1) := by decide +kernel
theorem dX0_touches_138 : decode cX0_touches 138 = .ok (.invokevirtual 37, 3) := by decide +kernel
theorem dX0_touches_141 : decode cX0_touches 141 = .ok (.aload_n 1, 1) := by decide +kernel
theorem dX0_touches_142 : decode cX0_touches 142 = .ok (.iload_n 2, 1) := by decide +kernel
theorem dX0_touches_143 : decode cX0_touches 143 = .ok (.iload 4, 2) := by decide +kernel
theorem dX0_touches_145 : decode cX0_touches 145 = .ok (.iconst 2, 1) := by decide +kernel
theorem dX0_touches_146 : decode cX0_touches 146 = .ok (.invokevirtual 37, 3) := by decide +kernel
theorem dX0_touches_149 : decode cX0_touches 149 = .ok (.isub, 1) := by decide +kernel
theorem dX0_touches_150 : decode cX0_touches 150 = .ok (.i2l, 1) := by decide +kernel
theorem dX0_touches_151 : decode cX0_touches 151 = .ok (.lstore 10, 2) := by decide +kernel
theorem dX0_touches_153 : decode cX0_touches 153 = .ok (.aload_n 0, 1) := by decide +kernel
theorem dX0_touches_154 : decode cX0_touches 154 = .ok (.aload_n 1, 1) := by decide +kernel
theorem dX0_touches_155 : decode cX0_touches 155 = .ok (.iload_n 2, 1) := by decide +kernel
theorem dX0_touches_156 : decode cX0_touches 156 = .ok (.lconst 0, 1) := by decide +kernel
theorem dX0_touches_157 : decode cX0_touches 157 = .ok (.lload 10, 2) := by decide +kernel
theorem dX0_touches_159 : decode cX0_touches 159 = .ok (.lload 8, 2) := by decide +kernel
theorem dX0_touches_161 : decode cX0_touches 161 = .ok (.lneg, 1) := by decide +kernel
theorem dX0_touches_162 : decode cX0_touches 162 = .ok (.invokevirtual 28, 3) := by decide +kernel
theorem dX0_touches_165 : decode cX0_touches 165 = .ok (.ifCond .ne 33, 3) := by decide +kernel
theorem dX0_touches_168 : decode cX0_touches 168 = .ok (.aload_n 0, 1) := by decide +kernel
theorem dX0_touches_169 : decode cX0_touches 169 = .ok (.aload_n 1, 1) := by decide +kernel
theorem dX0_touches_170 : decode cX0_touches 170 = .ok (.iload_n 2, 1) := by decide +kernel
theorem dX0_touches_171 : decode cX0_touches 171 = .ok (.lload 10, 2) := by decide +kernel
theorem dX0_touches_173 : decode cX0_touches 173 = .ok (.lneg, 1) := by decide +kernel
theorem dX0_touches_174 : decode cX0_touches 174 = .ok (.lconst 0, 1) := by decide +kernel
theorem dX0_touches_175 : decode cX0_touches 175 = .ok (.lload 6, 2) := by decide +kernel
theorem dX0_touches_177 : decode cX0_touches 177 = .ok (.invokevirtual 28, 3) := by decide +kernel
theorem dX0_touches_180 : decode cX0_touches 180 = .ok (.ifCond .ne 18, 3) := by decide +kernel
theorem dX0_touches_183 : decode cX0_touches 183 = .ok (.aload_n 0, 1) := by decide +kernel
theorem dX0_touches_184 : decode cX0_touches 184 = .ok (.aload_n 1, 1) := by decide +kernel
theorem dX0_touches_185 : decode cX0_touches 185 = .ok (.iload_n 2, 1) := by decide +kernel
theorem dX0_touches_186 : decode cX0_touches 186 = .ok (.lload 8, 2) := by decide +kernel
theorem dX0_touches_188 : decode cX0_touches 188 = .ok (.lload 6, 2) := by decide +kernel
theorem dX0_touches_190 : decode cX0_touches 190 = .ok (.lneg, 1) := by decide +kernel
theorem dX0_touches_191 : decode cX0_touches 191 = .ok (.lconst 0, 1) := by decide +kernel
theorem dX0_touches_192 : decode cX0_touches 192 = .ok (.invokevirtual 28, 3) := by decide +kernel
theorem dX0_touches_195 : decode cX0_touches 195 = .ok (.ifCond .eq 7, 3) := by decide +kernel
theorem dX0_touches_198 : decode cX0_touches 198 = .ok (.iconst 1, 1) := by decide +kernel
theorem dX0_touches_199 : decode cX0_touches 199 = .ok (.goto 4, 3) := by decide +kernel
theorem dX0_touches_202 : decode cX0_touches 202 = .ok (.iconst 0, 1) := by decide +kernel
theorem dX0_touches_203 : decode cX0_touches 203 = .ok (.istore_n 3, 1) := by decide +kernel
theorem dX0_touches_204 : decode cX0_touches 204 = .ok (.iinc 4 1, 3) := by decide +kernel
theorem dX0_touches_207 : decode cX0_touches 207 = .ok (.goto (-132), 3) := by decide +kernel
theorem dX0_touches_210 : decode cX0_touches 210 = .ok (.iload_n 3, 1) := by decide +kernel
theorem dX0_touches_211 : decode cX0_touches 211 = .ok (.ifCond .ne 7, 3) := by decide +kernel
theorem dX0_touches_214 : decode cX0_touches 214 = .ok (.iconst 1, 1) := by decide +kernel
theorem dX0_touches_215 : decode cX0_touches 215 = .ok (.goto 4, 3) := by decide +kernel
theorem dX0_touches_218 : decode cX0_touches 218 = .ok (.iconst 0, 1) := by decide +kernel
theorem dX0_touches_219 : decode cX0_touches 219 = .ok (.ireturn, 1) := by decide +kernel
theorem dX0_isPartedAlong_0 : decode cX0_isPartedAlong 0 = .ok (.lload_n 3, 1) := by decide +kernel
theorem dX0_isPartedAlong_1 : decode cX0_isPartedAlong 1 = .ok (.invokestatic 40, 3) := by decide +kernel
theorem dX0_isPartedAlong_4 : decode cX0_isPartedAlong 4 = .ok (.aload_n 0, 1) := by decide +kernel
theorem dX0_isPartedAlong_5 : decode cX0_isPartedAlong 5 = .ok (.getfield 13, 3) := by decide +kernel
theorem dX0_isPartedAlong_8 : decode cX0_isPartedAlong 8 = .ok (.iconst 0, 1) := by decide +kernel
theorem dX0_isPartedAlong_9 : decode cX0_isPartedAlong 9 = .ok (.laload, 1) := by decide +kernel
theorem dX0_isPartedAlong_10 : decode cX0_isPartedAlong 10 = .ok (.lmul, 1) := by decide +kernel
theorem dX0_isPartedAlong_11 : decode cX0_isPartedAlong 11 = .ok (.lload 5, 2) := by decide +kernel
theorem dX0_isPartedAlong_13 : decode cX0_isPartedAlong 13 = .ok (.invokestatic 40, 3) := by decide +kernel
theorem dX0_isPartedAlong_16 : decode cX0_isPartedAlong 16 = .ok (.aload_n 0, 1) := by decide +kernel
theorem dX0_isPartedAlong_17 : decode cX0_isPartedAlong 17 = .ok (.getfield 13, 3) := by decide +kernel
theorem dX0_isPartedAlong_20 : decode cX0_isPartedAlong 20 = .ok (.iconst 1, 1) := by decide +kernel
theorem dX0_isPartedAlong_21 : decode cX0_isPartedAlong 21 = .ok (.laload, 1) := by decide +kernel
theorem dX0_isPartedAlong_22 : decode cX0_isPartedAlong 22 = .ok (.lmul, 1) := by decide +kernel
theorem dX0_isPartedAlong_23 : decode cX0_isPartedAlong 23 = .ok (.ladd, 1) := by decide +kernel
theorem dX0_isPartedAlong_24 : decode cX0_isPartedAlong 24 = .ok (.lload 7, 2) := by decide +kernel
theorem dX0_isPartedAlong_26 : decode cX0_isPartedAlong 26 = .ok (.invokestatic 40, 3) := by decide +kernel
theorem dX0_isPartedAlong_29 : decode cX0_isPartedAlong 29 = .ok (.aload_n 0, 1) := by decide +kernel
theorem dX0_isPartedAlong_30 : decode cX0_isPartedAlong 30 = .ok (.getfield 13, 3) := by decide +kernel
theorem dX0_isPartedAlong_33 : decode cX0_isPartedAlong 33 = .ok (.iconst 2, 1) := by decide +kernel
theorem dX0_isPartedAlong_34 : decode cX0_isPartedAlong 34 = .ok (.laload, 1) := by decide +kernel
theorem dX0_isPartedAlong_35 : decode cX0_isPartedAlong 35 = .ok (.lmul, 1) := by decide +kernel
theorem dX0_isPartedAlong_36 : decode cX0_isPartedAlong 36 = .ok (.ladd, 1) := by decide +kernel
theorem dX0_isPartedAlong_37 : decode cX0_isPartedAlong 37 = .ok (.lstore 9, 2) := by decide +kernel
theorem dX0_isPartedAlong_39 : decode cX0_isPartedAlong 39 = .ok (.iconst 1, 1) := by decide +kernel
theorem dX0_isPartedAlong_40 : decode cX0_isPartedAlong 40 = .ok (.istore 11, 2) := by decide +kernel
theorem dX0_isPartedAlong_42 : decode cX0_isPartedAlong 42 = .ok (.iconst 1, 1) := by decide +kernel
theorem dX0_isPartedAlong_43 : decode cX0_isPartedAlong 43 = .ok (.istore 12, 2) := by decide +kernel
theorem dX0_isPartedAlong_45 : decode cX0_isPartedAlong 45 = .ok (.iconst 0, 1) := by decide +kernel
theorem dX0_isPartedAlong_46 : decode cX0_isPartedAlong 46 = .ok (.istore 13, 2) := by decide +kernel
theorem dX0_isPartedAlong_48 : decode cX0_isPartedAlong 48 = .ok (.iload 13, 2) := by decide +kernel
theorem dX0_isPartedAlong_50 : decode cX0_isPartedAlong 50 = .ok (.iconst 3, 1) := by decide +kernel
theorem dX0_isPartedAlong_51 : decode cX0_isPartedAlong 51 = .ok (.if_icmp .ge 116, 3) := by decide +kernel
theorem dX0_isPartedAlong_54 : decode cX0_isPartedAlong 54 = .ok (.lload_n 3, 1) := by decide +kernel
theorem dX0_isPartedAlong_55 : decode cX0_isPartedAlong 55 = .ok (.iconst 2, 1) := by decide +kernel
theorem dX0_isPartedAlong_56 : decode cX0_isPartedAlong 56 = .ok (.aload_n 1, 1) := by decide +kernel
theorem dX0_isPartedAlong_57 : decode cX0_isPartedAlong 57 = .ok (.iload_n 2, 1) := by decide +kernel
theorem dX0_isPartedAlong_58 : decode cX0_isPartedAlong 58 = .ok (.iload 13, 2) := by decide +kernel
theorem dX0_isPartedAlong_60 : decode cX0_isPartedAlong 60 = .ok (.iconst 0, 1) := by decide +kernel
theorem dX0_isPartedAlong_61 : decode cX0_isPartedAlong 61 = .ok (.invokevirtual 37, 3) := by decide +kernel
theorem dX0_isPartedAlong_64 : decode cX0_isPartedAlong 64 = .ok (.imul, 1) := by decide +kernel
theorem dX0_isPartedAlong_65 : decode cX0_isPartedAlong 65 = .ok (.i2l, 1) := by decide +kernel
theorem dX0_isPartedAlong_66 : decode cX0_isPartedAlong 66 = .ok (.aload_n 0, 1) := by decide +kernel
theorem dX0_isPartedAlong_67 : decode cX0_isPartedAlong 67 = .ok (.getfield 7, 3) := by decide +kernel
theorem dX0_isPartedAlong_70 : decode cX0_isPartedAlong 70 = .ok (.iconst 0, 1) := by decide +kernel
theorem dX0_isPartedAlong_71 : decode cX0_isPartedAlong 71 = .ok (.laload, 1) := by decide +kernel
theorem dX0_isPartedAlong_72 : decode cX0_isPartedAlong 72 = .ok (.lsub, 1) := by decide +kernel
theorem dX0_isPartedAlong_73 : decode cX0_isPartedAlong 73 = .ok (.lmul, 1) := by decide +kernel
theorem dX0_isPartedAlong_74 : decode cX0_isPartedAlong 74 = .ok (.lload 5, 2) := by decide +kernel
theorem dX0_isPartedAlong_76 : decode cX0_isPartedAlong 76 = .ok (.iconst 2, 1) := by decide +kernel
theorem dX0_isPartedAlong_77 : decode cX0_isPartedAlong 77 = .ok (.aload_n 1, 1) := by decide +kernel
theorem dX0_isPartedAlong_78 : decode cX0_isPartedAlong 78 = .ok (.iload_n 2, 1) := by decide +kernel
theorem dX0_isPartedAlong_79 : decode cX0_isPartedAlong 79 = .ok (.iload 13, 2) := by decide +kernel
theorem dX0_isPartedAlong_81 : decode cX0_isPartedAlong 81 = .ok (.iconst 1, 1) := by decide +kernel
theorem dX0_isPartedAlong_82 : decode cX0_isPartedAlong 82 = .ok (.invokevirtual 37, 3) := by decide +kernel
theorem dX0_isPartedAlong_85 : decode cX0_isPartedAlong 85 = .ok (.imul, 1) := by decide +kernel
theorem dX0_isPartedAlong_86 : decode cX0_isPartedAlong 86 = .ok (.i2l, 1) := by decide +kernel
theorem dX0_isPartedAlong_87 : decode cX0_isPartedAlong 87 = .ok (.aload_n 0, 1) := by decide +kernel
theorem dX0_isPartedAlong_88 : decode cX0_isPartedAlong 88 = .ok (.getfield 7, 3) := by decide +kernel
theorem dX0_isPartedAlong_91 : decode cX0_isPartedAlong 91 = .ok (.iconst 1, 1) := by decide +kernel
theorem dX0_isPartedAlong_92 : decode cX0_isPartedAlong 92 = .ok (.laload, 1) := by decide +kernel
theorem dX0_isPartedAlong_93 : decode cX0_isPartedAlong 93 = .ok (.lsub, 1) := by decide +kernel
theorem dX0_isPartedAlong_94 : decode cX0_isPartedAlong 94 = .ok (.lmul, 1) := by decide +kernel
theorem dX0_isPartedAlong_95 : decode cX0_isPartedAlong 95 = .ok (.ladd, 1) := by decide +kernel
theorem dX0_isPartedAlong_96 : decode cX0_isPartedAlong 96 = .ok (.lload 7, 2) := by decide +kernel
theorem dX0_isPartedAlong_98 : decode cX0_isPartedAlong 98 = .ok (.iconst 2, 1) := by decide +kernel
theorem dX0_isPartedAlong_99 : decode cX0_isPartedAlong 99 = .ok (.aload_n 1, 1) := by decide +kernel
theorem dX0_isPartedAlong_100 : decode cX0_isPartedAlong 100 = .ok (.iload_n 2, 1) := by decide +kernel
theorem dX0_isPartedAlong_101 : decode cX0_isPartedAlong 101 = .ok (.iload 13, 2) := by decide +kernel
theorem dX0_isPartedAlong_103 : decode cX0_isPartedAlong 103 = .ok (.iconst 2, 1) := by decide +kernel
theorem dX0_isPartedAlong_104 : decode cX0_isPartedAlong 104 = .ok (.invokevirtual 37, 3) := by decide +kernel
theorem dX0_isPartedAlong_107 : decode cX0_isPartedAlong 107 = .ok (.imul, 1) := by decide +kernel
theorem dX0_isPartedAlong_108 : decode cX0_isPartedAlong 108 = .ok (.i2l, 1) := by decide +kernel
theorem dX0_isPartedAlong_109 : decode cX0_isPartedAlong 109 = .ok (.aload_n 0, 1) := by decide +kernel
theorem dX0_isPartedAlong_110 : decode cX0_isPartedAlong 110 = .ok (.getfield 7, 3) := by decide +kernel
theorem dX0_isPartedAlong_113 : decode cX0_isPartedAlong 113 = .ok (.iconst 2, 1) := by decide +kernel
theorem dX0_isPartedAlong_114 : decode cX0_isPartedAlong 114 = .ok (.laload, 1) := by decide +kernel
theorem dX0_isPartedAlong_115 : decode cX0_isPartedAlong 115 = .ok (.lsub, 1) := by decide +kernel
theorem dX0_isPartedAlong_116 : decode cX0_isPartedAlong 116 = .ok (.lmul, 1) := by decide +kernel
theorem dX0_isPartedAlong_117 : decode cX0_isPartedAlong 117 = .ok (.ladd, 1) := by decide +kernel
theorem dX0_isPartedAlong_118 : decode cX0_isPartedAlong 118 = .ok (.lstore 14, 2) := by decide +kernel
theorem dX0_isPartedAlong_120 : decode cX0_isPartedAlong 120 = .ok (.iload 11, 2) := by decide +kernel
theorem dX0_isPartedAlong_122 : decode cX0_isPartedAlong 122 = .ok (.ifCond .eq 15, 3) := by decide +kernel
theorem dX0_isPartedAlong_125 : decode cX0_isPartedAlong 125 = .ok (.lload 14, 2) := by decide +kernel
theorem dX0_isPartedAlong_127 : decode cX0_isPartedAlong 127 = .ok (.lload 9, 2) := by decide +kernel
theorem dX0_isPartedAlong_129 : decode cX0_isPartedAlong 129 = .ok (.lcmp, 1) := by decide +kernel
theorem dX0_isPartedAlong_130 : decode cX0_isPartedAlong 130 = .ok (.ifCond .le 7, 3) := by decide +kernel
theorem dX0_isPartedAlong_133 : decode cX0_isPartedAlong 133 = .ok (.iconst 1, 1) := by decide +kernel
theorem dX0_isPartedAlong_134 : decode cX0_isPartedAlong 134 = .ok (.goto 4, 3) := by decide +kernel
theorem dX0_isPartedAlong_137 : decode cX0_isPartedAlong 137 = .ok (.iconst 0, 1) := by decide +kernel
theorem dX0_isPartedAlong_138 : decode cX0_isPartedAlong 138 = .ok (.istore 11, 2) := by decide +kernel
theorem dX0_isPartedAlong_140 : decode cX0_isPartedAlong 140 = .ok (.iload 12, 2) := by decide +kernel
theorem dX0_isPartedAlong_142 : decode cX0_isPartedAlong 142 = .ok (.ifCond .eq 16, 3) := by decide +kernel
theorem dX0_isPartedAlong_145 : decode cX0_isPartedAlong 145 = .ok (.lload 14, 2) := by decide +kernel
theorem dX0_isPartedAlong_147 : decode cX0_isPartedAlong 147 = .ok (.lload 9, 2) := by decide +kernel
theorem dX0_isPartedAlong_149 : decode cX0_isPartedAlong 149 = .ok (.lneg, 1) := by decide +kernel
theorem dX0_isPartedAlong_150 : decode cX0_isPartedAlong 150 = .ok (.lcmp, 1) := by decide +kernel
theorem dX0_isPartedAlong_151 : decode cX0_isPartedAlong 151 = .ok (.ifCond .ge 7, 3) := by decide +kernel
theorem dX0_isPartedAlong_154 : decode cX0_isPartedAlong 154 = .ok (.iconst 1, 1) := by decide +kernel
theorem dX0_isPartedAlong_155 : decode cX0_isPartedAlong 155 = .ok (.goto 4, 3) := by decide +kernel
theorem dX0_isPartedAlong_158 : decode cX0_isPartedAlong 158 = .ok (.iconst 0, 1) := by decide +kernel
theorem dX0_isPartedAlong_159 : decode cX0_isPartedAlong 159 = .ok (.istore 12, 2) := by decide +kernel
theorem dX0_isPartedAlong_161 : decode cX0_isPartedAlong 161 = .ok (.iinc 13 1, 3) := by decide +kernel
theorem dX0_isPartedAlong_164 : decode cX0_isPartedAlong 164 = .ok (.goto (-116), 3) := by decide +kernel
theorem dX0_isPartedAlong_167 : decode cX0_isPartedAlong 167 = .ok (.iload 11, 2) := by decide +kernel
theorem dX0_isPartedAlong_169 : decode cX0_isPartedAlong 169 = .ok (.ifCond .ne 8, 3) := by decide +kernel
theorem dX0_isPartedAlong_172 : decode cX0_isPartedAlong 172 = .ok (.iload 12, 2) := by decide +kernel
theorem dX0_isPartedAlong_174 : decode cX0_isPartedAlong 174 = .ok (.ifCond .eq 7, 3) := by decide +kernel
theorem dX0_isPartedAlong_177 : decode cX0_isPartedAlong 177 = .ok (.iconst 1, 1) := by decide +kernel
theorem dX0_isPartedAlong_178 : decode cX0_isPartedAlong 178 = .ok (.goto 4, 3) := by decide +kernel
theorem dX0_isPartedAlong_181 : decode cX0_isPartedAlong 181 = .ok (.iconst 0, 1) := by decide +kernel
theorem dX0_isPartedAlong_182 : decode cX0_isPartedAlong 182 = .ok (.ireturn, 1) := by decide +kernel
