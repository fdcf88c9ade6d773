theorem dX12_areApart_208 : decode cX12_areApart 208 = .ok (.ifCond .lt 10, 3) := by decide +kernel
theorem dX12_areApart_211 : decode cX12_areApart 211 = .ok (.lload_n 2, 1) := by decide +kernel
theorem dX12_areApart_212 : decode cX12_areApart 212 = .ok (.lload 8, 2) := by decide +kernel
theorem dX12_areApart_214 : decode cX12_areApart 214 = .ok (.lcmp, 1) := by decide +kernel
theorem dX12_areApart_215 : decode cX12_areApart 215 = .ok (.ifCond .le 7, 3) := by decide +kernel
theorem dX12_areApart_218 : decode cX12_areApart 218 = .ok (.iconst 1, 1) := by decide +kernel
theorem dX12_areApart_219 : decode cX12_areApart 219 = .ok (.goto 4, 3) := by decide +kernel
theorem dX12_areApart_222 : decode cX12_areApart 222 = .ok (.iconst 0, 1) := by decide +kernel
theorem dX12_areApart_223 : decode cX12_areApart 223 = .ok (.ireturn, 1) := by decide +kernel
theorem dX12_wayIs_0 : decode cX12_wayIs 0 = .ok (.aload_n 0, 1) := by decide +kernel
theorem dX12_wayIs_1 : decode cX12_wayIs 1 = .ok (.getfield 133, 3) := by decide +kernel
theorem dX12_wayIs_4 : decode cX12_wayIs 4 = .ok (.iconst 0, 1) := by decide +kernel
theorem dX12_wayIs_5 : decode cX12_wayIs 5 = .ok (.lload_n 1, 1) := by decide +kernel
theorem dX12_wayIs_6 : decode cX12_wayIs 6 = .ok (.lastore, 1) := by decide +kernel
theorem dX12_wayIs_7 : decode cX12_wayIs 7 = .ok (.aload_n 0, 1) := by decide +kernel
theorem dX12_wayIs_8 : decode cX12_wayIs 8 = .ok (.getfield 133, 3) := by decide +kernel
theorem dX12_wayIs_11 : decode cX12_wayIs 11 = .ok (.iconst 1, 1) := by decide +kernel
theorem dX12_wayIs_12 : decode cX12_wayIs 12 = .ok (.lload_n 3, 1) := by decide +kernel
theorem dX12_wayIs_13 : decode cX12_wayIs 13 = .ok (.lastore, 1) := by decide +kernel
theorem dX12_wayIs_14 : decode cX12_wayIs 14 = .ok (.aload_n 0, 1) := by decide +kernel
theorem dX12_wayIs_15 : decode cX12_wayIs 15 = .ok (.getfield 133, 3) := by decide +kernel
theorem dX12_wayIs_18 : decode cX12_wayIs 18 = .ok (.iconst 2, 1) := by decide +kernel
theorem dX12_wayIs_19 : decode cX12_wayIs 19 = .ok (.lload 5, 2) := by decide +kernel
theorem dX12_wayIs_21 : decode cX12_wayIs 21 = .ok (.lastore, 1) := by decide +kernel
theorem dX12_wayIs_22 : decode cX12_wayIs 22 = .ok (.return_, 1) := by decide +kernel
theorem dX12_touches_0 : decode cX12_touches 0 = .ok (.aload_n 0, 1) := by decide +kernel
theorem dX12_touches_1 : decode cX12_touches 1 = .ok (.aload_n 0, 1) := by decide +kernel
theorem dX12_touches_2 : decode cX12_touches 2 = .ok (.getfield 16, 3) := by decide +kernel
theorem dX12_touches_5 : decode cX12_touches 5 = .ok (.iconst 3, 1) := by decide +kernel
theorem dX12_touches_6 : decode cX12_touches 6 = .ok (.iload_n 1, 1) := by decide +kernel
theorem dX12_touches_7 : decode cX12_touches 7 = .ok (.imul, 1) := by decide +kernel
theorem dX12_touches_8 : decode cX12_touches 8 = .ok (.laload, 1) := by decide +kernel
theorem dX12_touches_9 : decode cX12_touches 9 = .ok (.aload_n 0, 1) := by decide +kernel
theorem dX12_touches_10 : decode cX12_touches 10 = .ok (.getfield 16, 3) := by decide +kernel
theorem dX12_touches_13 : decode cX12_touches 13 = .ok (.iconst 3, 1) := by decide +kernel
theorem dX12_touches_14 : decode cX12_touches 14 = .ok (.iload_n 1, 1) := by decide +kernel
theorem dX12_touches_15 : decode cX12_touches 15 = .ok (.imul, 1) := by decide +kernel
theorem dX12_touches_16 : decode cX12_touches 16 = .ok (.iconst 1, 1) := by decide +kernel
theorem dX12_touches_17 : decode cX12_touches 17 = .ok (.iadd, 1) := by decide +kernel
theorem dX12_touches_18 : decode cX12_touches 18 = .ok (.laload, 1) := by decide +kernel
theorem dX12_touches_19 : decode cX12_touches 19 = .ok (.aload_n 0, 1) := by decide +kernel
theorem dX12_touches_20 : decode cX12_touches 20 = .ok (.getfield 16, 3) := by decide +kernel
theorem dX12_touches_23 : decode cX12_touches 23 = .ok (.iconst 3, 1) := by decide +kernel
theorem dX12_touches_24 : decode cX12_touches 24 = .ok (.iload_n 1, 1) := by decide +kernel
theorem dX12_touches_25 : decode cX12_touches 25 = .ok (.imul, 1) := by decide +kernel
theorem dX12_touches_26 : decode cX12_touches 26 = .ok (.iconst 2, 1) := by decide +kernel
theorem dX12_touches_27 : decode cX12_touches 27 = .ok (.iadd, 1) := by decide +kernel
theorem dX12_touches_28 : decode cX12_touches 28 = .ok (.laload, 1) := by decide +kernel
theorem dX12_touches_29 : decode cX12_touches 29 = .ok (.invokevirtual 304, 3) := by decide +kernel
theorem dX12_touches_32 : decode cX12_touches 32 = .ok (.aload_n 0, 1) := by decide +kernel
theorem dX12_touches_33 : decode cX12_touches 33 = .ok (.iload_n 1, 1) := by decide +kernel
theorem dX12_touches_34 : decode cX12_touches 34 = .ok (.invokevirtual 308, 3) := by decide +kernel
theorem dX12_touches_37 : decode cX12_touches 37 = .ok (.istore_n 2, 1) := by decide +kernel
theorem dX12_touches_38 : decode cX12_touches 38 = .ok (.iconst 0, 1) := by decide +kernel
theorem dX12_touches_39 : decode cX12_touches 39 = .ok (.istore_n 3, 1) := by decide +kernel
theorem dX12_touches_40 : decode cX12_touches 40 = .ok (.iload_n 3, 1) := by decide +kernel
theorem dX12_touches_41 : decode cX12_touches 41 = .ok (.iconst 3, 1) := by decide +kernel
theorem dX12_touches_42 : decode cX12_touches 42 = .ok (.if_icmp .ge 238, 3) := by decide +kernel
theorem dX12_touches_45 : decode cX12_touches 45 = .ok (.iload_n 2, 1) := by decide +kernel
theorem dX12_touches_46 : decode cX12_touches 46 = .ok (.ifCond .ne 234, 3) := by decide +kernel
theorem dX12_touches_49 : decode cX12_touches 49 = .ok (.aload_n 0, 1) := by decide +kernel
theorem dX12_touches_50 : decode cX12_touches 50 = .ok (.iload_n 3, 1) := by decide +kernel
theorem dX12_touches_51 : decode cX12_touches 51 = .ok (.ifCond .ne 7, 3) := by decide +kernel
theorem dX12_touches_54 : decode cX12_touches 54 = .ok (.lconst 1, 1) := by decide +kernel
theorem dX12_touches_55 : decode cX12_touches 55 = .ok (.goto 4, 3) := by decide +kernel
theorem dX12_touches_58 : decode cX12_touches 58 = .ok (.lconst 0, 1) := by decide +kernel
theorem dX12_touches_59 : decode cX12_touches 59 = .ok (.iload_n 3, 1) := by decide +kernel
theorem dX12_touches_60 : decode cX12_touches 60 = .ok (.iconst 1, 1) := by decide +kernel
theorem dX12_touches_61 : decode cX12_touches 61 = .ok (.if_icmp .ne 7, 3) := by decide +kernel
theorem dX12_touches_64 : decode cX12_touches 64 = .ok (.lconst 1, 1) := by decide +kernel
theorem dX12_touches_65 : decode cX12_touches 65 = .ok (.goto 4, 3) := by decide +kernel
theorem dX12_touches_68 : decode cX12_touches 68 = .ok (.lconst 0, 1) := by decide +kernel
theorem dX12_touches_69 : decode cX12_touches 69 = .ok (.iload_n 3, 1) := by decide +kernel
theorem dX12_touches_70 : decode cX12_touches 70 = .ok (.iconst 2, 1) := by decide +kernel
theorem dX12_touches_71 : decode cX12_touches 71 = .ok (.if_icmp .ne 7, 3) := by decide +kernel
theorem dX12_touches_74 : decode cX12_touches 74 = .ok (.lconst 1, 1) := by decide +kernel
theorem dX12_touches_75 : decode cX12_touches 75 = .ok (.goto 4, 3) := by decide +kernel
theorem dX12_touches_78 : decode cX12_touches 78 = .ok (.lconst 0, 1) := by decide +kernel
theorem dX12_touches_79 : decode cX12_touches 79 = .ok (.invokevirtual 304, 3) := by decide +kernel
theorem dX12_touches_82 : decode cX12_touches 82 = .ok (.aload_n 0, 1) := by decide +kernel
theorem dX12_touches_83 : decode cX12_touches 83 = .ok (.iload_n 1, 1) := by decide +kernel
theorem dX12_touches_84 : decode cX12_touches 84 = .ok (.invokevirtual 308, 3) := by decide +kernel
theorem dX12_touches_87 : decode cX12_touches 87 = .ok (.istore_n 2, 1) := by decide +kernel
theorem dX12_touches_88 : decode cX12_touches 88 = .ok (.iconst 0, 1) := by decide +kernel
theorem dX12_touches_89 : decode cX12_touches 89 = .ok (.istore 4, 2) := by decide +kernel
theorem dX12_touches_91 : decode cX12_touches 91 = .ok (.iload 4, 2) := by decide +kernel
theorem dX12_touches_93 : decode cX12_touches 93 = .ok (.iconst 3, 1) := by decide +kernel
theorem dX12_touches_94 : decode cX12_touches 94 = .ok (.if_icmp .ge 180, 3) := by decide +kernel
theorem dX12_touches_97 : decode cX12_touches 97 = .ok (.iload_n 2, 1) := by decide +kernel
theorem dX12_touches_98 : decode cX12_touches 98 = .ok (.ifCond .ne 176, 3) := by decide +kernel
theorem dX12_touches_101 : decode cX12_touches 101 = .ok (.aload_n 0, 1) := by decide +kernel
theorem dX12_touches_102 : decode cX12_touches 102 = .ok (.getfield 13, 3) := by decide +kernel
theorem dX12_touches_105 : decode cX12_touches 105 = .ok (.bipush 9, 2) := by decide +kernel
theorem dX12_touches_107 : decode cX12_touches 107 = .ok (.iload_n 1, 1) := by decide +kernel
theorem dX12_touches_108 : decode cX12_touches 108 = .ok (.imul, 1) := by decide +kernel
theorem dX12_touches_109 : decode cX12_touches 109 = .ok (.iconst 3, 1) := by decide +kernel
theorem dX12_touches_110 : decode cX12_touches 110 = .ok (.iload 4, 2) := by decide +kernel
theorem dX12_touches_112 : decode cX12_touches 112 = .ok (.iconst 1, 1) := by decide +kernel
theorem dX12_touches_113 : decode cX12_touches 113 = .ok (.iadd, 1) := by decide +kernel
theorem dX12_touches_114 : decode cX12_touches 114 = .ok (.iconst 3, 1) := by decide +kernel
theorem dX12_touches_115 : decode cX12_touches 115 = .ok (.irem, 1) := by decide +kernel
theorem dX12_touches_116 : decode cX12_touches 116 = .ok (.imul, 1) := by decide +kernel
theorem dX12_touches_117 : decode cX12_touches 117 = .ok (.iadd, 1) := by decide +kernel
theorem dX12_touches_118 : decode cX12_touches 118 = .ok (.iaload, 1) := by decide +kernel
theorem dX12_touches_119 : decode cX12_touches 119 = .ok (.aload_n 0, 1) := by decide +kernel
theorem dX12_touches_120 : decode cX12_touches 120 = .ok (.getfield 13, 3) := by decide +kernel
theorem dX12_touches_123 : decode cX12_touches 123 = .ok (.bipush 9, 2) := by decide +kernel
theorem dX12_touches_125 : decode cX12_touches 125 = .ok (.iload_n 1, 1) := by decide +kernel
theorem dX12_touches_126 : decode cX12_touches 126 = .ok (.imul, 1) := by decide +kernel
theorem dX12_touches_127 : decode cX12_touches 127 = .ok (.iconst 3, 1) := by decide +kernel
theorem dX12_touches_128 : decode cX12_touches 128 = .ok (.iload 4, 2) := by decide +kernel
theorem dX12_touches_130 : decode cX12_touches 130 = .ok (.imul, 1) := by decide +kernel
theorem dX12_touches_131 : decode cX12_touches 131 = .ok (.iadd, 1) := by decide +kernel
theorem dX12_touches_132 : decode cX12_touches 132 = .ok (.iaload, 1) := by decide +kernel
theorem dX12_touches_133 : decode cX12_touches 133 = .ok (.isub, 1) := by decide +kernel
theorem dX12_touches_134 : decode cX12_touches 134 = .ok (.i2l, 1) := by decide +kernel
theorem dX12_touches_135 : decode cX12_touches 135 = .ok (.lstore 5, 2) := by decide +kernel
theorem dX12_touches_137 : decode cX12_touches 137 = .ok (.aload_n 0, 1) := by decide +kernel
theorem dX12_touches_138 : decode cX12_touches 138 = .ok (.getfield 13, 3) := by decide +kernel
theorem dX12_touches_141 : decode cX12_touches 141 = .ok (.bipush 9, 2) := by decide +kernel
theorem dX12_touches_143 : decode cX12_touches 143 = .ok (.iload_n 1, 1) := by decide +kernel
theorem dX12_touches_144 : decode cX12_touches 144 = .ok (.imul, 1) := by decide +kernel
theorem dX12_touches_145 : decode cX12_touches 145 = .ok (.iconst 3, 1) := by decide +kernel
theorem dX12_touches_146 : decode cX12_touches 146 = .ok (.iload 4, 2) := by decide +kernel
theorem dX12_touches_148 : decode cX12_touches 148 = .ok (.iconst 1, 1) := by decide +kernel
theorem dX12_touches_149 : decode cX12_touches 149 = .ok (.iadd, 1) := by decide +kernel
theorem dX12_touches_150 : decode cX12_touches 150 = .ok (.iconst 3, 1) := by decide +kernel
theorem dX12_touches_151 : decode cX12_touches 151 = .ok (.irem, 1) := by decide +kernel
theorem dX12_touches_152 : decode cX12_touches 152 = .ok (.imul, 1) := by decide +kernel
theorem dX12_touches_153 : decode cX12_touches 153 = .ok (.iadd, 1) := by decide +kernel
theorem dX12_touches_154 : decode cX12_touches 154 = .ok (.iconst 1, 1) := by decide +kernel
theorem dX12_touches_155 : decode cX12_touches 155 = .ok (.iadd, 1) := by decide +kernel
theorem dX12_touches_156 : decode cX12_touches 156 = .ok (.iaload, 1) := by decide +kernel
theorem dX12_touches_157 : decode cX12_touches 157 = .ok (.aload_n 0, 1) := by decide +kernel
theorem dX12_touches_158 : decode cX12_touches 158 = .ok (.getfield 13, 3) := by decide +kernel
theorem dX12_touches_161 : decode cX12_touches 161 = .ok (.bipush 9, 2) := by decide +kernel
theorem dX12_touches_163 : decode cX12_touches 163 = .ok (.iload_n 1, 1) := by decide +kernel
theorem dX12_touches_164 : decode cX12_touches 164 = .ok (.imul, 1) := by decide +kernel
theorem dX12_touches_165 : decode cX12_touches 165 = .ok (.iconst 3, 1) := by decide +kernel
theorem dX12_touches_166 : decode cX12_touches 166 = .ok (.iload 4, 2) := by decide +kernel
theorem dX12_touches_168 : decode cX12_touches 168 = .ok (.imul, 1) := by decide +kernel
theorem dX12_touches_169 : decode cX12_touches 169 = .ok (.iadd, 1) := by decide +kernel
theorem dX12_touches_170 : decode cX12_touches 170 = .ok (.iconst 1, 1) := by decide +kernel
theorem dX12_touches_171 : decode cX12_touches 171 = .ok (.iadd, 1) := by decide +kernel
theorem dX12_touches_172 : decode cX12_touches 172 = .ok (.iaload, 1) := by decide +kernel
theorem dX12_touches_173 : decode cX12_touches 173 = .ok (.isub, 1) := by decide +kernel
theorem dX12_touches_174 : decode cX12_touches 174 = .ok (.i2l, 1) := by decide +kernel
theorem dX12_touches_175 : decode cX12_touches 175 = .ok (.lstore 7, 2) := by decide +kernel
theorem dX12_touches_177 : decode cX12_touches 177 = .ok (.aload_n 0, 1) := by decide +kernel
theorem dX12_touches_178 : decode cX12_touches 178 = .ok (.getfield 13, 3) := by decide +kernel
theorem dX12_touches_181 : decode cX12_touches 181 = .ok (.bipush 9, 2) := by decide +kernel
theorem dX12_touches_183 : decode cX12_touches 183 = .ok (.iload_n 1, 1) := by decide +kernel
theorem dX12_touches_184 : decode cX12_touches 184 = .ok (.imul, 1) := by decide +kernel
theorem dX12_touches_185 : decode cX12_touches 185 = .ok (.iconst 3, 1) := by decide +kernel
theorem dX12_touches_186 : decode cX12_touches 186 = .ok (.iload 4, 2) := by decide +kernel
theorem dX12_touches_188 : decode cX12_touches 188 = .ok (.iconst 1, 1) := by decide +kernel
theorem dX12_touches_189 : decode cX12_touches 189 = .ok (.iadd, 1) := by decide +kernel
theorem dX12_touches_190 : decode cX12_touches 190 = .ok (.iconst 3, 1) := by decide +kernel
theorem dX12_touches_191 : decode cX12_touches 191 = .ok (.irem, 1) := by decide +kernel
theorem dX12_touches_192 : decode cX12_touches 192 = .ok (.imul, 1) := by decide +kernel
theorem dX12_touches_193 : decode cX12_touches 193 = .ok (.iadd, 1) := by decide +kernel
theorem dX12_touches_194 : decode cX12_touches 194 = .ok (.iconst 2, 1) := by decide +kernel
theorem dX12_touches_195 : decode cX12_touches 195 = .ok (.iadd, 1) := by decide +kernel
theorem dX12_touches_196 : decode cX12_touches 196 = .ok (.iaload, 1) := by decide +kernel
theorem dX12_touches_197 : decode cX12_touches 197 = .ok (.aload_n 0, 1) := by decide +kernel
theorem dX12_touches_198 : decode cX12_touches 198 = .ok (.getfield 13, 3) := by decide +kernel
theorem dX12_touches_201 : decode cX12_touches 201 = .ok (.bipush 9, 2) := by decide +kernel
theorem dX12_touches_203 : decode cX12_touches 203 = .ok (.iload_n 1, 1) := by decide +kernel
theorem dX12_touches_204 : decode cX12_touches 204 = .ok (.imul, 1) := by decide +kernel
theorem dX12_touches_205 : decode cX12_touches 205 = .ok (.iconst 3, 1) := by decide +kernel
theorem dX12_touches_206 : decode cX12_touches 206 = .ok (.iload 4, 2) := by decide +kernel
theorem dX12_touches_208 : decode cX12_touches 208 = .ok (.imul, 1) := by decide +kernel
theorem dX12_touches_209 : decode cX12_touches 209 = .ok (.iadd, 1) := by decide +kernel
theorem dX12_touches_210 : decode cX12_touches 210 = .ok (.iconst 2, 1) := by decide +kernel
theorem dX12_touches_211 : decode cX12_touches 211 = .ok (.iadd, 1) := by decide +kernel
theorem dX12_touches_212 : decode cX12_touches 212 = .ok (.iaload, 1) := by decide +kernel
theorem dX12_touches_213 : decode cX12_touches 213 = .ok (.isub, 1) := by decide +kernel
theorem dX12_touches_214 : decode cX12_touches 214 = .ok (.i2l, 1) := by decide +kernel
theorem dX12_touches_215 : decode cX12_touches 215 = .ok (.lstore 9, 2) := by decide +kernel
theorem dX12_touches_217 : decode cX12_touches 217 = .ok (.iload_n 3, 1) := by decide +kernel
theorem dX12_touches_218 : decode cX12_touches 218 = .ok (.ifCond .ne 16, 3) := by decide +kernel
theorem dX12_touches_221 : decode cX12_touches 221 = .ok (.aload_n 0, 1) := by decide +kernel
theorem dX12_touches_222 : decode cX12_touches 222 = .ok (.lconst 0, 1) := by decide +kernel
theorem dX12_touches_223 : decode cX12_touches 223 = .ok (.lload 9, 2) := by decide +kernel
theorem dX12_touches_225 : decode cX12_touches 225 = .ok (.lneg, 1) := by decide +kernel
theorem dX12_touches_226 : decode cX12_touches 226 = .ok (.lload 7, 2) := by decide +kernel
theorem dX12_touches_228 : decode cX12_touches 228 = .ok (.invokevirtual 304, 3) := by decide +kernel
theorem dX12_touches_231 : decode cX12_touches 231 = .ok (.goto 31, 3) := by decide +kernel
theorem dX12_touches_234 : decode cX12_touches 234 = .ok (.iload_n 3, 1) := by decide +kernel
theorem dX12_touches_235 : decode cX12_touches 235 = .ok (.iconst 1, 1) := by decide +kernel
theorem dX12_touches_236 : decode cX12_touches 236 = .ok (.if_icmp .ne 16, 3) := by decide +kernel
theorem dX12_touches_239 : decode cX12_touches 239 = .ok (.aload_n 0, 1) := by decide +kernel
theorem dX12_touches_240 : decode cX12_touches 240 = .ok (.lload 9, 2) := by decide +kernel
theorem dX12_touches_242 : decode cX12_touches 242 = .ok (.lconst 0, 1) := by decide +kernel
theorem dX12_touches_243 : decode cX12_touches 243 = .ok (.lload 5, 2) := by decide +kernel
theorem dX12_touches_245 : decode cX12_touches 245 = .ok (.lneg, 1) := by decide +kernel
theorem dX12_touches_246 : decode cX12_touches 246 = .ok (.invokevirtual 304, 3) := by decide +kernel
theorem dX12_touches_249 : decode cX12_touches 249 = .ok (.goto 13, 3) := by decide +kernel
theorem dX12_touches_252 : decode cX12_touches 252 = .ok (.aload_n 0, 1) := by decide +kernel
theorem dX12_touches_253 : decode cX12_touches 253 = .ok (.lload 7, 2) := by decide +kernel
theorem dX12_touches_255 : decode cX12_touches 255 = .ok (.lneg, 1) := by decide +kernel
theorem dX12_touches_256 : decode cX12_touches 256 = .ok (.lload 5, 2) := by decide +kernel
theorem dX12_touches_258 : decode cX12_touches 258 = .ok (.lconst 0, 1) := by decide +kernel
theorem dX12_touches_259 : decode cX12_touches 259 = .ok (.invokevirtual 304, 3) := by decide +kernel
theorem dX12_touches_262 : decode cX12_touches 262 = .ok (.aload_n 0, 1) := by decide +kernel
theorem dX12_touches_263 : decode cX12_touches 263 = .ok (.iload_n 1, 1) := by decide +kernel
theorem dX12_touches_264 : decode cX12_touches 264 = .ok (.invokevirtual 308, 3) := by decide +kernel
theorem dX12_touches_267 : decode cX12_touches 267 = .ok (.istore_n 2, 1) := by decide +kernel
theorem dX12_touches_268 : decode cX12_touches 268 = .ok (.iinc 4 1, 3) := by decide +kernel
theorem dX12_touches_271 : decode cX12_touches 271 = .ok (.goto (-180), 3) := by decide +kernel
theorem dX12_touches_274 : decode cX12_touches 274 = .ok (.iinc 3 1, 3) := by decide +kernel
theorem dX12_touches_277 : decode cX12_touches 277 = .ok (.goto (-237), 3) := by decide +kernel
theorem dX12_touches_280 : decode cX12_touches 280 = .ok (.iload_n 2, 1) := by decide +kernel
theorem dX12_touches_281 : decode cX12_touches 281 = .ok (.ifCond .ne 7, 3) := by decide +kernel
theorem dX12_touches_284 : decode cX12_touches 284 = .ok (.iconst 1, 1) := by decide +kernel
theorem dX12_touches_285 : decode cX12_touches 285 = .ok (.goto 4, 3) := by decide +kernel
theorem dX12_touches_288 : decode cX12_touches 288 = .ok (.iconst 0, 1) := by decide +kernel
theorem dX12_touches_289 : decode cX12_touches 289 = .ok (.ireturn, 1) := by decide +kernel
theorem dX12_touched_0 : decode cX12_touched 0 = .ok (.aload_n 0, 1) := by decide +kernel
theorem dX12_touched_1 : decode cX12_touched 1 = .ok (.getfield 148, 3) := by decide +kernel
theorem dX12_touched_4 : decode cX12_touched 4 = .ok (.iconst 2, 1) := by decide +kernel
theorem dX12_touched_5 : decode cX12_touched 5 = .ok (.if_icmp .lt 8, 3) := by decide +kernel
theorem dX12_touched_8 : decode cX12_touched 8 = .ok (.iload_n 1, 1) := by decide +kernel
theorem dX12_touched_9 : decode cX12_touched 9 = .ok (.iconst (-1), 1) := by decide +kernel
theorem dX12_touched_10 : decode cX12_touched 10 = .ok (.if_icmp .ge 5, 3) := by decide +kernel
theorem dX12_touched_13 : decode cX12_touched 13 = .ok (.iconst (-1), 1) := by decide +kernel
theorem dX12_touched_14 : decode cX12_touched 14 = .ok (.ireturn, 1) := by decide +kernel
theorem dX12_touched_15 : decode cX12_touched 15 = .ok (.iconst 0, 1) := by decide +kernel
theorem dX12_touched_16 : decode cX12_touched 16 = .ok (.istore_n 2, 1) := by decide +kernel
theorem dX12_touched_17 : decode cX12_touched 17 = .ok (.iconst 0, 1) := by decide +kernel
theorem dX12_touched_18 : decode cX12_touched 18 = .ok (.istore_n 3, 1) := by decide +kernel
theorem dX12_touched_19 : decode cX12_touched 19 = .ok (.iload_n 3, 1) := by decide +kernel
theorem dX12_touched_20 : decode cX12_touched 20 = .ok (.aload_n 0, 1) := by decide +kernel
theorem dX12_touched_21 : decode cX12_touched 21 = .ok (.getfield 151, 3) := by decide +kernel
theorem dX12_touched_24 : decode cX12_touched 24 = .ok (.if_icmp .ge 27, 3) := by decide +kernel
theorem dX12_touched_27 : decode cX12_touched 27 = .ok (.aload_n 0, 1) := by decide +kernel
theorem dX12_touched_28 : decode cX12_touched 28 = .ok (.iload_n 3, 1) := by decide +kernel
theorem dX12_touched_29 : decode cX12_touched 29 = .ok (.invokevirtual 311, 3) := by decide +kernel
theorem dX12_touched_32 : decode cX12_touched 32 = .ok (.ifCond .eq 13, 3) := by decide +kernel
theorem dX12_touched_35 : decode cX12_touched 35 = .ok (.iload_n 2, 1) := by decide +kernel
theorem dX12_touched_36 : decode cX12_touched 36 = .ok (.iload_n 1, 1) := by decide +kernel
theorem dX12_touched_37 : decode cX12_touched 37 = .ok (.if_icmp .ne 5, 3) := by decide +kernel
theorem dX12_touched_40 : decode cX12_touched 40 = .ok (.iload_n 3, 1) := by decide +kernel
theorem dX12_touched_41 : decode cX12_touched 41 = .ok (.ireturn, 1) := by decide +kernel
theorem dX12_touched_42 : decode cX12_touched 42 = .ok (.iinc 2 1, 3) := by decide +kernel
theorem dX12_touched_45 : decode cX12_touched 45 = .ok (.iinc 3 1, 3) := by decide +kernel
theorem dX12_touched_48 : decode cX12_touched 48 = .ok (.goto (-29), 3) := by decide +kernel
theorem dX12_touched_51 : decode cX12_touched 51 = .ok (.iload_n 1, 1) := by decide +kernel
theorem dX12_touched_52 : decode cX12_touched 52 = .ok (.iconst (-1), 1) := by decide +kernel
theorem dX12_touched_53 : decode cX12_touched 53 = .ok (.if_icmp .ne 7, 3) := by decide +kernel
theorem dX12_touched_56 : decode cX12_touched 56 = .ok (.iload_n 2, 1) := by decide +kernel
theorem dX12_touched_57 : decode cX12_touched 57 = .ok (.goto 4, 3) := by decide +kernel
theorem dX12_touched_60 : decode cX12_touched 60 = .ok (.iconst (-1), 1) := by decide +kernel
theorem dX12_touched_61 : decode cX12_touched 61 = .ok (.ireturn, 1) := by decide +kernel
theorem dX12_shared_0 : decode cX12_shared 0 = .ok (.iload_n 1, 1) := by decide +kernel
theorem dX12_shared_1 : decode cX12_shared 1 = .ok (.i2l, 1) := by decide +kernel
theorem dX12_shared_2 : decode cX12_shared 2 = .ok (.lconst 0, 1) := by decide +kernel
theorem dX12_shared_3 : decode cX12_shared 3 = .ok (.aload_n 0, 1) := by decide +kernel
theorem dX12_shared_4 : decode cX12_shared 4 = .ok (.getfield 151, 3) := by decide +kernel
theorem dX12_shared_7 : decode cX12_shared 7 = .ok (.iconst 1, 1) := by decide +kernel
theorem dX12_shared_8 : decode cX12_shared 8 = .ok (.isub, 1) := by decide +kernel
theorem dX12_shared_9 : decode cX12_shared 9 = .ok (.i2l, 1) := by decide +kernel
theorem dX12_shared_10 : decode cX12_shared 10 = .ok (.invokestatic 140, 3) := by decide +kernel
theorem dX12_shared_13 : decode cX12_shared 13 = .ok (.ifCond .eq 24, 3) := by decide +kernel
theorem dX12_shared_16 : decode cX12_shared 16 = .ok (.iload_n 2, 1) := by decide +kernel
theorem dX12_shared_17 : decode cX12_shared 17 = .ok (.i2l, 1) := by decide +kernel
theorem dX12_shared_18 : decode cX12_shared 18 = .ok (.lconst 0, 1) := by decide +kernel
theorem dX12_shared_19 : decode cX12_shared 19 = .ok (.aload_n 0, 1) := by decide +kernel
theorem dX12_shared_20 : decode cX12_shared 20 = .ok (.getfield 151, 3) := by decide +kernel
theorem dX12_shared_23 : decode cX12_shared 23 = .ok (.iconst 1, 1) := by decide +kernel
theorem dX12_shared_24 : decode cX12_shared 24 = .ok (.isub, 1) := by decide +kernel
theorem dX12_shared_25 : decode cX12_shared 25 = .ok (.i2l, 1) := by decide +kernel
theorem dX12_shared_26 : decode cX12_shared 26 = .ok (.invokestatic 140, 3) := by decide +kernel
theorem dX12_shared_29 : decode cX12_shared 29 = .ok (.ifCond .eq 8, 3) := by decide +kernel
theorem dX12_shared_32 : decode cX12_shared 32 = .ok (.iload_n 1, 1) := by decide +kernel
theorem dX12_shared_33 : decode cX12_shared 33 = .ok (.iload_n 2, 1) := by decide +kernel
theorem dX12_shared_34 : decode cX12_shared 34 = .ok (.if_icmp .ne 5, 3) := by decide +kernel
theorem dX12_shared_37 : decode cX12_shared 37 = .ok (.iconst (-1), 1) := by decide +kernel
theorem dX12_shared_38 : decode cX12_shared 38 = .ok (.ireturn, 1) := by decide +kernel
theorem dX12_shared_39 : decode cX12_shared 39 = .ok (.iconst 0, 1) := by decide +kernel
theorem dX12_shared_40 : decode cX12_shared 40 = .ok (.istore_n 3, 1) := by decide +kernel
theorem dX12_shared_41 : decode cX12_shared 41 = .ok (.iconst 0, 1) := by decide +kernel
theorem dX12_shared_42 : decode cX12_shared 42 = .ok (.istore 4, 2) := by decide +kernel
theorem dX12_shared_44 : decode cX12_shared 44 = .ok (.iload 4, 2) := by decide +kernel
theorem dX12_shared_46 : decode cX12_shared 46 = .ok (.iconst 3, 1) := by decide +kernel
theorem dX12_shared_47 : decode cX12_shared 47 = .ok (.if_icmp .ge 104, 3) := by decide +kernel
theorem dX12_shared_50 : decode cX12_shared 50 = .ok (.iconst 0, 1) := by decide +kernel
theorem dX12_shared_51 : decode cX12_shared 51 = .ok (.istore 5, 2) := by decide +kernel
theorem dX12_shared_53 : decode cX12_shared 53 = .ok (.iload 5, 2) := by decide +kernel
theorem dX12_shared_55 : decode cX12_shared 55 = .ok (.iconst 3, 1) := by decide +kernel
theorem dX12_shared_56 : decode cX12_shared 56 = .ok (.if_icmp .ge 89, 3) := by decide +kernel
theorem dX12_shared_59 : decode cX12_shared 59 = .ok (.iconst 1, 1) := by decide +kernel
theorem dX12_shared_60 : decode cX12_shared 60 = .ok (.istore 6, 2) := by decide +kernel
theorem dX12_shared_62 : decode cX12_shared 62 = .ok (.iconst 0, 1) := by decide +kernel
theorem dX12_shared_63 : decode cX12_shared 63 = .ok (.istore 7, 2) := by decide +kernel
theorem dX12_shared_65 : decode cX12_shared 65 = .ok (.iload 7, 2) := by decide +kernel
theorem dX12_shared_67 : decode cX12_shared 67 = .ok (.iconst 3, 1) := by decide +kernel
theorem dX12_shared_68 : decode cX12_shared 68 = .ok (.if_icmp .ge 58, 3) := by decide +kernel
theorem dX12_shared_71 : decode cX12_shared 71 = .ok (.iload 6, 2) := by decide +kernel
theorem dX12_shared_73 : decode cX12_shared 73 = .ok (.ifCond .eq 44, 3) := by decide +kernel
theorem dX12_shared_76 : decode cX12_shared 76 = .ok (.aload_n 0, 1) := by decide +kernel
theorem dX12_shared_77 : decode cX12_shared 77 = .ok (.getfield 13, 3) := by decide +kernel
theorem dX12_shared_80 : decode cX12_shared 80 = .ok (.bipush 9, 2) := by decide +kernel
theorem dX12_shared_82 : decode cX12_shared 82 = .ok (.iload_n 1, 1) := by decide +kernel
theorem dX12_shared_83 : decode cX12_shared 83 = .ok (.imul, 1) := by decide +kernel
theorem dX12_shared_84 : decode cX12_shared 84 = .ok (.iconst 3, 1) := by decide +kernel
theorem dX12_shared_85 : decode cX12_shared 85 = .ok (.iload 4, 2) := by decide +kernel
theorem dX12_shared_87 : decode cX12_shared 87 = .ok (.imul, 1) := by decide +kernel
theorem dX12_shared_88 : decode cX12_shared 88 = .ok (.iadd, 1) := by decide +kernel
theorem dX12_shared_89 : decode cX12_shared 89 = .ok (.iload 7, 2) := by decide +kernel
theorem dX12_shared_91 : decode cX12_shared 91 = .ok (.iadd, 1) := by decide +kernel
theorem dX12_shared_92 : decode cX12_shared 92 = .ok (.iaload, 1) := by decide +kernel
theorem dX12_shared_93 : decode cX12_shared 93 = .ok (.aload_n 0, 1) := by decide +kernel
theorem dX12_shared_94 : decode cX12_shared 94 = .ok (.getfield 13, 3) := by decide +kernel
theorem dX12_shared_97 : decode cX12_shared 97 = .ok (.bipush 9, 2) := by decide +kernel
theorem dX12_shared_99 : decode cX12_shared 99 = .ok (.iload_n 2, 1) := by decide +kernel
theorem dX12_shared_100 : decode cX12_shared 100 = .ok (.imul, 1) := by decide +kernel
theorem dX12_shared_101 : decode cX12_shared 101 = .ok (.iconst 3, 1) := by decide +kernel
theorem dX12_shared_102 : decode cX12_shared 102 = .ok (.iload 5, 2) := by decide +kernel
theorem dX12_shared_104 : decode cX12_shared 104 = .ok (.imul, 1) := by decide +kernel
theorem dX12_shared_105 : decode cX12_shared 105 = .ok (.iadd, 1) := by decide +kernel
theorem dX12_shared_106 : decode cX12_shared 106 = .ok (.iload 7, 2) := by decide +kernel
theorem dX12_shared_108 : decode cX12_shared 108 = .ok (.iadd, 1) := by decide +kernel
theorem dX12_shared_109 : decode cX12_shared 109 = .ok (.iaload, 1) := by decide +kernel
theorem dX12_shared_110 : decode cX12_shared 110 = .ok (.if_icmp .ne 7, 3) := by decide +kernel
theorem dX12_shared_113 : decode cX12_shared 113 = .ok (.iconst 1, 1) := by decide +kernel
theorem dX12_shared_114 : decode cX12_shared 114 = .ok (.goto 4, 3) := by decide +kernel
theorem dX12_shared_117 : decode cX12_shared 117 = .ok (.iconst 0, 1) := by decide +kernel
theorem dX12_shared_118 : decode cX12_shared 118 = .ok (.istore 6, 2) := by decide +kernel
theorem dX12_shared_120 : decode cX12_shared 120 = .ok (.iinc 7 1, 3) := by decide +kernel
theorem dX12_shared_123 : decode cX12_shared 123 = .ok (.goto (-58), 3) := by decide +kernel
theorem dX12_shared_126 : decode cX12_shared 126 = .ok (.iload_n 3, 1) := by decide +kernel
theorem dX12_shared_127 : decode cX12_shared 127 = .ok (.iload 6, 2) := by decide +kernel
theorem dX12_shared_129 : decode cX12_shared 129 = .ok (.ifCond .eq 7, 3) := by decide +kernel
theorem dX12_shared_132 : decode cX12_shared 132 = .ok (.iconst 1, 1) := by decide +kernel
theorem dX12_shared_133 : decode cX12_shared 133 = .ok (.goto 4, 3) := by decide +kernel
theorem dX12_shared_136 : decode cX12_shared 136 = .ok (.iconst 0, 1) := by decide +kernel
theorem dX12_shared_137 : decode cX12_shared 137 = .ok (.iadd, 1) := by decide +kernel
theorem dX12_shared_138 : decode cX12_shared 138 = .ok (.istore_n 3, 1) := by decide +kernel
theorem dX12_shared_139 : decode cX12_shared 139 = .ok (.iinc 5 1, 3) := by decide +kernel
theorem dX12_shared_142 : decode cX12_shared 142 = .ok (.goto (-89), 3) := by decide +kernel
theorem dX12_shared_145 : decode cX12_shared 145 = .ok (.iinc 4 1, 3) := by decide +kernel
theorem dX12_shared_148 : decode cX12_shared 148 = .ok (.goto (-104), 3) := by decide +kernel
theorem dX12_shared_151 : decode cX12_shared 151 = .ok (.iload_n 3, 1) := by decide +kernel
theorem dX12_shared_152 : decode cX12_shared 152 = .ok (.ireturn, 1) := by decide +kernel
theorem dX12_count_0 : decode cX12_count 0 = .ok (.iconst 0, 1) := by decide +kernel
theorem dX12_count_1 : decode cX12_count 1 = .ok (.istore_n 2, 1) := by decide +kernel
theorem dX12_count_2 : decode cX12_count 2 = .ok (.iload_n 1, 1) := by decide +kernel
theorem dX12_count_3 : decode cX12_count 3 = .ok (.tableswitch 146 0 7 #[45, 50, 55, 60, 65, 70, 102, 141], 45) := by decide +kernel
theorem dX12_count_48 : decode cX12_count 48 = .ok (.aload_n 0, 1) := by decide +kernel
theorem dX12_count_49 : decode cX12_count 49 = .ok (.getfield 151, 3) := by decide +kernel
theorem dX12_count_52 : decode cX12_count 52 = .ok (.ireturn, 1) := by decide +kernel
theorem dX12_count_53 : decode cX12_count 53 = .ok (.aload_n 0, 1) := by decide +kernel
theorem dX12_count_54 : decode cX12_count 54 = .ok (.getfield 148, 3) := by decide +kernel
theorem dX12_count_57 : decode cX12_count 57 = .ok (.ireturn, 1) := by decide +kernel
theorem dX12_count_58 : decode cX12_count 58 = .ok (.aload_n 0, 1) := by decide +kernel
theorem dX12_count_59 : decode cX12_count 59 = .ok (.getfield 158, 3) := by decide +kernel
theorem dX12_count_62 : decode cX12_count 62 = .ok (.ireturn, 1) := by decide +kernel
theorem dX12_count_63 : decode cX12_count 63 = .ok (.aload_n 0, 1) := by decide +kernel
theorem dX12_count_64 : decode cX12_count 64 = .ok (.getfield 29, 3) := by decide +kernel
theorem dX12_count_67 : decode cX12_count 67 = .ok (.ireturn, 1) := by decide +kernel
theorem dX12_count_68 : decode cX12_count 68 = .ok (.aload_n 0, 1) := by decide +kernel
theorem dX12_count_69 : decode cX12_count 69 = .ok (.getfield 33, 3) := by decide +kernel
theorem dX12_count_72 : decode cX12_count 72 = .ok (.ireturn, 1) := by decide +kernel
theorem dX12_count_73 : decode cX12_count 73 = .ok (.iconst 0, 1) := by decide +kernel
theorem dX12_count_74 : decode cX12_count 74 = .ok (.istore_n 3, 1) := by decide +kernel
theorem dX12_count_75 : decode cX12_count 75 = .ok (.iload_n 3, 1) := by decide +kernel
theorem dX12_count_76 : decode cX12_count 76 = .ok (.iconst 4, 1) := by decide +kernel
theorem dX12_count_77 : decode cX12_count 77 = .ok (.if_icmp .ge 26, 3) := by decide +kernel
theorem dX12_count_80 : decode cX12_count 80 = .ok (.iload_n 2, 1) := by decide +kernel
theorem dX12_count_81 : decode cX12_count 81 = .ok (.aload_n 0, 1) := by decide +kernel
theorem dX12_count_82 : decode cX12_count 82 = .ok (.getfield 39, 3) := by decide +kernel
theorem dX12_count_85 : decode cX12_count 85 = .ok (.iload_n 3, 1) := by decide +kernel
theorem dX12_count_86 : decode cX12_count 86 = .ok (.iaload, 1) := by decide +kernel
theorem dX12_count_87 : decode cX12_count 87 = .ok (.ifCond .le 7, 3) := by decide +kernel
theorem dX12_count_90 : decode cX12_count 90 = .ok (.iconst 1, 1) := by decide +kernel
theorem dX12_count_91 : decode cX12_count 91 = .ok (.goto 4, 3) := by decide +kernel
theorem dX12_count_94 : decode cX12_count 94 = .ok (.iconst 0, 1) := by decide +kernel
theorem dX12_count_95 : decode cX12_count 95 = .ok (.iadd, 1) := by decide +kernel
theorem dX12_count_96 : decode cX12_count 96 = .ok (.istore_n 2, 1) := by decide +kernel
theorem dX12_count_97 : decode cX12_count 97 = .ok (.iinc 3 1, 3) := by decide +kernel
theorem dX12_count_100 : decode cX12_count 100 = .ok (.goto (-25), 3) := by decide +kernel
theorem dX12_count_103 : decode cX12_count 103 = .ok (.iload_n 2, 1) := by decide +kernel
theorem dX12_count_104 : decode cX12_count 104 = .ok (.ireturn, 1) := by decide +kernel
theorem dX12_count_105 : decode cX12_count 105 = .ok (.iconst 0, 1) := by decide +kernel
theorem dX12_count_106 : decode cX12_count 106 = .ok (.istore_n 3, 1) := by decide +kernel
theorem dX12_count_107 : decode cX12_count 107 = .ok (.iload_n 3, 1) := by decide +kernel
theorem dX12_count_108 : decode cX12_count 108 = .ok (.aload_n 0, 1) := by decide +kernel
theorem dX12_count_109 : decode cX12_count 109 = .ok (.getfield 158, 3) := by decide +kernel
theorem dX12_count_112 : decode cX12_count 112 = .ok (.if_icmp .ge 30, 3) := by decide +kernel
theorem dX12_count_115 : decode cX12_count 115 = .ok (.aload_n 0, 1) := by decide +kernel
theorem dX12_count_116 : decode cX12_count 116 = .ok (.getfield 66, 3) := by decide +kernel
theorem dX12_count_119 : decode cX12_count 119 = .ok (.iload_n 3, 1) := by decide +kernel
theorem dX12_count_120 : decode cX12_count 120 = .ok (.iaload, 1) := by decide +kernel
theorem dX12_count_121 : decode cX12_count 121 = .ok (.iload_n 2, 1) := by decide +kernel
theorem dX12_count_122 : decode cX12_count 122 = .ok (.if_icmp .le 12, 3) := by decide +kernel
theorem dX12_count_125 : decode cX12_count 125 = .ok (.aload_n 0, 1) := by decide +kernel
theorem dX12_count_126 : decode cX12_count 126 = .ok (.getfield 66, 3) := by decide +kernel
theorem dX12_count_129 : decode cX12_count 129 = .ok (.iload_n 3, 1) := by decide +kernel
theorem dX12_count_130 : decode cX12_count 130 = .ok (.iaload, 1) := by decide +kernel
theorem dX12_count_131 : decode cX12_count 131 = .ok (.goto 4, 3) := by decide +kernel
theorem dX12_count_134 : decode cX12_count 134 = .ok (.iload_n 2, 1) := by decide +kernel
theorem dX12_count_135 : decode cX12_count 135 = .ok (.istore_n 2, 1) := by decide +kernel
theorem dX12_count_136 : decode cX12_count 136 = .ok (.iinc 3 1, 3) := by decide +kernel
theorem dX12_count_139 : decode cX12_count 139 = .ok (.goto (-32), 3) := by decide +kernel
theorem dX12_count_142 : decode cX12_count 142 = .ok (.iload_n 2, 1) := by decide +kernel
theorem dX12_count_143 : decode cX12_count 143 = .ok (.ireturn, 1) := by decide +kernel
theorem dX12_count_144 : decode cX12_count 144 = .ok (.aload_n 0, 1) := by decide +kernel
theorem dX12_count_145 : decode cX12_count 145 = .ok (.getfield 259, 3) := by decide +kernel
theorem dX12_count_148 : decode cX12_count 148 = .ok (.ireturn, 1) := by decide +kernel
theorem dX12_count_149 : decode cX12_count 149 = .ok (.iconst (-1), 1) := by decide +kernel
theorem dX12_count_150 : decode cX12_count 150 = .ok (.ireturn, 1) := by decide +kernel
