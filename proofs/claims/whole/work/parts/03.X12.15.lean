theorem dX12_hits_198 : decode cX12_hits 198 = .ok (.iadd, 1) := by decide +kernel
theorem dX12_hits_199 : decode cX12_hits 199 = .ok (.iconst 3, 1) := by decide +kernel
theorem dX12_hits_200 : decode cX12_hits 200 = .ok (.irem, 1) := by decide +kernel
theorem dX12_hits_201 : decode cX12_hits 201 = .ok (.imul, 1) := by decide +kernel
theorem dX12_hits_202 : decode cX12_hits 202 = .ok (.iconst 3, 1) := by decide +kernel
theorem dX12_hits_203 : decode cX12_hits 203 = .ok (.iload_n 3, 1) := by decide +kernel
theorem dX12_hits_204 : decode cX12_hits 204 = .ok (.iconst 2, 1) := by decide +kernel
theorem dX12_hits_205 : decode cX12_hits 205 = .ok (.iadd, 1) := by decide +kernel
theorem dX12_hits_206 : decode cX12_hits 206 = .ok (.iconst 3, 1) := by decide +kernel
theorem dX12_hits_207 : decode cX12_hits 207 = .ok (.irem, 1) := by decide +kernel
theorem dX12_hits_208 : decode cX12_hits 208 = .ok (.imul, 1) := by decide +kernel
theorem dX12_hits_209 : decode cX12_hits 209 = .ok (.invokevirtual 217, 3) := by decide +kernel
theorem dX12_hits_212 : decode cX12_hits 212 = .ok (.lastore, 1) := by decide +kernel
theorem dX12_hits_213 : decode cX12_hits 213 = .ok (.iload_n 2, 1) := by decide +kernel
theorem dX12_hits_214 : decode cX12_hits 214 = .ok (.ifCond .eq 51, 3) := by decide +kernel
theorem dX12_hits_217 : decode cX12_hits 217 = .ok (.aload_n 0, 1) := by decide +kernel
theorem dX12_hits_218 : decode cX12_hits 218 = .ok (.getfield 84, 3) := by decide +kernel
theorem dX12_hits_221 : decode cX12_hits 221 = .ok (.iload_n 3, 1) := by decide +kernel
theorem dX12_hits_222 : decode cX12_hits 222 = .ok (.laload, 1) := by decide +kernel
theorem dX12_hits_223 : decode cX12_hits 223 = .ok (.lconst 0, 1) := by decide +kernel
theorem dX12_hits_224 : decode cX12_hits 224 = .ok (.lcmp, 1) := by decide +kernel
theorem dX12_hits_225 : decode cX12_hits 225 = .ok (.ifCond .eq 36, 3) := by decide +kernel
theorem dX12_hits_228 : decode cX12_hits 228 = .ok (.aload_n 0, 1) := by decide +kernel
theorem dX12_hits_229 : decode cX12_hits 229 = .ok (.getfield 84, 3) := by decide +kernel
theorem dX12_hits_232 : decode cX12_hits 232 = .ok (.iload_n 3, 1) := by decide +kernel
theorem dX12_hits_233 : decode cX12_hits 233 = .ok (.laload, 1) := by decide +kernel
theorem dX12_hits_234 : decode cX12_hits 234 = .ok (.lconst 0, 1) := by decide +kernel
theorem dX12_hits_235 : decode cX12_hits 235 = .ok (.lcmp, 1) := by decide +kernel
theorem dX12_hits_236 : decode cX12_hits 236 = .ok (.ifCond .le 7, 3) := by decide +kernel
theorem dX12_hits_239 : decode cX12_hits 239 = .ok (.iconst 1, 1) := by decide +kernel
theorem dX12_hits_240 : decode cX12_hits 240 = .ok (.goto 4, 3) := by decide +kernel
theorem dX12_hits_243 : decode cX12_hits 243 = .ok (.iconst 0, 1) := by decide +kernel
theorem dX12_hits_244 : decode cX12_hits 244 = .ok (.aload_n 0, 1) := by decide +kernel
theorem dX12_hits_245 : decode cX12_hits 245 = .ok (.getfield 210, 3) := by decide +kernel
theorem dX12_hits_248 : decode cX12_hits 248 = .ok (.lconst 0, 1) := by decide +kernel
theorem dX12_hits_249 : decode cX12_hits 249 = .ok (.lcmp, 1) := by decide +kernel
theorem dX12_hits_250 : decode cX12_hits 250 = .ok (.ifCond .le 7, 3) := by decide +kernel
theorem dX12_hits_253 : decode cX12_hits 253 = .ok (.iconst 1, 1) := by decide +kernel
theorem dX12_hits_254 : decode cX12_hits 254 = .ok (.goto 4, 3) := by decide +kernel
theorem dX12_hits_257 : decode cX12_hits 257 = .ok (.iconst 0, 1) := by decide +kernel
theorem dX12_hits_258 : decode cX12_hits 258 = .ok (.if_icmp .ne 7, 3) := by decide +kernel
theorem dX12_hits_261 : decode cX12_hits 261 = .ok (.iconst 1, 1) := by decide +kernel
theorem dX12_hits_262 : decode cX12_hits 262 = .ok (.goto 4, 3) := by decide +kernel
theorem dX12_hits_265 : decode cX12_hits 265 = .ok (.iconst 0, 1) := by decide +kernel
theorem dX12_hits_266 : decode cX12_hits 266 = .ok (.istore_n 2, 1) := by decide +kernel
theorem dX12_hits_267 : decode cX12_hits 267 = .ok (.iinc 3 1, 3) := by decide +kernel
theorem dX12_hits_270 : decode cX12_hits 270 = .ok (.goto (-86), 3) := by decide +kernel
theorem dX12_hits_273 : decode cX12_hits 273 = .ok (.iload_n 2, 1) := by decide +kernel
theorem dX12_hits_274 : decode cX12_hits 274 = .ok (.ireturn, 1) := by decide +kernel
theorem dX12_triple_0 : decode cX12_triple 0 = .ok (.aload_n 0, 1) := by decide +kernel
theorem dX12_triple_1 : decode cX12_triple 1 = .ok (.getfield 90, 3) := by decide +kernel
theorem dX12_triple_4 : decode cX12_triple 4 = .ok (.iconst 0, 1) := by decide +kernel
theorem dX12_triple_5 : decode cX12_triple 5 = .ok (.laload, 1) := by decide +kernel
theorem dX12_triple_6 : decode cX12_triple 6 = .ok (.aload_n 0, 1) := by decide +kernel
theorem dX12_triple_7 : decode cX12_triple 7 = .ok (.getfield 93, 3) := by decide +kernel
theorem dX12_triple_10 : decode cX12_triple 10 = .ok (.iload_n 1, 1) := by decide +kernel
theorem dX12_triple_11 : decode cX12_triple 11 = .ok (.iconst 1, 1) := by decide +kernel
theorem dX12_triple_12 : decode cX12_triple 12 = .ok (.iadd, 1) := by decide +kernel
theorem dX12_triple_13 : decode cX12_triple 13 = .ok (.laload, 1) := by decide +kernel
theorem dX12_triple_14 : decode cX12_triple 14 = .ok (.aload_n 0, 1) := by decide +kernel
theorem dX12_triple_15 : decode cX12_triple 15 = .ok (.getfield 93, 3) := by decide +kernel
theorem dX12_triple_18 : decode cX12_triple 18 = .ok (.iload_n 2, 1) := by decide +kernel
theorem dX12_triple_19 : decode cX12_triple 19 = .ok (.iconst 2, 1) := by decide +kernel
theorem dX12_triple_20 : decode cX12_triple 20 = .ok (.iadd, 1) := by decide +kernel
theorem dX12_triple_21 : decode cX12_triple 21 = .ok (.laload, 1) := by decide +kernel
theorem dX12_triple_22 : decode cX12_triple 22 = .ok (.lmul, 1) := by decide +kernel
theorem dX12_triple_23 : decode cX12_triple 23 = .ok (.aload_n 0, 1) := by decide +kernel
theorem dX12_triple_24 : decode cX12_triple 24 = .ok (.getfield 93, 3) := by decide +kernel
theorem dX12_triple_27 : decode cX12_triple 27 = .ok (.iload_n 1, 1) := by decide +kernel
theorem dX12_triple_28 : decode cX12_triple 28 = .ok (.iconst 2, 1) := by decide +kernel
theorem dX12_triple_29 : decode cX12_triple 29 = .ok (.iadd, 1) := by decide +kernel
theorem dX12_triple_30 : decode cX12_triple 30 = .ok (.laload, 1) := by decide +kernel
theorem dX12_triple_31 : decode cX12_triple 31 = .ok (.aload_n 0, 1) := by decide +kernel
theorem dX12_triple_32 : decode cX12_triple 32 = .ok (.getfield 93, 3) := by decide +kernel
theorem dX12_triple_35 : decode cX12_triple 35 = .ok (.iload_n 2, 1) := by decide +kernel
theorem dX12_triple_36 : decode cX12_triple 36 = .ok (.iconst 1, 1) := by decide +kernel
theorem dX12_triple_37 : decode cX12_triple 37 = .ok (.iadd, 1) := by decide +kernel
theorem dX12_triple_38 : decode cX12_triple 38 = .ok (.laload, 1) := by decide +kernel
theorem dX12_triple_39 : decode cX12_triple 39 = .ok (.lmul, 1) := by decide +kernel
theorem dX12_triple_40 : decode cX12_triple 40 = .ok (.lsub, 1) := by decide +kernel
theorem dX12_triple_41 : decode cX12_triple 41 = .ok (.lmul, 1) := by decide +kernel
theorem dX12_triple_42 : decode cX12_triple 42 = .ok (.aload_n 0, 1) := by decide +kernel
theorem dX12_triple_43 : decode cX12_triple 43 = .ok (.getfield 90, 3) := by decide +kernel
theorem dX12_triple_46 : decode cX12_triple 46 = .ok (.iconst 1, 1) := by decide +kernel
theorem dX12_triple_47 : decode cX12_triple 47 = .ok (.laload, 1) := by decide +kernel
theorem dX12_triple_48 : decode cX12_triple 48 = .ok (.aload_n 0, 1) := by decide +kernel
theorem dX12_triple_49 : decode cX12_triple 49 = .ok (.getfield 93, 3) := by decide +kernel
theorem dX12_triple_52 : decode cX12_triple 52 = .ok (.iload_n 1, 1) := by decide +kernel
theorem dX12_triple_53 : decode cX12_triple 53 = .ok (.iconst 2, 1) := by decide +kernel
theorem dX12_triple_54 : decode cX12_triple 54 = .ok (.iadd, 1) := by decide +kernel
theorem dX12_triple_55 : decode cX12_triple 55 = .ok (.laload, 1) := by decide +kernel
theorem dX12_triple_56 : decode cX12_triple 56 = .ok (.aload_n 0, 1) := by decide +kernel
theorem dX12_triple_57 : decode cX12_triple 57 = .ok (.getfield 93, 3) := by decide +kernel
theorem dX12_triple_60 : decode cX12_triple 60 = .ok (.iload_n 2, 1) := by decide +kernel
theorem dX12_triple_61 : decode cX12_triple 61 = .ok (.laload, 1) := by decide +kernel
theorem dX12_triple_62 : decode cX12_triple 62 = .ok (.lmul, 1) := by decide +kernel
theorem dX12_triple_63 : decode cX12_triple 63 = .ok (.aload_n 0, 1) := by decide +kernel
theorem dX12_triple_64 : decode cX12_triple 64 = .ok (.getfield 93, 3) := by decide +kernel
theorem dX12_triple_67 : decode cX12_triple 67 = .ok (.iload_n 1, 1) := by decide +kernel
theorem dX12_triple_68 : decode cX12_triple 68 = .ok (.laload, 1) := by decide +kernel
theorem dX12_triple_69 : decode cX12_triple 69 = .ok (.aload_n 0, 1) := by decide +kernel
theorem dX12_triple_70 : decode cX12_triple 70 = .ok (.getfield 93, 3) := by decide +kernel
theorem dX12_triple_73 : decode cX12_triple 73 = .ok (.iload_n 2, 1) := by decide +kernel
theorem dX12_triple_74 : decode cX12_triple 74 = .ok (.iconst 2, 1) := by decide +kernel
theorem dX12_triple_75 : decode cX12_triple 75 = .ok (.iadd, 1) := by decide +kernel
theorem dX12_triple_76 : decode cX12_triple 76 = .ok (.laload, 1) := by decide +kernel
theorem dX12_triple_77 : decode cX12_triple 77 = .ok (.lmul, 1) := by decide +kernel
theorem dX12_triple_78 : decode cX12_triple 78 = .ok (.lsub, 1) := by decide +kernel
theorem dX12_triple_79 : decode cX12_triple 79 = .ok (.lmul, 1) := by decide +kernel
theorem dX12_triple_80 : decode cX12_triple 80 = .ok (.ladd, 1) := by decide +kernel
theorem dX12_triple_81 : decode cX12_triple 81 = .ok (.aload_n 0, 1) := by decide +kernel
theorem dX12_triple_82 : decode cX12_triple 82 = .ok (.getfield 90, 3) := by decide +kernel
theorem dX12_triple_85 : decode cX12_triple 85 = .ok (.iconst 2, 1) := by decide +kernel
theorem dX12_triple_86 : decode cX12_triple 86 = .ok (.laload, 1) := by decide +kernel
theorem dX12_triple_87 : decode cX12_triple 87 = .ok (.aload_n 0, 1) := by decide +kernel
theorem dX12_triple_88 : decode cX12_triple 88 = .ok (.getfield 93, 3) := by decide +kernel
theorem dX12_triple_91 : decode cX12_triple 91 = .ok (.iload_n 1, 1) := by decide +kernel
theorem dX12_triple_92 : decode cX12_triple 92 = .ok (.laload, 1) := by decide +kernel
theorem dX12_triple_93 : decode cX12_triple 93 = .ok (.aload_n 0, 1) := by decide +kernel
theorem dX12_triple_94 : decode cX12_triple 94 = .ok (.getfield 93, 3) := by decide +kernel
theorem dX12_triple_97 : decode cX12_triple 97 = .ok (.iload_n 2, 1) := by decide +kernel
theorem dX12_triple_98 : decode cX12_triple 98 = .ok (.iconst 1, 1) := by decide +kernel
theorem dX12_triple_99 : decode cX12_triple 99 = .ok (.iadd, 1) := by decide +kernel
theorem dX12_triple_100 : decode cX12_triple 100 = .ok (.laload, 1) := by decide +kernel
theorem dX12_triple_101 : decode cX12_triple 101 = .ok (.lmul, 1) := by decide +kernel
theorem dX12_triple_102 : decode cX12_triple 102 = .ok (.aload_n 0, 1) := by decide +kernel
theorem dX12_triple_103 : decode cX12_triple 103 = .ok (.getfield 93, 3) := by decide +kernel
theorem dX12_triple_106 : decode cX12_triple 106 = .ok (.iload_n 1, 1) := by decide +kernel
theorem dX12_triple_107 : decode cX12_triple 107 = .ok (.iconst 1, 1) := by decide +kernel
theorem dX12_triple_108 : decode cX12_triple 108 = .ok (.iadd, 1) := by decide +kernel
theorem dX12_triple_109 : decode cX12_triple 109 = .ok (.laload, 1) := by decide +kernel
theorem dX12_triple_110 : decode cX12_triple 110 = .ok (.aload_n 0, 1) := by decide +kernel
theorem dX12_triple_111 : decode cX12_triple 111 = .ok (.getfield 93, 3) := by decide +kernel
theorem dX12_triple_114 : decode cX12_triple 114 = .ok (.iload_n 2, 1) := by decide +kernel
theorem dX12_triple_115 : decode cX12_triple 115 = .ok (.laload, 1) := by decide +kernel
theorem dX12_triple_116 : decode cX12_triple 116 = .ok (.lmul, 1) := by decide +kernel
theorem dX12_triple_117 : decode cX12_triple 117 = .ok (.lsub, 1) := by decide +kernel
theorem dX12_triple_118 : decode cX12_triple 118 = .ok (.lmul, 1) := by decide +kernel
theorem dX12_triple_119 : decode cX12_triple 119 = .ok (.ladd, 1) := by decide +kernel
theorem dX12_triple_120 : decode cX12_triple 120 = .ok (.lreturn, 1) := by decide +kernel
theorem dX12_looks_0 : decode cX12_looks 0 = .ok (.iconst 0, 1) := by decide +kernel
theorem dX12_looks_1 : decode cX12_looks 1 = .ok (.istore_n 2, 1) := by decide +kernel
theorem dX12_looks_2 : decode cX12_looks 2 = .ok (.iload_n 2, 1) := by decide +kernel
theorem dX12_looks_3 : decode cX12_looks 3 = .ok (.iconst 3, 1) := by decide +kernel
theorem dX12_looks_4 : decode cX12_looks 4 = .ok (.if_icmp .ge 34, 3) := by decide +kernel
theorem dX12_looks_7 : decode cX12_looks 7 = .ok (.aload_n 0, 1) := by decide +kernel
theorem dX12_looks_8 : decode cX12_looks 8 = .ok (.getfield 87, 3) := by decide +kernel
theorem dX12_looks_11 : decode cX12_looks 11 = .ok (.iload_n 2, 1) := by decide +kernel
theorem dX12_looks_12 : decode cX12_looks 12 = .ok (.aload_n 0, 1) := by decide +kernel
theorem dX12_looks_13 : decode cX12_looks 13 = .ok (.getfield 23, 3) := by decide +kernel
theorem dX12_looks_16 : decode cX12_looks 16 = .ok (.iload_n 2, 1) := by decide +kernel
theorem dX12_looks_17 : decode cX12_looks 17 = .ok (.iaload, 1) := by decide +kernel
theorem dX12_looks_18 : decode cX12_looks 18 = .ok (.i2l, 1) := by decide +kernel
theorem dX12_looks_19 : decode cX12_looks 19 = .ok (.lastore, 1) := by decide +kernel
theorem dX12_looks_20 : decode cX12_looks 20 = .ok (.aload_n 0, 1) := by decide +kernel
theorem dX12_looks_21 : decode cX12_looks 21 = .ok (.getfield 90, 3) := by decide +kernel
theorem dX12_looks_24 : decode cX12_looks 24 = .ok (.iload_n 2, 1) := by decide +kernel
theorem dX12_looks_25 : decode cX12_looks 25 = .ok (.aload_n 0, 1) := by decide +kernel
theorem dX12_looks_26 : decode cX12_looks 26 = .ok (.getfield 81, 3) := by decide +kernel
theorem dX12_looks_29 : decode cX12_looks 29 = .ok (.iload_n 2, 1) := by decide +kernel
theorem dX12_looks_30 : decode cX12_looks 30 = .ok (.laload, 1) := by decide +kernel
theorem dX12_looks_31 : decode cX12_looks 31 = .ok (.lastore, 1) := by decide +kernel
theorem dX12_looks_32 : decode cX12_looks 32 = .ok (.iinc 2 1, 3) := by decide +kernel
theorem dX12_looks_35 : decode cX12_looks 35 = .ok (.goto (-33), 3) := by decide +kernel
theorem dX12_looks_38 : decode cX12_looks 38 = .ok (.aload_n 0, 1) := by decide +kernel
theorem dX12_looks_39 : decode cX12_looks 39 = .ok (.iload_n 1, 1) := by decide +kernel
theorem dX12_looks_40 : decode cX12_looks 40 = .ok (.invokevirtual 221, 3) := by decide +kernel
theorem dX12_looks_43 : decode cX12_looks 43 = .ok (.ireturn, 1) := by decide +kernel
theorem dX12_findFirst_0 : decode cX12_findFirst 0 = .ok (.aload_n 0, 1) := by decide +kernel
theorem dX12_findFirst_1 : decode cX12_findFirst 1 = .ok (.iload_n 1, 1) := by decide +kernel
theorem dX12_findFirst_2 : decode cX12_findFirst 2 = .ok (.iload_n 2, 1) := by decide +kernel
theorem dX12_findFirst_3 : decode cX12_findFirst 3 = .ok (.invokevirtual 224, 3) := by decide +kernel
theorem dX12_findFirst_6 : decode cX12_findFirst 6 = .ok (.aload_n 0, 1) := by decide +kernel
theorem dX12_findFirst_7 : decode cX12_findFirst 7 = .ok (.bipush (-2), 2) := by decide +kernel
theorem dX12_findFirst_9 : decode cX12_findFirst 9 = .ok (.putfield 228, 3) := by decide +kernel
theorem dX12_findFirst_12 : decode cX12_findFirst 12 = .ok (.iconst 0, 1) := by decide +kernel
theorem dX12_findFirst_13 : decode cX12_findFirst 13 = .ok (.istore_n 3, 1) := by decide +kernel
theorem dX12_findFirst_14 : decode cX12_findFirst 14 = .ok (.iload_n 3, 1) := by decide +kernel
theorem dX12_findFirst_15 : decode cX12_findFirst 15 = .ok (.aload_n 0, 1) := by decide +kernel
theorem dX12_findFirst_16 : decode cX12_findFirst 16 = .ok (.getfield 151, 3) := by decide +kernel
theorem dX12_findFirst_19 : decode cX12_findFirst 19 = .ok (.if_icmp .ge 154, 3) := by decide +kernel
theorem dX12_findFirst_22 : decode cX12_findFirst 22 = .ok (.aload_n 0, 1) := by decide +kernel
theorem dX12_findFirst_23 : decode cX12_findFirst 23 = .ok (.iload_n 3, 1) := by decide +kernel
theorem dX12_findFirst_24 : decode cX12_findFirst 24 = .ok (.invokevirtual 231, 3) := by decide +kernel
theorem dX12_findFirst_27 : decode cX12_findFirst 27 = .ok (.ifCond .eq 140, 3) := by decide +kernel
theorem dX12_findFirst_30 : decode cX12_findFirst 30 = .ok (.aload_n 0, 1) := by decide +kernel
theorem dX12_findFirst_31 : decode cX12_findFirst 31 = .ok (.getfield 210, 3) := by decide +kernel
theorem dX12_findFirst_34 : decode cX12_findFirst 34 = .ok (.lconst 0, 1) := by decide +kernel
theorem dX12_findFirst_35 : decode cX12_findFirst 35 = .ok (.lcmp, 1) := by decide +kernel
theorem dX12_findFirst_36 : decode cX12_findFirst 36 = .ok (.ifCond .ge 11, 3) := by decide +kernel
theorem dX12_findFirst_39 : decode cX12_findFirst 39 = .ok (.aload_n 0, 1) := by decide +kernel
theorem dX12_findFirst_40 : decode cX12_findFirst 40 = .ok (.getfield 214, 3) := by decide +kernel
theorem dX12_findFirst_43 : decode cX12_findFirst 43 = .ok (.lneg, 1) := by decide +kernel
theorem dX12_findFirst_44 : decode cX12_findFirst 44 = .ok (.goto 7, 3) := by decide +kernel
theorem dX12_findFirst_47 : decode cX12_findFirst 47 = .ok (.aload_n 0, 1) := by decide +kernel
theorem dX12_findFirst_48 : decode cX12_findFirst 48 = .ok (.getfield 214, 3) := by decide +kernel
theorem dX12_findFirst_51 : decode cX12_findFirst 51 = .ok (.lstore 4, 2) := by decide +kernel
theorem dX12_findFirst_53 : decode cX12_findFirst 53 = .ok (.aload_n 0, 1) := by decide +kernel
theorem dX12_findFirst_54 : decode cX12_findFirst 54 = .ok (.getfield 210, 3) := by decide +kernel
theorem dX12_findFirst_57 : decode cX12_findFirst 57 = .ok (.lconst 0, 1) := by decide +kernel
theorem dX12_findFirst_58 : decode cX12_findFirst 58 = .ok (.lcmp, 1) := by decide +kernel
theorem dX12_findFirst_59 : decode cX12_findFirst 59 = .ok (.ifCond .ge 11, 3) := by decide +kernel
theorem dX12_findFirst_62 : decode cX12_findFirst 62 = .ok (.aload_n 0, 1) := by decide +kernel
theorem dX12_findFirst_63 : decode cX12_findFirst 63 = .ok (.getfield 210, 3) := by decide +kernel
theorem dX12_findFirst_66 : decode cX12_findFirst 66 = .ok (.lneg, 1) := by decide +kernel
theorem dX12_findFirst_67 : decode cX12_findFirst 67 = .ok (.goto 7, 3) := by decide +kernel
theorem dX12_findFirst_70 : decode cX12_findFirst 70 = .ok (.aload_n 0, 1) := by decide +kernel
theorem dX12_findFirst_71 : decode cX12_findFirst 71 = .ok (.getfield 210, 3) := by decide +kernel
theorem dX12_findFirst_74 : decode cX12_findFirst 74 = .ok (.lstore 6, 2) := by decide +kernel
theorem dX12_findFirst_76 : decode cX12_findFirst 76 = .ok (.aload_n 0, 1) := by decide +kernel
theorem dX12_findFirst_77 : decode cX12_findFirst 77 = .ok (.getfield 228, 3) := by decide +kernel
theorem dX12_findFirst_80 : decode cX12_findFirst 80 = .ok (.ifCond .lt 21, 3) := by decide +kernel
theorem dX12_findFirst_83 : decode cX12_findFirst 83 = .ok (.lload 4, 2) := by decide +kernel
theorem dX12_findFirst_85 : decode cX12_findFirst 85 = .ok (.aload_n 0, 1) := by decide +kernel
theorem dX12_findFirst_86 : decode cX12_findFirst 86 = .ok (.getfield 234, 3) := by decide +kernel
theorem dX12_findFirst_89 : decode cX12_findFirst 89 = .ok (.lmul, 1) := by decide +kernel
theorem dX12_findFirst_90 : decode cX12_findFirst 90 = .ok (.aload_n 0, 1) := by decide +kernel
theorem dX12_findFirst_91 : decode cX12_findFirst 91 = .ok (.getfield 237, 3) := by decide +kernel
theorem dX12_findFirst_94 : decode cX12_findFirst 94 = .ok (.lload 6, 2) := by decide +kernel
theorem dX12_findFirst_96 : decode cX12_findFirst 96 = .ok (.lmul, 1) := by decide +kernel
theorem dX12_findFirst_97 : decode cX12_findFirst 97 = .ok (.lcmp, 1) := by decide +kernel
theorem dX12_findFirst_98 : decode cX12_findFirst 98 = .ok (.ifCond .ge 69, 3) := by decide +kernel
theorem dX12_findFirst_101 : decode cX12_findFirst 101 = .ok (.aload_n 0, 1) := by decide +kernel
theorem dX12_findFirst_102 : decode cX12_findFirst 102 = .ok (.iload_n 3, 1) := by decide +kernel
theorem dX12_findFirst_103 : decode cX12_findFirst 103 = .ok (.putfield 228, 3) := by decide +kernel
theorem dX12_findFirst_106 : decode cX12_findFirst 106 = .ok (.aload_n 0, 1) := by decide +kernel
theorem dX12_findFirst_107 : decode cX12_findFirst 107 = .ok (.lload 4, 2) := by decide +kernel
theorem dX12_findFirst_109 : decode cX12_findFirst 109 = .ok (.putfield 237, 3) := by decide +kernel
theorem dX12_findFirst_112 : decode cX12_findFirst 112 = .ok (.aload_n 0, 1) := by decide +kernel
theorem dX12_findFirst_113 : decode cX12_findFirst 113 = .ok (.lload 6, 2) := by decide +kernel
theorem dX12_findFirst_115 : decode cX12_findFirst 115 = .ok (.putfield 234, 3) := by decide +kernel
theorem dX12_findFirst_118 : decode cX12_findFirst 118 = .ok (.iconst 0, 1) := by decide +kernel
theorem dX12_findFirst_119 : decode cX12_findFirst 119 = .ok (.istore 8, 2) := by decide +kernel
theorem dX12_findFirst_121 : decode cX12_findFirst 121 = .ok (.iload 8, 2) := by decide +kernel
theorem dX12_findFirst_123 : decode cX12_findFirst 123 = .ok (.iconst 3, 1) := by decide +kernel
theorem dX12_findFirst_124 : decode cX12_findFirst 124 = .ok (.if_icmp .ge 43, 3) := by decide +kernel
theorem dX12_findFirst_127 : decode cX12_findFirst 127 = .ok (.aload_n 0, 1) := by decide +kernel
theorem dX12_findFirst_128 : decode cX12_findFirst 128 = .ok (.getfield 96, 3) := by decide +kernel
theorem dX12_findFirst_131 : decode cX12_findFirst 131 = .ok (.iload 8, 2) := by decide +kernel
theorem dX12_findFirst_133 : decode cX12_findFirst 133 = .ok (.aload_n 0, 1) := by decide +kernel
theorem dX12_findFirst_134 : decode cX12_findFirst 134 = .ok (.getfield 210, 3) := by decide +kernel
theorem dX12_findFirst_137 : decode cX12_findFirst 137 = .ok (.lconst 0, 1) := by decide +kernel
theorem dX12_findFirst_138 : decode cX12_findFirst 138 = .ok (.lcmp, 1) := by decide +kernel
theorem dX12_findFirst_139 : decode cX12_findFirst 139 = .ok (.ifCond .ge 14, 3) := by decide +kernel
theorem dX12_findFirst_142 : decode cX12_findFirst 142 = .ok (.aload_n 0, 1) := by decide +kernel
theorem dX12_findFirst_143 : decode cX12_findFirst 143 = .ok (.getfield 84, 3) := by decide +kernel
theorem dX12_findFirst_146 : decode cX12_findFirst 146 = .ok (.iload 8, 2) := by decide +kernel
theorem dX12_findFirst_148 : decode cX12_findFirst 148 = .ok (.laload, 1) := by decide +kernel
theorem dX12_findFirst_149 : decode cX12_findFirst 149 = .ok (.lneg, 1) := by decide +kernel
theorem dX12_findFirst_150 : decode cX12_findFirst 150 = .ok (.goto 10, 3) := by decide +kernel
theorem dX12_findFirst_153 : decode cX12_findFirst 153 = .ok (.aload_n 0, 1) := by decide +kernel
theorem dX12_findFirst_154 : decode cX12_findFirst 154 = .ok (.getfield 84, 3) := by decide +kernel
theorem dX12_findFirst_157 : decode cX12_findFirst 157 = .ok (.iload 8, 2) := by decide +kernel
theorem dX12_findFirst_159 : decode cX12_findFirst 159 = .ok (.laload, 1) := by decide +kernel
theorem dX12_findFirst_160 : decode cX12_findFirst 160 = .ok (.lastore, 1) := by decide +kernel
theorem dX12_findFirst_161 : decode cX12_findFirst 161 = .ok (.iinc 8 1, 3) := by decide +kernel
theorem dX12_findFirst_164 : decode cX12_findFirst 164 = .ok (.goto (-43), 3) := by decide +kernel
theorem dX12_findFirst_167 : decode cX12_findFirst 167 = .ok (.iinc 3 1, 3) := by decide +kernel
theorem dX12_findFirst_170 : decode cX12_findFirst 170 = .ok (.goto (-156), 3) := by decide +kernel
theorem dX12_findFirst_173 : decode cX12_findFirst 173 = .ok (.return_, 1) := by decide +kernel
theorem dX12_common_0 : decode cX12_common 0 = .ok (.lload_n 0, 1) := by decide +kernel
theorem dX12_common_1 : decode cX12_common 1 = .ok (.lconst 0, 1) := by decide +kernel
theorem dX12_common_2 : decode cX12_common 2 = .ok (.lcmp, 1) := by decide +kernel
theorem dX12_common_3 : decode cX12_common 3 = .ok (.ifCond .ge 8, 3) := by decide +kernel
theorem dX12_common_6 : decode cX12_common 6 = .ok (.lload_n 0, 1) := by decide +kernel
theorem dX12_common_7 : decode cX12_common 7 = .ok (.lneg, 1) := by decide +kernel
theorem dX12_common_8 : decode cX12_common 8 = .ok (.goto 4, 3) := by decide +kernel
theorem dX12_common_11 : decode cX12_common 11 = .ok (.lload_n 0, 1) := by decide +kernel
theorem dX12_common_12 : decode cX12_common 12 = .ok (.lstore 4, 2) := by decide +kernel
theorem dX12_common_14 : decode cX12_common 14 = .ok (.lload_n 2, 1) := by decide +kernel
theorem dX12_common_15 : decode cX12_common 15 = .ok (.lconst 0, 1) := by decide +kernel
theorem dX12_common_16 : decode cX12_common 16 = .ok (.lcmp, 1) := by decide +kernel
theorem dX12_common_17 : decode cX12_common 17 = .ok (.ifCond .ge 8, 3) := by decide +kernel
theorem dX12_common_20 : decode cX12_common 20 = .ok (.lload_n 2, 1) := by decide +kernel
theorem dX12_common_21 : decode cX12_common 21 = .ok (.lneg, 1) := by decide +kernel
theorem dX12_common_22 : decode cX12_common 22 = .ok (.goto 4, 3) := by decide +kernel
theorem dX12_common_25 : decode cX12_common 25 = .ok (.lload_n 2, 1) := by decide +kernel
theorem dX12_common_26 : decode cX12_common 26 = .ok (.lstore 6, 2) := by decide +kernel
theorem dX12_common_28 : decode cX12_common 28 = .ok (.lload 6, 2) := by decide +kernel
theorem dX12_common_30 : decode cX12_common 30 = .ok (.lconst 0, 1) := by decide +kernel
theorem dX12_common_31 : decode cX12_common 31 = .ok (.lcmp, 1) := by decide +kernel
theorem dX12_common_32 : decode cX12_common 32 = .ok (.ifCond .le 21, 3) := by decide +kernel
theorem dX12_common_35 : decode cX12_common 35 = .ok (.lload 4, 2) := by decide +kernel
theorem dX12_common_37 : decode cX12_common 37 = .ok (.lload 6, 2) := by decide +kernel
theorem dX12_common_39 : decode cX12_common 39 = .ok (.lrem, 1) := by decide +kernel
theorem dX12_common_40 : decode cX12_common 40 = .ok (.lstore 8, 2) := by decide +kernel
theorem dX12_common_42 : decode cX12_common 42 = .ok (.lload 6, 2) := by decide +kernel
theorem dX12_common_44 : decode cX12_common 44 = .ok (.lstore 4, 2) := by decide +kernel
theorem dX12_common_46 : decode cX12_common 46 = .ok (.lload 8, 2) := by decide +kernel
theorem dX12_common_48 : decode cX12_common 48 = .ok (.lstore 6, 2) := by decide +kernel
theorem dX12_common_50 : decode cX12_common 50 = .ok (.goto (-22), 3) := by decide +kernel
theorem dX12_common_53 : decode cX12_common 53 = .ok (.lload 4, 2) := by decide +kernel
theorem dX12_common_55 : decode cX12_common 55 = .ok (.lreturn, 1) := by decide +kernel
theorem dX12_findPlace_0 : decode cX12_findPlace 0 = .ok (.aload_n 0, 1) := by decide +kernel
theorem dX12_findPlace_1 : decode cX12_findPlace 1 = .ok (.getfield 234, 3) := by decide +kernel
theorem dX12_findPlace_4 : decode cX12_findPlace 4 = .ok (.lstore_n 1, 1) := by decide +kernel
theorem dX12_findPlace_5 : decode cX12_findPlace 5 = .ok (.iconst 0, 1) := by decide +kernel
theorem dX12_findPlace_6 : decode cX12_findPlace 6 = .ok (.istore_n 3, 1) := by decide +kernel
theorem dX12_findPlace_7 : decode cX12_findPlace 7 = .ok (.iload_n 3, 1) := by decide +kernel
theorem dX12_findPlace_8 : decode cX12_findPlace 8 = .ok (.iconst 3, 1) := by decide +kernel
theorem dX12_findPlace_9 : decode cX12_findPlace 9 = .ok (.if_icmp .ge 50, 3) := by decide +kernel
theorem dX12_findPlace_12 : decode cX12_findPlace 12 = .ok (.aload_n 0, 1) := by decide +kernel
theorem dX12_findPlace_13 : decode cX12_findPlace 13 = .ok (.getfield 102, 3) := by decide +kernel
theorem dX12_findPlace_16 : decode cX12_findPlace 16 = .ok (.iload_n 3, 1) := by decide +kernel
theorem dX12_findPlace_17 : decode cX12_findPlace 17 = .ok (.aload_n 0, 1) := by decide +kernel
theorem dX12_findPlace_18 : decode cX12_findPlace 18 = .ok (.getfield 23, 3) := by decide +kernel
theorem dX12_findPlace_21 : decode cX12_findPlace 21 = .ok (.iload_n 3, 1) := by decide +kernel
theorem dX12_findPlace_22 : decode cX12_findPlace 22 = .ok (.iaload, 1) := by decide +kernel
theorem dX12_findPlace_23 : decode cX12_findPlace 23 = .ok (.i2l, 1) := by decide +kernel
theorem dX12_findPlace_24 : decode cX12_findPlace 24 = .ok (.aload_n 0, 1) := by decide +kernel
theorem dX12_findPlace_25 : decode cX12_findPlace 25 = .ok (.getfield 234, 3) := by decide +kernel
theorem dX12_findPlace_28 : decode cX12_findPlace 28 = .ok (.lmul, 1) := by decide +kernel
theorem dX12_findPlace_29 : decode cX12_findPlace 29 = .ok (.aload_n 0, 1) := by decide +kernel
theorem dX12_findPlace_30 : decode cX12_findPlace 30 = .ok (.getfield 81, 3) := by decide +kernel
theorem dX12_findPlace_33 : decode cX12_findPlace 33 = .ok (.iload_n 3, 1) := by decide +kernel
theorem dX12_findPlace_34 : decode cX12_findPlace 34 = .ok (.laload, 1) := by decide +kernel
theorem dX12_findPlace_35 : decode cX12_findPlace 35 = .ok (.aload_n 0, 1) := by decide +kernel
theorem dX12_findPlace_36 : decode cX12_findPlace 36 = .ok (.getfield 237, 3) := by decide +kernel
theorem dX12_findPlace_39 : decode cX12_findPlace 39 = .ok (.lmul, 1) := by decide +kernel
theorem dX12_findPlace_40 : decode cX12_findPlace 40 = .ok (.ladd, 1) := by decide +kernel
theorem dX12_findPlace_41 : decode cX12_findPlace 41 = .ok (.lastore, 1) := by decide +kernel
theorem dX12_findPlace_42 : decode cX12_findPlace 42 = .ok (.lload_n 1, 1) := by decide +kernel
theorem dX12_findPlace_43 : decode cX12_findPlace 43 = .ok (.aload_n 0, 1) := by decide +kernel
theorem dX12_findPlace_44 : decode cX12_findPlace 44 = .ok (.getfield 102, 3) := by decide +kernel
theorem dX12_findPlace_47 : decode cX12_findPlace 47 = .ok (.iload_n 3, 1) := by decide +kernel
theorem dX12_findPlace_48 : decode cX12_findPlace 48 = .ok (.laload, 1) := by decide +kernel
theorem dX12_findPlace_49 : decode cX12_findPlace 49 = .ok (.invokestatic 240, 3) := by decide +kernel
theorem dX12_findPlace_52 : decode cX12_findPlace 52 = .ok (.lstore_n 1, 1) := by decide +kernel
theorem dX12_findPlace_53 : decode cX12_findPlace 53 = .ok (.iinc 3 1, 3) := by decide +kernel
theorem dX12_findPlace_56 : decode cX12_findPlace 56 = .ok (.goto (-49), 3) := by decide +kernel
theorem dX12_findPlace_59 : decode cX12_findPlace 59 = .ok (.iconst 0, 1) := by decide +kernel
theorem dX12_findPlace_60 : decode cX12_findPlace 60 = .ok (.istore_n 3, 1) := by decide +kernel
theorem dX12_findPlace_61 : decode cX12_findPlace 61 = .ok (.iload_n 3, 1) := by decide +kernel
theorem dX12_findPlace_62 : decode cX12_findPlace 62 = .ok (.iconst 3, 1) := by decide +kernel
theorem dX12_findPlace_63 : decode cX12_findPlace 63 = .ok (.if_icmp .ge 19, 3) := by decide +kernel
theorem dX12_findPlace_66 : decode cX12_findPlace 66 = .ok (.aload_n 0, 1) := by decide +kernel
theorem dX12_findPlace_67 : decode cX12_findPlace 67 = .ok (.getfield 102, 3) := by decide +kernel
theorem dX12_findPlace_70 : decode cX12_findPlace 70 = .ok (.iload_n 3, 1) := by decide +kernel
theorem dX12_findPlace_71 : decode cX12_findPlace 71 = .ok (.dup2, 1) := by decide +kernel
theorem dX12_findPlace_72 : decode cX12_findPlace 72 = .ok (.laload, 1) := by decide +kernel
theorem dX12_findPlace_73 : decode cX12_findPlace 73 = .ok (.lload_n 1, 1) := by decide +kernel
theorem dX12_findPlace_74 : decode cX12_findPlace 74 = .ok (.ldiv, 1) := by decide +kernel
theorem dX12_findPlace_75 : decode cX12_findPlace 75 = .ok (.lastore, 1) := by decide +kernel
theorem dX12_findPlace_76 : decode cX12_findPlace 76 = .ok (.iinc 3 1, 3) := by decide +kernel
theorem dX12_findPlace_79 : decode cX12_findPlace 79 = .ok (.goto (-18), 3) := by decide +kernel
theorem dX12_findPlace_82 : decode cX12_findPlace 82 = .ok (.aload_n 0, 1) := by decide +kernel
theorem dX12_findPlace_83 : decode cX12_findPlace 83 = .ok (.getfield 102, 3) := by decide +kernel
theorem dX12_findPlace_86 : decode cX12_findPlace 86 = .ok (.iconst 3, 1) := by decide +kernel
theorem dX12_findPlace_87 : decode cX12_findPlace 87 = .ok (.aload_n 0, 1) := by decide +kernel
theorem dX12_findPlace_88 : decode cX12_findPlace 88 = .ok (.getfield 234, 3) := by decide +kernel
theorem dX12_findPlace_91 : decode cX12_findPlace 91 = .ok (.lload_n 1, 1) := by decide +kernel
theorem dX12_findPlace_92 : decode cX12_findPlace 92 = .ok (.ldiv, 1) := by decide +kernel
theorem dX12_findPlace_93 : decode cX12_findPlace 93 = .ok (.lastore, 1) := by decide +kernel
theorem dX12_findPlace_94 : decode cX12_findPlace 94 = .ok (.return_, 1) := by decide +kernel
theorem dX12_hit_0 : decode cX12_hit 0 = .ok (.aload_n 0, 1) := by decide +kernel
theorem dX12_hit_1 : decode cX12_hit 1 = .ok (.iload_n 1, 1) := by decide +kernel
theorem dX12_hit_2 : decode cX12_hit 2 = .ok (.iload_n 2, 1) := by decide +kernel
theorem dX12_hit_3 : decode cX12_hit 3 = .ok (.invokevirtual 244, 3) := by decide +kernel
theorem dX12_hit_6 : decode cX12_hit 6 = .ok (.ifCond .ne 5, 3) := by decide +kernel
theorem dX12_hit_9 : decode cX12_hit 9 = .ok (.iconst (-1), 1) := by decide +kernel
theorem dX12_hit_10 : decode cX12_hit 10 = .ok (.ireturn, 1) := by decide +kernel
theorem dX12_hit_11 : decode cX12_hit 11 = .ok (.aload_n 0, 1) := by decide +kernel
theorem dX12_hit_12 : decode cX12_hit 12 = .ok (.iload_n 1, 1) := by decide +kernel
theorem dX12_hit_13 : decode cX12_hit 13 = .ok (.iload_n 2, 1) := by decide +kernel
theorem dX12_hit_14 : decode cX12_hit 14 = .ok (.invokevirtual 247, 3) := by decide +kernel
theorem dX12_hit_17 : decode cX12_hit 17 = .ok (.aload_n 0, 1) := by decide +kernel
theorem dX12_hit_18 : decode cX12_hit 18 = .ok (.aload_n 0, 1) := by decide +kernel
theorem dX12_hit_19 : decode cX12_hit 19 = .ok (.getfield 228, 3) := by decide +kernel
theorem dX12_hit_22 : decode cX12_hit 22 = .ok (.ifCond .lt 7, 3) := by decide +kernel
theorem dX12_hit_25 : decode cX12_hit 25 = .ok (.iconst 1, 1) := by decide +kernel
theorem dX12_hit_26 : decode cX12_hit 26 = .ok (.goto 4, 3) := by decide +kernel
theorem dX12_hit_29 : decode cX12_hit 29 = .ok (.iconst 0, 1) := by decide +kernel
theorem dX12_hit_30 : decode cX12_hit 30 = .ok (.putfield 250, 3) := by decide +kernel
theorem dX12_hit_33 : decode cX12_hit 33 = .ok (.aload_n 0, 1) := by decide +kernel
theorem dX12_hit_34 : decode cX12_hit 34 = .ok (.getfield 228, 3) := by decide +kernel
theorem dX12_hit_37 : decode cX12_hit 37 = .ok (.ifCond .ge 6, 3) := by decide +kernel
theorem dX12_hit_40 : decode cX12_hit 40 = .ok (.bipush (-2), 2) := by decide +kernel
theorem dX12_hit_42 : decode cX12_hit 42 = .ok (.ireturn, 1) := by decide +kernel
theorem dX12_hit_43 : decode cX12_hit 43 = .ok (.aload_n 0, 1) := by decide +kernel
theorem dX12_hit_44 : decode cX12_hit 44 = .ok (.getfield 99, 3) := by decide +kernel
theorem dX12_hit_47 : decode cX12_hit 47 = .ok (.iconst 0, 1) := by decide +kernel
theorem dX12_hit_48 : decode cX12_hit 48 = .ok (.aload_n 0, 1) := by decide +kernel
theorem dX12_hit_49 : decode cX12_hit 49 = .ok (.getfield 228, 3) := by decide +kernel
theorem dX12_hit_52 : decode cX12_hit 52 = .ok (.i2l, 1) := by decide +kernel
theorem dX12_hit_53 : decode cX12_hit 53 = .ok (.lastore, 1) := by decide +kernel
theorem dX12_hit_54 : decode cX12_hit 54 = .ok (.aload_n 0, 1) := by decide +kernel
theorem dX12_hit_55 : decode cX12_hit 55 = .ok (.getfield 237, 3) := by decide +kernel
theorem dX12_hit_58 : decode cX12_hit 58 = .ok (.aload_n 0, 1) := by decide +kernel
theorem dX12_hit_59 : decode cX12_hit 59 = .ok (.getfield 234, 3) := by decide +kernel
theorem dX12_hit_62 : decode cX12_hit 62 = .ok (.invokestatic 240, 3) := by decide +kernel
theorem dX12_hit_65 : decode cX12_hit 65 = .ok (.lstore_n 3, 1) := by decide +kernel
theorem dX12_hit_66 : decode cX12_hit 66 = .ok (.aload_n 0, 1) := by decide +kernel
theorem dX12_hit_67 : decode cX12_hit 67 = .ok (.getfield 99, 3) := by decide +kernel
theorem dX12_hit_70 : decode cX12_hit 70 = .ok (.iconst 1, 1) := by decide +kernel
theorem dX12_hit_71 : decode cX12_hit 71 = .ok (.aload_n 0, 1) := by decide +kernel
theorem dX12_hit_72 : decode cX12_hit 72 = .ok (.getfield 237, 3) := by decide +kernel
theorem dX12_hit_75 : decode cX12_hit 75 = .ok (.lload_n 3, 1) := by decide +kernel
theorem dX12_hit_76 : decode cX12_hit 76 = .ok (.ldiv, 1) := by decide +kernel
theorem dX12_hit_77 : decode cX12_hit 77 = .ok (.lastore, 1) := by decide +kernel
theorem dX12_hit_78 : decode cX12_hit 78 = .ok (.aload_n 0, 1) := by decide +kernel
theorem dX12_hit_79 : decode cX12_hit 79 = .ok (.getfield 99, 3) := by decide +kernel
theorem dX12_hit_82 : decode cX12_hit 82 = .ok (.iconst 2, 1) := by decide +kernel
theorem dX12_hit_83 : decode cX12_hit 83 = .ok (.aload_n 0, 1) := by decide +kernel
theorem dX12_hit_84 : decode cX12_hit 84 = .ok (.getfield 234, 3) := by decide +kernel
theorem dX12_hit_87 : decode cX12_hit 87 = .ok (.lload_n 3, 1) := by decide +kernel
theorem dX12_hit_88 : decode cX12_hit 88 = .ok (.ldiv, 1) := by decide +kernel
theorem dX12_hit_89 : decode cX12_hit 89 = .ok (.lastore, 1) := by decide +kernel
theorem dX12_hit_90 : decode cX12_hit 90 = .ok (.aload_n 0, 1) := by decide +kernel
theorem dX12_hit_91 : decode cX12_hit 91 = .ok (.invokevirtual 254, 3) := by decide +kernel
theorem dX12_hit_94 : decode cX12_hit 94 = .ok (.iconst 0, 1) := by decide +kernel
theorem dX12_hit_95 : decode cX12_hit 95 = .ok (.istore 5, 2) := by decide +kernel
theorem dX12_hit_97 : decode cX12_hit 97 = .ok (.iload 5, 2) := by decide +kernel
theorem dX12_hit_99 : decode cX12_hit 99 = .ok (.iconst 4, 1) := by decide +kernel
theorem dX12_hit_100 : decode cX12_hit 100 = .ok (.if_icmp .ge 25, 3) := by decide +kernel
theorem dX12_hit_103 : decode cX12_hit 103 = .ok (.aload_n 0, 1) := by decide +kernel
theorem dX12_hit_104 : decode cX12_hit 104 = .ok (.getfield 99, 3) := by decide +kernel
theorem dX12_hit_107 : decode cX12_hit 107 = .ok (.iconst 3, 1) := by decide +kernel
theorem dX12_hit_108 : decode cX12_hit 108 = .ok (.iload 5, 2) := by decide +kernel
theorem dX12_hit_110 : decode cX12_hit 110 = .ok (.iadd, 1) := by decide +kernel
theorem dX12_hit_111 : decode cX12_hit 111 = .ok (.aload_n 0, 1) := by decide +kernel
theorem dX12_hit_112 : decode cX12_hit 112 = .ok (.getfield 102, 3) := by decide +kernel
theorem dX12_hit_115 : decode cX12_hit 115 = .ok (.iload 5, 2) := by decide +kernel
theorem dX12_hit_117 : decode cX12_hit 117 = .ok (.laload, 1) := by decide +kernel
theorem dX12_hit_118 : decode cX12_hit 118 = .ok (.lastore, 1) := by decide +kernel
theorem dX12_hit_119 : decode cX12_hit 119 = .ok (.iinc 5 1, 3) := by decide +kernel
theorem dX12_hit_122 : decode cX12_hit 122 = .ok (.goto (-25), 3) := by decide +kernel
theorem dX12_hit_125 : decode cX12_hit 125 = .ok (.aload_n 0, 1) := by decide +kernel
theorem dX12_hit_126 : decode cX12_hit 126 = .ok (.getfield 234, 3) := by decide +kernel
theorem dX12_hit_129 : decode cX12_hit 129 = .ok (.lstore 5, 2) := by decide +kernel
theorem dX12_hit_131 : decode cX12_hit 131 = .ok (.iconst 0, 1) := by decide +kernel
theorem dX12_hit_132 : decode cX12_hit 132 = .ok (.istore 7, 2) := by decide +kernel
theorem dX12_hit_134 : decode cX12_hit 134 = .ok (.iload 7, 2) := by decide +kernel
theorem dX12_hit_136 : decode cX12_hit 136 = .ok (.iconst 3, 1) := by decide +kernel
theorem dX12_hit_137 : decode cX12_hit 137 = .ok (.if_icmp .ge 23, 3) := by decide +kernel
theorem dX12_hit_140 : decode cX12_hit 140 = .ok (.lload 5, 2) := by decide +kernel
theorem dX12_hit_142 : decode cX12_hit 142 = .ok (.aload_n 0, 1) := by decide +kernel
theorem dX12_hit_143 : decode cX12_hit 143 = .ok (.getfield 96, 3) := by decide +kernel
theorem dX12_hit_146 : decode cX12_hit 146 = .ok (.iload 7, 2) := by decide +kernel
theorem dX12_hit_148 : decode cX12_hit 148 = .ok (.laload, 1) := by decide +kernel
theorem dX12_hit_149 : decode cX12_hit 149 = .ok (.invokestatic 240, 3) := by decide +kernel
theorem dX12_hit_152 : decode cX12_hit 152 = .ok (.lstore 5, 2) := by decide +kernel
theorem dX12_hit_154 : decode cX12_hit 154 = .ok (.iinc 7 1, 3) := by decide +kernel
theorem dX12_hit_157 : decode cX12_hit 157 = .ok (.goto (-23), 3) := by decide +kernel
theorem dX12_hit_160 : decode cX12_hit 160 = .ok (.iconst 0, 1) := by decide +kernel
theorem dX12_hit_161 : decode cX12_hit 161 = .ok (.istore 7, 2) := by decide +kernel
theorem dX12_hit_163 : decode cX12_hit 163 = .ok (.iload 7, 2) := by decide +kernel
theorem dX12_hit_165 : decode cX12_hit 165 = .ok (.iconst 3, 1) := by decide +kernel
theorem dX12_hit_166 : decode cX12_hit 166 = .ok (.if_icmp .ge 29, 3) := by decide +kernel
theorem dX12_hit_169 : decode cX12_hit 169 = .ok (.aload_n 0, 1) := by decide +kernel
theorem dX12_hit_170 : decode cX12_hit 170 = .ok (.getfield 99, 3) := by decide +kernel
theorem dX12_hit_173 : decode cX12_hit 173 = .ok (.bipush 7, 2) := by decide +kernel
theorem dX12_hit_175 : decode cX12_hit 175 = .ok (.iload 7, 2) := by decide +kernel
theorem dX12_hit_177 : decode cX12_hit 177 = .ok (.iadd, 1) := by decide +kernel
theorem dX12_hit_178 : decode cX12_hit 178 = .ok (.aload_n 0, 1) := by decide +kernel
theorem dX12_hit_179 : decode cX12_hit 179 = .ok (.getfield 96, 3) := by decide +kernel
theorem dX12_hit_182 : decode cX12_hit 182 = .ok (.iload 7, 2) := by decide +kernel
theorem dX12_hit_184 : decode cX12_hit 184 = .ok (.laload, 1) := by decide +kernel
theorem dX12_hit_185 : decode cX12_hit 185 = .ok (.lload 5, 2) := by decide +kernel
theorem dX12_hit_187 : decode cX12_hit 187 = .ok (.ldiv, 1) := by decide +kernel
theorem dX12_hit_188 : decode cX12_hit 188 = .ok (.lastore, 1) := by decide +kernel
theorem dX12_hit_189 : decode cX12_hit 189 = .ok (.iinc 7 1, 3) := by decide +kernel
theorem dX12_hit_192 : decode cX12_hit 192 = .ok (.goto (-29), 3) := by decide +kernel
theorem dX12_hit_195 : decode cX12_hit 195 = .ok (.aload_n 0, 1) := by decide +kernel
theorem dX12_hit_196 : decode cX12_hit 196 = .ok (.getfield 99, 3) := by decide +kernel
theorem dX12_hit_199 : decode cX12_hit 199 = .ok (.bipush 10, 2) := by decide +kernel
theorem dX12_hit_201 : decode cX12_hit 201 = .ok (.aload_n 0, 1) := by decide +kernel
theorem dX12_hit_202 : decode cX12_hit 202 = .ok (.getfield 234, 3) := by decide +kernel
theorem dX12_hit_205 : decode cX12_hit 205 = .ok (.lload 5, 2) := by decide +kernel
theorem dX12_hit_207 : decode cX12_hit 207 = .ok (.ldiv, 1) := by decide +kernel
theorem dX12_hit_208 : decode cX12_hit 208 = .ok (.lastore, 1) := by decide +kernel
theorem dX12_hit_209 : decode cX12_hit 209 = .ok (.aload_n 0, 1) := by decide +kernel
theorem dX12_hit_210 : decode cX12_hit 210 = .ok (.getfield 228, 3) := by decide +kernel
theorem dX12_hit_213 : decode cX12_hit 213 = .ok (.ireturn, 1) := by decide +kernel
theorem dX12_told_0 : decode cX12_told 0 = .ok (.aload_n 0, 1) := by decide +kernel
theorem dX12_told_1 : decode cX12_told 1 = .ok (.getfield 250, 3) := by decide +kernel
theorem dX12_told_4 : decode cX12_told 4 = .ok (.ifCond .eq 24, 3) := by decide +kernel
theorem dX12_told_7 : decode cX12_told 7 = .ok (.iload_n 1, 1) := by decide +kernel
theorem dX12_told_8 : decode cX12_told 8 = .ok (.i2l, 1) := by decide +kernel
theorem dX12_told_9 : decode cX12_told 9 = .ok (.lconst 0, 1) := by decide +kernel
theorem dX12_told_10 : decode cX12_told 10 = .ok (.ldc2_w 208, 3) := by decide +kernel
theorem dX12_told_13 : decode cX12_told 13 = .ok (.invokestatic 140, 3) := by decide +kernel
theorem dX12_told_16 : decode cX12_told 16 = .ok (.ifCond .eq 12, 3) := by decide +kernel
theorem dX12_told_19 : decode cX12_told 19 = .ok (.aload_n 0, 1) := by decide +kernel
theorem dX12_told_20 : decode cX12_told 20 = .ok (.getfield 99, 3) := by decide +kernel
theorem dX12_told_23 : decode cX12_told 23 = .ok (.iload_n 1, 1) := by decide +kernel
theorem dX12_told_24 : decode cX12_told 24 = .ok (.laload, 1) := by decide +kernel
theorem dX12_told_25 : decode cX12_told 25 = .ok (.goto 6, 3) := by decide +kernel
theorem dX12_told_28 : decode cX12_told 28 = .ok (.ldc2_w 257, 3) := by decide +kernel
theorem dX12_told_31 : decode cX12_told 31 = .ok (.lreturn, 1) := by decide +kernel
theorem dX12_cross_0 : decode cX12_cross 0 = .ok (.aload_n 0, 1) := by decide +kernel
theorem dX12_cross_1 : decode cX12_cross 1 = .ok (.iload_n 1, 1) := by decide +kernel
theorem dX12_cross_2 : decode cX12_cross 2 = .ok (.iload_n 2, 1) := by decide +kernel
theorem dX12_cross_3 : decode cX12_cross 3 = .ok (.invokevirtual 244, 3) := by decide +kernel
theorem dX12_cross_6 : decode cX12_cross 6 = .ok (.ifCond .ne 5, 3) := by decide +kernel
theorem dX12_cross_9 : decode cX12_cross 9 = .ok (.iconst (-1), 1) := by decide +kernel
theorem dX12_cross_10 : decode cX12_cross 10 = .ok (.ireturn, 1) := by decide +kernel
theorem dX12_cross_11 : decode cX12_cross 11 = .ok (.aload_n 0, 1) := by decide +kernel
theorem dX12_cross_12 : decode cX12_cross 12 = .ok (.iload_n 1, 1) := by decide +kernel
theorem dX12_cross_13 : decode cX12_cross 13 = .ok (.iload_n 2, 1) := by decide +kernel
theorem dX12_cross_14 : decode cX12_cross 14 = .ok (.invokevirtual 224, 3) := by decide +kernel
theorem dX12_cross_17 : decode cX12_cross 17 = .ok (.aload_n 0, 1) := by decide +kernel
theorem dX12_cross_18 : decode cX12_cross 18 = .ok (.iconst 0, 1) := by decide +kernel
theorem dX12_cross_19 : decode cX12_cross 19 = .ok (.putfield 259, 3) := by decide +kernel
theorem dX12_cross_22 : decode cX12_cross 22 = .ok (.iconst 0, 1) := by decide +kernel
theorem dX12_cross_23 : decode cX12_cross 23 = .ok (.istore_n 3, 1) := by decide +kernel
theorem dX12_cross_24 : decode cX12_cross 24 = .ok (.iload_n 3, 1) := by decide +kernel
theorem dX12_cross_25 : decode cX12_cross 25 = .ok (.aload_n 0, 1) := by decide +kernel
theorem dX12_cross_26 : decode cX12_cross 26 = .ok (.getfield 151, 3) := by decide +kernel
theorem dX12_cross_29 : decode cX12_cross 29 = .ok (.if_icmp .ge 192, 3) := by decide +kernel
theorem dX12_cross_32 : decode cX12_cross 32 = .ok (.aload_n 0, 1) := by decide +kernel
theorem dX12_cross_33 : decode cX12_cross 33 = .ok (.iload_n 3, 1) := by decide +kernel
theorem dX12_cross_34 : decode cX12_cross 34 = .ok (.invokevirtual 231, 3) := by decide +kernel
theorem dX12_cross_37 : decode cX12_cross 37 = .ok (.ifCond .eq 178, 3) := by decide +kernel
theorem dX12_cross_40 : decode cX12_cross 40 = .ok (.aload_n 0, 1) := by decide +kernel
theorem dX12_cross_41 : decode cX12_cross 41 = .ok (.getfield 210, 3) := by decide +kernel
theorem dX12_cross_44 : decode cX12_cross 44 = .ok (.lconst 0, 1) := by decide +kernel
theorem dX12_cross_45 : decode cX12_cross 45 = .ok (.lcmp, 1) := by decide +kernel
theorem dX12_cross_46 : decode cX12_cross 46 = .ok (.ifCond .ge 11, 3) := by decide +kernel
theorem dX12_cross_49 : decode cX12_cross 49 = .ok (.aload_n 0, 1) := by decide +kernel
theorem dX12_cross_50 : decode cX12_cross 50 = .ok (.getfield 214, 3) := by decide +kernel
theorem dX12_cross_53 : decode cX12_cross 53 = .ok (.lneg, 1) := by decide +kernel
theorem dX12_cross_54 : decode cX12_cross 54 = .ok (.goto 7, 3) := by decide +kernel
theorem dX12_cross_57 : decode cX12_cross 57 = .ok (.aload_n 0, 1) := by decide +kernel
theorem dX12_cross_58 : decode cX12_cross 58 = .ok (.getfield 214, 3) := by decide +kernel
theorem dX12_cross_61 : decode cX12_cross 61 = .ok (.lstore 4, 2) := by decide +kernel
theorem dX12_cross_63 : decode cX12_cross 63 = .ok (.aload_n 0, 1) := by decide +kernel
theorem dX12_cross_64 : decode cX12_cross 64 = .ok (.getfield 210, 3) := by decide +kernel
theorem dX12_cross_67 : decode cX12_cross 67 = .ok (.lconst 0, 1) := by decide +kernel
theorem dX12_cross_68 : decode cX12_cross 68 = .ok (.lcmp, 1) := by decide +kernel
theorem dX12_cross_69 : decode cX12_cross 69 = .ok (.ifCond .ge 11, 3) := by decide +kernel
theorem dX12_cross_72 : decode cX12_cross 72 = .ok (.aload_n 0, 1) := by decide +kernel
theorem dX12_cross_73 : decode cX12_cross 73 = .ok (.getfield 210, 3) := by decide +kernel
theorem dX12_cross_76 : decode cX12_cross 76 = .ok (.lneg, 1) := by decide +kernel
theorem dX12_cross_77 : decode cX12_cross 77 = .ok (.goto 7, 3) := by decide +kernel
theorem dX12_cross_80 : decode cX12_cross 80 = .ok (.aload_n 0, 1) := by decide +kernel
theorem dX12_cross_81 : decode cX12_cross 81 = .ok (.getfield 210, 3) := by decide +kernel
theorem dX12_cross_84 : decode cX12_cross 84 = .ok (.lstore 6, 2) := by decide +kernel
theorem dX12_cross_86 : decode cX12_cross 86 = .ok (.aload_n 0, 1) := by decide +kernel
theorem dX12_cross_87 : decode cX12_cross 87 = .ok (.getfield 259, 3) := by decide +kernel
theorem dX12_cross_90 : decode cX12_cross 90 = .ok (.istore 8, 2) := by decide +kernel
theorem dX12_cross_92 : decode cX12_cross 92 = .ok (.iload 8, 2) := by decide +kernel
theorem dX12_cross_94 : decode cX12_cross 94 = .ok (.ifCond .le 85, 3) := by decide +kernel
theorem dX12_cross_97 : decode cX12_cross 97 = .ok (.lload 4, 2) := by decide +kernel
theorem dX12_cross_99 : decode cX12_cross 99 = .ok (.aload_n 0, 1) := by decide +kernel
theorem dX12_cross_100 : decode cX12_cross 100 = .ok (.getfield 111, 3) := by decide +kernel
theorem dX12_cross_103 : decode cX12_cross 103 = .ok (.iload 8, 2) := by decide +kernel
theorem dX12_cross_105 : decode cX12_cross 105 = .ok (.iconst 1, 1) := by decide +kernel
theorem dX12_cross_106 : decode cX12_cross 106 = .ok (.isub, 1) := by decide +kernel
theorem dX12_cross_107 : decode cX12_cross 107 = .ok (.laload, 1) := by decide +kernel
theorem dX12_cross_108 : decode cX12_cross 108 = .ok (.lmul, 1) := by decide +kernel
theorem dX12_cross_109 : decode cX12_cross 109 = .ok (.aload_n 0, 1) := by decide +kernel
theorem dX12_cross_110 : decode cX12_cross 110 = .ok (.getfield 108, 3) := by decide +kernel
theorem dX12_cross_113 : decode cX12_cross 113 = .ok (.iload 8, 2) := by decide +kernel
theorem dX12_cross_115 : decode cX12_cross 115 = .ok (.iconst 1, 1) := by decide +kernel
theorem dX12_cross_116 : decode cX12_cross 116 = .ok (.isub, 1) := by decide +kernel
theorem dX12_cross_117 : decode cX12_cross 117 = .ok (.laload, 1) := by decide +kernel
theorem dX12_cross_118 : decode cX12_cross 118 = .ok (.lload 6, 2) := by decide +kernel
theorem dX12_cross_120 : decode cX12_cross 120 = .ok (.lmul, 1) := by decide +kernel
theorem dX12_cross_121 : decode cX12_cross 121 = .ok (.lcmp, 1) := by decide +kernel
theorem dX12_cross_122 : decode cX12_cross 122 = .ok (.ifCond .ge 57, 3) := by decide +kernel
theorem dX12_cross_125 : decode cX12_cross 125 = .ok (.aload_n 0, 1) := by decide +kernel
theorem dX12_cross_126 : decode cX12_cross 126 = .ok (.getfield 105, 3) := by decide +kernel
theorem dX12_cross_129 : decode cX12_cross 129 = .ok (.iload 8, 2) := by decide +kernel
theorem dX12_cross_131 : decode cX12_cross 131 = .ok (.aload_n 0, 1) := by decide +kernel
theorem dX12_cross_132 : decode cX12_cross 132 = .ok (.getfield 105, 3) := by decide +kernel
theorem dX12_cross_135 : decode cX12_cross 135 = .ok (.iload 8, 2) := by decide +kernel
theorem dX12_cross_137 : decode cX12_cross 137 = .ok (.iconst 1, 1) := by decide +kernel
theorem dX12_cross_138 : decode cX12_cross 138 = .ok (.isub, 1) := by decide +kernel
theorem dX12_cross_139 : decode cX12_cross 139 = .ok (.iaload, 1) := by decide +kernel
theorem dX12_cross_140 : decode cX12_cross 140 = .ok (.iastore, 1) := by decide +kernel
theorem dX12_cross_141 : decode cX12_cross 141 = .ok (.aload_n 0, 1) := by decide +kernel
theorem dX12_cross_142 : decode cX12_cross 142 = .ok (.getfield 108, 3) := by decide +kernel
theorem dX12_cross_145 : decode cX12_cross 145 = .ok (.iload 8, 2) := by decide +kernel
theorem dX12_cross_147 : decode cX12_cross 147 = .ok (.aload_n 0, 1) := by decide +kernel
theorem dX12_cross_148 : decode cX12_cross 148 = .ok (.getfield 108, 3) := by decide +kernel
theorem dX12_cross_151 : decode cX12_cross 151 = .ok (.iload 8, 2) := by decide +kernel
theorem dX12_cross_153 : decode cX12_cross 153 = .ok (.iconst 1, 1) := by decide +kernel
theorem dX12_cross_154 : decode cX12_cross 154 = .ok (.isub, 1) := by decide +kernel
theorem dX12_cross_155 : decode cX12_cross 155 = .ok (.laload, 1) := by decide +kernel
theorem dX12_cross_156 : decode cX12_cross 156 = .ok (.lastore, 1) := by decide +kernel
theorem dX12_cross_157 : decode cX12_cross 157 = .ok (.aload_n 0, 1) := by decide +kernel
theorem dX12_cross_158 : decode cX12_cross 158 = .ok (.getfield 111, 3) := by decide +kernel
theorem dX12_cross_161 : decode cX12_cross 161 = .ok (.iload 8, 2) := by decide +kernel
theorem dX12_cross_163 : decode cX12_cross 163 = .ok (.aload_n 0, 1) := by decide +kernel
theorem dX12_cross_164 : decode cX12_cross 164 = .ok (.getfield 111, 3) := by decide +kernel
theorem dX12_cross_167 : decode cX12_cross 167 = .ok (.iload 8, 2) := by decide +kernel
theorem dX12_cross_169 : decode cX12_cross 169 = .ok (.iconst 1, 1) := by decide +kernel
theorem dX12_cross_170 : decode cX12_cross 170 = .ok (.isub, 1) := by decide +kernel
theorem dX12_cross_171 : decode cX12_cross 171 = .ok (.laload, 1) := by decide +kernel
theorem dX12_cross_172 : decode cX12_cross 172 = .ok (.lastore, 1) := by decide +kernel
theorem dX12_cross_173 : decode cX12_cross 173 = .ok (.iinc 8 (-1), 3) := by decide +kernel
theorem dX12_cross_176 : decode cX12_cross 176 = .ok (.goto (-84), 3) := by decide +kernel
theorem dX12_cross_179 : decode cX12_cross 179 = .ok (.aload_n 0, 1) := by decide +kernel
theorem dX12_cross_180 : decode cX12_cross 180 = .ok (.getfield 105, 3) := by decide +kernel
theorem dX12_cross_183 : decode cX12_cross 183 = .ok (.iload 8, 2) := by decide +kernel
theorem dX12_cross_185 : decode cX12_cross 185 = .ok (.iload_n 3, 1) := by decide +kernel
theorem dX12_cross_186 : decode cX12_cross 186 = .ok (.iastore, 1) := by decide +kernel
theorem dX12_cross_187 : decode cX12_cross 187 = .ok (.aload_n 0, 1) := by decide +kernel
theorem dX12_cross_188 : decode cX12_cross 188 = .ok (.getfield 108, 3) := by decide +kernel
theorem dX12_cross_191 : decode cX12_cross 191 = .ok (.iload 8, 2) := by decide +kernel
theorem dX12_cross_193 : decode cX12_cross 193 = .ok (.lload 4, 2) := by decide +kernel
theorem dX12_cross_195 : decode cX12_cross 195 = .ok (.lastore, 1) := by decide +kernel
theorem dX12_cross_196 : decode cX12_cross 196 = .ok (.aload_n 0, 1) := by decide +kernel
theorem dX12_cross_197 : decode cX12_cross 197 = .ok (.getfield 111, 3) := by decide +kernel
theorem dX12_cross_200 : decode cX12_cross 200 = .ok (.iload 8, 2) := by decide +kernel
theorem dX12_cross_202 : decode cX12_cross 202 = .ok (.lload 6, 2) := by decide +kernel
theorem dX12_cross_204 : decode cX12_cross 204 = .ok (.lastore, 1) := by decide +kernel
theorem dX12_cross_205 : decode cX12_cross 205 = .ok (.aload_n 0, 1) := by decide +kernel
theorem dX12_cross_206 : decode cX12_cross 206 = .ok (.dup, 1) := by decide +kernel
theorem dX12_cross_207 : decode cX12_cross 207 = .ok (.getfield 259, 3) := by decide +kernel
theorem dX12_cross_210 : decode cX12_cross 210 = .ok (.iconst 1, 1) := by decide +kernel
theorem dX12_cross_211 : decode cX12_cross 211 = .ok (.iadd, 1) := by decide +kernel
theorem dX12_cross_212 : decode cX12_cross 212 = .ok (.putfield 259, 3) := by decide +kernel
theorem dX12_cross_215 : decode cX12_cross 215 = .ok (.iinc 3 1, 3) := by decide +kernel
theorem dX12_cross_218 : decode cX12_cross 218 = .ok (.goto (-194), 3) := by decide +kernel
theorem dX12_cross_221 : decode cX12_cross 221 = .ok (.aload_n 0, 1) := by decide +kernel
theorem dX12_cross_222 : decode cX12_cross 222 = .ok (.getfield 259, 3) := by decide +kernel
theorem dX12_cross_225 : decode cX12_cross 225 = .ok (.ireturn, 1) := by decide +kernel
theorem dX12_crossing_0 : decode cX12_crossing 0 = .ok (.iload_n 1, 1) := by decide +kernel
theorem dX12_crossing_1 : decode cX12_crossing 1 = .ok (.i2l, 1) := by decide +kernel
theorem dX12_crossing_2 : decode cX12_crossing 2 = .ok (.lconst 0, 1) := by decide +kernel
theorem dX12_crossing_3 : decode cX12_crossing 3 = .ok (.aload_n 0, 1) := by decide +kernel
theorem dX12_crossing_4 : decode cX12_crossing 4 = .ok (.getfield 259, 3) := by decide +kernel
theorem dX12_crossing_7 : decode cX12_crossing 7 = .ok (.iconst 1, 1) := by decide +kernel
theorem dX12_crossing_8 : decode cX12_crossing 8 = .ok (.isub, 1) := by decide +kernel
theorem dX12_crossing_9 : decode cX12_crossing 9 = .ok (.i2l, 1) := by decide +kernel
theorem dX12_crossing_10 : decode cX12_crossing 10 = .ok (.invokestatic 140, 3) := by decide +kernel
theorem dX12_crossing_13 : decode cX12_crossing 13 = .ok (.ifCond .eq 12, 3) := by decide +kernel
theorem dX12_crossing_16 : decode cX12_crossing 16 = .ok (.aload_n 0, 1) := by decide +kernel
theorem dX12_crossing_17 : decode cX12_crossing 17 = .ok (.getfield 105, 3) := by decide +kernel
theorem dX12_crossing_20 : decode cX12_crossing 20 = .ok (.iload_n 1, 1) := by decide +kernel
theorem dX12_crossing_21 : decode cX12_crossing 21 = .ok (.iaload, 1) := by decide +kernel
theorem dX12_crossing_22 : decode cX12_crossing 22 = .ok (.goto 4, 3) := by decide +kernel
theorem dX12_crossing_25 : decode cX12_crossing 25 = .ok (.iconst (-1), 1) := by decide +kernel
theorem dX12_crossing_26 : decode cX12_crossing 26 = .ok (.ireturn, 1) := by decide +kernel
theorem dX12_meetsBox_0 : decode cX12_meetsBox 0 = .ok (.lconst 0, 1) := by decide +kernel
theorem dX12_meetsBox_1 : decode cX12_meetsBox 1 = .ok (.lstore_n 2, 1) := by decide +kernel
theorem dX12_meetsBox_2 : decode cX12_meetsBox 2 = .ok (.lconst 1, 1) := by decide +kernel
theorem dX12_meetsBox_3 : decode cX12_meetsBox 3 = .ok (.lstore 4, 2) := by decide +kernel
theorem dX12_meetsBox_5 : decode cX12_meetsBox 5 = .ok (.lconst 1, 1) := by decide +kernel
theorem dX12_meetsBox_6 : decode cX12_meetsBox 6 = .ok (.lstore 6, 2) := by decide +kernel
theorem dX12_meetsBox_8 : decode cX12_meetsBox 8 = .ok (.lconst 0, 1) := by decide +kernel
theorem dX12_meetsBox_9 : decode cX12_meetsBox 9 = .ok (.lstore 8, 2) := by decide +kernel
theorem dX12_meetsBox_11 : decode cX12_meetsBox 11 = .ok (.iconst 0, 1) := by decide +kernel
theorem dX12_meetsBox_12 : decode cX12_meetsBox 12 = .ok (.istore 10, 2) := by decide +kernel
theorem dX12_meetsBox_14 : decode cX12_meetsBox 14 = .ok (.iload 10, 2) := by decide +kernel
theorem dX12_meetsBox_16 : decode cX12_meetsBox 16 = .ok (.iconst 3, 1) := by decide +kernel
theorem dX12_meetsBox_17 : decode cX12_meetsBox 17 = .ok (.if_icmp .ge 210, 3) := by decide +kernel
theorem dX12_meetsBox_20 : decode cX12_meetsBox 20 = .ok (.aload_n 0, 1) := by decide +kernel
theorem dX12_meetsBox_21 : decode cX12_meetsBox 21 = .ok (.getfield 69, 3) := by decide +kernel
theorem dX12_meetsBox_24 : decode cX12_meetsBox 24 = .ok (.bipush 6, 2) := by decide +kernel
theorem dX12_meetsBox_26 : decode cX12_meetsBox 26 = .ok (.iload_n 1, 1) := by decide +kernel
theorem dX12_meetsBox_27 : decode cX12_meetsBox 27 = .ok (.imul, 1) := by decide +kernel
theorem dX12_meetsBox_28 : decode cX12_meetsBox 28 = .ok (.iload 10, 2) := by decide +kernel
theorem dX12_meetsBox_30 : decode cX12_meetsBox 30 = .ok (.iadd, 1) := by decide +kernel
theorem dX12_meetsBox_31 : decode cX12_meetsBox 31 = .ok (.iaload, 1) := by decide +kernel
theorem dX12_meetsBox_32 : decode cX12_meetsBox 32 = .ok (.aload_n 0, 1) := by decide +kernel
theorem dX12_meetsBox_33 : decode cX12_meetsBox 33 = .ok (.getfield 23, 3) := by decide +kernel
theorem dX12_meetsBox_36 : decode cX12_meetsBox 36 = .ok (.iload 10, 2) := by decide +kernel
theorem dX12_meetsBox_38 : decode cX12_meetsBox 38 = .ok (.iaload, 1) := by decide +kernel
theorem dX12_meetsBox_39 : decode cX12_meetsBox 39 = .ok (.isub, 1) := by decide +kernel
theorem dX12_meetsBox_40 : decode cX12_meetsBox 40 = .ok (.i2l, 1) := by decide +kernel
theorem dX12_meetsBox_41 : decode cX12_meetsBox 41 = .ok (.lstore 11, 2) := by decide +kernel
theorem dX12_meetsBox_43 : decode cX12_meetsBox 43 = .ok (.aload_n 0, 1) := by decide +kernel
theorem dX12_meetsBox_44 : decode cX12_meetsBox 44 = .ok (.getfield 69, 3) := by decide +kernel
theorem dX12_meetsBox_47 : decode cX12_meetsBox 47 = .ok (.bipush 6, 2) := by decide +kernel
theorem dX12_meetsBox_49 : decode cX12_meetsBox 49 = .ok (.iload_n 1, 1) := by decide +kernel
theorem dX12_meetsBox_50 : decode cX12_meetsBox 50 = .ok (.imul, 1) := by decide +kernel
theorem dX12_meetsBox_51 : decode cX12_meetsBox 51 = .ok (.iconst 3, 1) := by decide +kernel
theorem dX12_meetsBox_52 : decode cX12_meetsBox 52 = .ok (.iadd, 1) := by decide +kernel
theorem dX12_meetsBox_53 : decode cX12_meetsBox 53 = .ok (.iload 10, 2) := by decide +kernel
theorem dX12_meetsBox_55 : decode cX12_meetsBox 55 = .ok (.iadd, 1) := by decide +kernel
theorem dX12_meetsBox_56 : decode cX12_meetsBox 56 = .ok (.iaload, 1) := by decide +kernel
theorem dX12_meetsBox_57 : decode cX12_meetsBox 57 = .ok (.aload_n 0, 1) := by decide +kernel
theorem dX12_meetsBox_58 : decode cX12_meetsBox 58 = .ok (.getfield 23, 3) := by decide +kernel
theorem dX12_meetsBox_61 : decode cX12_meetsBox 61 = .ok (.iload 10, 2) := by decide +kernel
theorem dX12_meetsBox_63 : decode cX12_meetsBox 63 = .ok (.iaload, 1) := by decide +kernel
theorem dX12_meetsBox_64 : decode cX12_meetsBox 64 = .ok (.isub, 1) := by decide +kernel
theorem dX12_meetsBox_65 : decode cX12_meetsBox 65 = .ok (.i2l, 1) := by decide +kernel
theorem dX12_meetsBox_66 : decode cX12_meetsBox 66 = .ok (.lstore 13, 2) := by decide +kernel
theorem dX12_meetsBox_68 : decode cX12_meetsBox 68 = .ok (.aload_n 0, 1) := by decide +kernel
theorem dX12_meetsBox_69 : decode cX12_meetsBox 69 = .ok (.getfield 81, 3) := by decide +kernel
theorem dX12_meetsBox_72 : decode cX12_meetsBox 72 = .ok (.iload 10, 2) := by decide +kernel
theorem dX12_meetsBox_74 : decode cX12_meetsBox 74 = .ok (.laload, 1) := by decide +kernel
theorem dX12_meetsBox_75 : decode cX12_meetsBox 75 = .ok (.lconst 0, 1) := by decide +kernel
theorem dX12_meetsBox_76 : decode cX12_meetsBox 76 = .ok (.lcmp, 1) := by decide +kernel
theorem dX12_meetsBox_77 : decode cX12_meetsBox 77 = .ok (.ifCond .ne 19, 3) := by decide +kernel
theorem dX12_meetsBox_80 : decode cX12_meetsBox 80 = .ok (.lload 11, 2) := by decide +kernel
theorem dX12_meetsBox_82 : decode cX12_meetsBox 82 = .ok (.lconst 0, 1) := by decide +kernel
theorem dX12_meetsBox_83 : decode cX12_meetsBox 83 = .ok (.lcmp, 1) := by decide +kernel
theorem dX12_meetsBox_84 : decode cX12_meetsBox 84 = .ok (.ifCond .gt 10, 3) := by decide +kernel
theorem dX12_meetsBox_87 : decode cX12_meetsBox 87 = .ok (.lload 13, 2) := by decide +kernel
theorem dX12_meetsBox_89 : decode cX12_meetsBox 89 = .ok (.lconst 0, 1) := by decide +kernel
theorem dX12_meetsBox_90 : decode cX12_meetsBox 90 = .ok (.lcmp, 1) := by decide +kernel
theorem dX12_meetsBox_91 : decode cX12_meetsBox 91 = .ok (.ifCond .ge 130, 3) := by decide +kernel
theorem dX12_meetsBox_94 : decode cX12_meetsBox 94 = .ok (.iconst 0, 1) := by decide +kernel
theorem dX12_meetsBox_95 : decode cX12_meetsBox 95 = .ok (.ireturn, 1) := by decide +kernel
theorem dX12_meetsBox_96 : decode cX12_meetsBox 96 = .ok (.aload_n 0, 1) := by decide +kernel
theorem dX12_meetsBox_97 : decode cX12_meetsBox 97 = .ok (.getfield 81, 3) := by decide +kernel
theorem dX12_meetsBox_100 : decode cX12_meetsBox 100 = .ok (.iload 10, 2) := by decide +kernel
theorem dX12_meetsBox_102 : decode cX12_meetsBox 102 = .ok (.laload, 1) := by decide +kernel
theorem dX12_meetsBox_103 : decode cX12_meetsBox 103 = .ok (.lconst 0, 1) := by decide +kernel
theorem dX12_meetsBox_104 : decode cX12_meetsBox 104 = .ok (.lcmp, 1) := by decide +kernel
theorem dX12_meetsBox_105 : decode cX12_meetsBox 105 = .ok (.ifCond .ge 14, 3) := by decide +kernel
theorem dX12_meetsBox_108 : decode cX12_meetsBox 108 = .ok (.aload_n 0, 1) := by decide +kernel
theorem dX12_meetsBox_109 : decode cX12_meetsBox 109 = .ok (.getfield 81, 3) := by decide +kernel
theorem dX12_meetsBox_112 : decode cX12_meetsBox 112 = .ok (.iload 10, 2) := by decide +kernel
theorem dX12_meetsBox_114 : decode cX12_meetsBox 114 = .ok (.laload, 1) := by decide +kernel
theorem dX12_meetsBox_115 : decode cX12_meetsBox 115 = .ok (.lneg, 1) := by decide +kernel
theorem dX12_meetsBox_116 : decode cX12_meetsBox 116 = .ok (.goto 10, 3) := by decide +kernel
theorem dX12_meetsBox_119 : decode cX12_meetsBox 119 = .ok (.aload_n 0, 1) := by decide +kernel
theorem dX12_meetsBox_120 : decode cX12_meetsBox 120 = .ok (.getfield 81, 3) := by decide +kernel
theorem dX12_meetsBox_123 : decode cX12_meetsBox 123 = .ok (.iload 10, 2) := by decide +kernel
theorem dX12_meetsBox_125 : decode cX12_meetsBox 125 = .ok (.laload, 1) := by decide +kernel
theorem dX12_meetsBox_126 : decode cX12_meetsBox 126 = .ok (.lstore 15, 2) := by decide +kernel
theorem dX12_meetsBox_128 : decode cX12_meetsBox 128 = .ok (.aload_n 0, 1) := by decide +kernel
theorem dX12_meetsBox_129 : decode cX12_meetsBox 129 = .ok (.getfield 81, 3) := by decide +kernel
theorem dX12_meetsBox_132 : decode cX12_meetsBox 132 = .ok (.iload 10, 2) := by decide +kernel
theorem dX12_meetsBox_134 : decode cX12_meetsBox 134 = .ok (.laload, 1) := by decide +kernel
theorem dX12_meetsBox_135 : decode cX12_meetsBox 135 = .ok (.lconst 0, 1) := by decide +kernel
theorem dX12_meetsBox_136 : decode cX12_meetsBox 136 = .ok (.lcmp, 1) := by decide +kernel
theorem dX12_meetsBox_137 : decode cX12_meetsBox 137 = .ok (.ifCond .ge 9, 3) := by decide +kernel
theorem dX12_meetsBox_140 : decode cX12_meetsBox 140 = .ok (.lload 13, 2) := by decide +kernel
theorem dX12_meetsBox_142 : decode cX12_meetsBox 142 = .ok (.lneg, 1) := by decide +kernel
theorem dX12_meetsBox_143 : decode cX12_meetsBox 143 = .ok (.goto 5, 3) := by decide +kernel
theorem dX12_meetsBox_146 : decode cX12_meetsBox 146 = .ok (.lload 11, 2) := by decide +kernel
theorem dX12_meetsBox_148 : decode cX12_meetsBox 148 = .ok (.lstore 17, 2) := by decide +kernel
theorem dX12_meetsBox_150 : decode cX12_meetsBox 150 = .ok (.aload_n 0, 1) := by decide +kernel
theorem dX12_meetsBox_151 : decode cX12_meetsBox 151 = .ok (.getfield 81, 3) := by decide +kernel
theorem dX12_meetsBox_154 : decode cX12_meetsBox 154 = .ok (.iload 10, 2) := by decide +kernel
theorem dX12_meetsBox_156 : decode cX12_meetsBox 156 = .ok (.laload, 1) := by decide +kernel
theorem dX12_meetsBox_157 : decode cX12_meetsBox 157 = .ok (.lconst 0, 1) := by decide +kernel
theorem dX12_meetsBox_158 : decode cX12_meetsBox 158 = .ok (.lcmp, 1) := by decide +kernel
theorem dX12_meetsBox_159 : decode cX12_meetsBox 159 = .ok (.ifCond .ge 9, 3) := by decide +kernel
theorem dX12_meetsBox_162 : decode cX12_meetsBox 162 = .ok (.lload 11, 2) := by decide +kernel
theorem dX12_meetsBox_164 : decode cX12_meetsBox 164 = .ok (.lneg, 1) := by decide +kernel
theorem dX12_meetsBox_165 : decode cX12_meetsBox 165 = .ok (.goto 5, 3) := by decide +kernel
theorem dX12_meetsBox_168 : decode cX12_meetsBox 168 = .ok (.lload 13, 2) := by decide +kernel
theorem dX12_meetsBox_170 : decode cX12_meetsBox 170 = .ok (.lstore 19, 2) := by decide +kernel
theorem dX12_meetsBox_172 : decode cX12_meetsBox 172 = .ok (.lload 17, 2) := by decide +kernel
theorem dX12_meetsBox_174 : decode cX12_meetsBox 174 = .ok (.lload 4, 2) := by decide +kernel
theorem dX12_meetsBox_176 : decode cX12_meetsBox 176 = .ok (.lmul, 1) := by decide +kernel
theorem dX12_meetsBox_177 : decode cX12_meetsBox 177 = .ok (.lload_n 2, 1) := by decide +kernel
theorem dX12_meetsBox_178 : decode cX12_meetsBox 178 = .ok (.lload 15, 2) := by decide +kernel
theorem dX12_meetsBox_180 : decode cX12_meetsBox 180 = .ok (.lmul, 1) := by decide +kernel
theorem dX12_meetsBox_181 : decode cX12_meetsBox 181 = .ok (.lcmp, 1) := by decide +kernel
theorem dX12_meetsBox_182 : decode cX12_meetsBox 182 = .ok (.ifCond .le 10, 3) := by decide +kernel
theorem dX12_meetsBox_185 : decode cX12_meetsBox 185 = .ok (.lload 17, 2) := by decide +kernel
theorem dX12_meetsBox_187 : decode cX12_meetsBox 187 = .ok (.lstore_n 2, 1) := by decide +kernel
theorem dX12_meetsBox_188 : decode cX12_meetsBox 188 = .ok (.lload 15, 2) := by decide +kernel
theorem dX12_meetsBox_190 : decode cX12_meetsBox 190 = .ok (.lstore 4, 2) := by decide +kernel
theorem dX12_meetsBox_192 : decode cX12_meetsBox 192 = .ok (.lload 8, 2) := by decide +kernel
theorem dX12_meetsBox_194 : decode cX12_meetsBox 194 = .ok (.lconst 0, 1) := by decide +kernel
theorem dX12_meetsBox_195 : decode cX12_meetsBox 195 = .ok (.lcmp, 1) := by decide +kernel
theorem dX12_meetsBox_196 : decode cX12_meetsBox 196 = .ok (.ifCond .eq 17, 3) := by decide +kernel
theorem dX12_meetsBox_199 : decode cX12_meetsBox 199 = .ok (.lload 19, 2) := by decide +kernel
theorem dX12_meetsBox_201 : decode cX12_meetsBox 201 = .ok (.lload 8, 2) := by decide +kernel
theorem dX12_meetsBox_203 : decode cX12_meetsBox 203 = .ok (.lmul, 1) := by decide +kernel
theorem dX12_meetsBox_204 : decode cX12_meetsBox 204 = .ok (.lload 6, 2) := by decide +kernel
theorem dX12_meetsBox_206 : decode cX12_meetsBox 206 = .ok (.lload 15, 2) := by decide +kernel
theorem dX12_meetsBox_208 : decode cX12_meetsBox 208 = .ok (.lmul, 1) := by decide +kernel
theorem dX12_meetsBox_209 : decode cX12_meetsBox 209 = .ok (.lcmp, 1) := by decide +kernel
theorem dX12_meetsBox_210 : decode cX12_meetsBox 210 = .ok (.ifCond .ge 11, 3) := by decide +kernel
theorem dX12_meetsBox_213 : decode cX12_meetsBox 213 = .ok (.lload 19, 2) := by decide +kernel
theorem dX12_meetsBox_215 : decode cX12_meetsBox 215 = .ok (.lstore 6, 2) := by decide +kernel
theorem dX12_meetsBox_217 : decode cX12_meetsBox 217 = .ok (.lload 15, 2) := by decide +kernel
theorem dX12_meetsBox_219 : decode cX12_meetsBox 219 = .ok (.lstore 8, 2) := by decide +kernel
theorem dX12_meetsBox_221 : decode cX12_meetsBox 221 = .ok (.iinc 10 1, 3) := by decide +kernel
theorem dX12_meetsBox_224 : decode cX12_meetsBox 224 = .ok (.goto (-210), 3) := by decide +kernel
theorem dX12_meetsBox_227 : decode cX12_meetsBox 227 = .ok (.lload 8, 2) := by decide +kernel
theorem dX12_meetsBox_229 : decode cX12_meetsBox 229 = .ok (.lconst 0, 1) := by decide +kernel
theorem dX12_meetsBox_230 : decode cX12_meetsBox 230 = .ok (.lcmp, 1) := by decide +kernel
theorem dX12_meetsBox_231 : decode cX12_meetsBox 231 = .ok (.ifCond .eq 16, 3) := by decide +kernel
theorem dX12_meetsBox_234 : decode cX12_meetsBox 234 = .ok (.lload_n 2, 1) := by decide +kernel
theorem dX12_meetsBox_235 : decode cX12_meetsBox 235 = .ok (.lload 8, 2) := by decide +kernel
theorem dX12_meetsBox_237 : decode cX12_meetsBox 237 = .ok (.lmul, 1) := by decide +kernel
theorem dX12_meetsBox_238 : decode cX12_meetsBox 238 = .ok (.lload 6, 2) := by decide +kernel
theorem dX12_meetsBox_240 : decode cX12_meetsBox 240 = .ok (.lload 4, 2) := by decide +kernel
theorem dX12_meetsBox_242 : decode cX12_meetsBox 242 = .ok (.lmul, 1) := by decide +kernel
theorem dX12_meetsBox_243 : decode cX12_meetsBox 243 = .ok (.lcmp, 1) := by decide +kernel
theorem dX12_meetsBox_244 : decode cX12_meetsBox 244 = .ok (.ifCond .gt 7, 3) := by decide +kernel
theorem dX12_meetsBox_247 : decode cX12_meetsBox 247 = .ok (.iconst 1, 1) := by decide +kernel
theorem dX12_meetsBox_248 : decode cX12_meetsBox 248 = .ok (.goto 4, 3) := by decide +kernel
theorem dX12_meetsBox_251 : decode cX12_meetsBox 251 = .ok (.iconst 0, 1) := by decide +kernel
theorem dX12_meetsBox_252 : decode cX12_meetsBox 252 = .ok (.ireturn, 1) := by decide +kernel
theorem dX12_meets_0 : decode cX12_meets 0 = .ok (.aload_n 0, 1) := by decide +kernel
theorem dX12_meets_1 : decode cX12_meets 1 = .ok (.iload_n 1, 1) := by decide +kernel
theorem dX12_meets_2 : decode cX12_meets 2 = .ok (.iload_n 2, 1) := by decide +kernel
theorem dX12_meets_3 : decode cX12_meets 3 = .ok (.invokevirtual 244, 3) := by decide +kernel
theorem dX12_meets_6 : decode cX12_meets 6 = .ok (.ifCond .eq 20, 3) := by decide +kernel
theorem dX12_meets_9 : decode cX12_meets 9 = .ok (.iload_n 3, 1) := by decide +kernel
theorem dX12_meets_10 : decode cX12_meets 10 = .ok (.i2l, 1) := by decide +kernel
theorem dX12_meets_11 : decode cX12_meets 11 = .ok (.lconst 0, 1) := by decide +kernel
theorem dX12_meets_12 : decode cX12_meets 12 = .ok (.lconst 1, 1) := by decide +kernel
theorem dX12_meets_13 : decode cX12_meets 13 = .ok (.invokestatic 140, 3) := by decide +kernel
theorem dX12_meets_16 : decode cX12_meets 16 = .ok (.ifCond .eq 10, 3) := by decide +kernel
theorem dX12_meets_19 : decode cX12_meets 19 = .ok (.aload_n 0, 1) := by decide +kernel
theorem dX12_meets_20 : decode cX12_meets 20 = .ok (.getfield 158, 3) := by decide +kernel
theorem dX12_meets_23 : decode cX12_meets 23 = .ok (.ifCond .ne 5, 3) := by decide +kernel
theorem dX12_meets_26 : decode cX12_meets 26 = .ok (.iconst (-1), 1) := by decide +kernel
theorem dX12_meets_27 : decode cX12_meets 27 = .ok (.ireturn, 1) := by decide +kernel
theorem dX12_meets_28 : decode cX12_meets 28 = .ok (.aload_n 0, 1) := by decide +kernel
theorem dX12_meets_29 : decode cX12_meets 29 = .ok (.iload_n 1, 1) := by decide +kernel
theorem dX12_meets_30 : decode cX12_meets 30 = .ok (.iload_n 2, 1) := by decide +kernel
theorem dX12_meets_31 : decode cX12_meets 31 = .ok (.invokevirtual 224, 3) := by decide +kernel
theorem dX12_meets_34 : decode cX12_meets 34 = .ok (.aload_n 0, 1) := by decide +kernel
theorem dX12_meets_35 : decode cX12_meets 35 = .ok (.getfield 81, 3) := by decide +kernel
theorem dX12_meets_38 : decode cX12_meets 38 = .ok (.iconst 0, 1) := by decide +kernel
theorem dX12_meets_39 : decode cX12_meets 39 = .ok (.laload, 1) := by decide +kernel
theorem dX12_meets_40 : decode cX12_meets 40 = .ok (.lconst 0, 1) := by decide +kernel
theorem dX12_meets_41 : decode cX12_meets 41 = .ok (.lcmp, 1) := by decide +kernel
theorem dX12_meets_42 : decode cX12_meets 42 = .ok (.ifCond .ne 25, 3) := by decide +kernel
theorem dX12_meets_45 : decode cX12_meets 45 = .ok (.aload_n 0, 1) := by decide +kernel
theorem dX12_meets_46 : decode cX12_meets 46 = .ok (.getfield 81, 3) := by decide +kernel
theorem dX12_meets_49 : decode cX12_meets 49 = .ok (.iconst 1, 1) := by decide +kernel
theorem dX12_meets_50 : decode cX12_meets 50 = .ok (.laload, 1) := by decide +kernel
theorem dX12_meets_51 : decode cX12_meets 51 = .ok (.lconst 0, 1) := by decide +kernel
theorem dX12_meets_52 : decode cX12_meets 52 = .ok (.lcmp, 1) := by decide +kernel
theorem dX12_meets_53 : decode cX12_meets 53 = .ok (.ifCond .ne 14, 3) := by decide +kernel
theorem dX12_meets_56 : decode cX12_meets 56 = .ok (.aload_n 0, 1) := by decide +kernel
theorem dX12_meets_57 : decode cX12_meets 57 = .ok (.getfield 81, 3) := by decide +kernel
theorem dX12_meets_60 : decode cX12_meets 60 = .ok (.iconst 2, 1) := by decide +kernel
theorem dX12_meets_61 : decode cX12_meets 61 = .ok (.laload, 1) := by decide +kernel
theorem dX12_meets_62 : decode cX12_meets 62 = .ok (.lconst 0, 1) := by decide +kernel
theorem dX12_meets_63 : decode cX12_meets 63 = .ok (.lcmp, 1) := by decide +kernel
theorem dX12_meets_64 : decode cX12_meets 64 = .ok (.ifCond .eq 7, 3) := by decide +kernel
theorem dX12_meets_67 : decode cX12_meets 67 = .ok (.iconst 1, 1) := by decide +kernel
theorem dX12_meets_68 : decode cX12_meets 68 = .ok (.goto 4, 3) := by decide +kernel
theorem dX12_meets_71 : decode cX12_meets 71 = .ok (.iconst 0, 1) := by decide +kernel
theorem dX12_meets_72 : decode cX12_meets 72 = .ok (.istore 4, 2) := by decide +kernel
theorem dX12_meets_74 : decode cX12_meets 74 = .ok (.iconst 0, 1) := by decide +kernel
theorem dX12_meets_75 : decode cX12_meets 75 = .ok (.istore 5, 2) := by decide +kernel
theorem dX12_meets_77 : decode cX12_meets 77 = .ok (.iconst 0, 1) := by decide +kernel
theorem dX12_meets_78 : decode cX12_meets 78 = .ok (.istore 6, 2) := by decide +kernel
theorem dX12_meets_80 : decode cX12_meets 80 = .ok (.iconst 0, 1) := by decide +kernel
theorem dX12_meets_81 : decode cX12_meets 81 = .ok (.istore 7, 2) := by decide +kernel
theorem dX12_meets_83 : decode cX12_meets 83 = .ok (.iload 7, 2) := by decide +kernel
theorem dX12_meets_85 : decode cX12_meets 85 = .ok (.aload_n 0, 1) := by decide +kernel
theorem dX12_meets_86 : decode cX12_meets 86 = .ok (.getfield 158, 3) := by decide +kernel
theorem dX12_meets_89 : decode cX12_meets 89 = .ok (.if_icmp .ge 116, 3) := by decide +kernel
theorem dX12_meets_92 : decode cX12_meets 92 = .ok (.aload_n 0, 1) := by decide +kernel
theorem dX12_meets_93 : decode cX12_meets 93 = .ok (.getfield 114, 3) := by decide +kernel
theorem dX12_meets_96 : decode cX12_meets 96 = .ok (.iload 7, 2) := by decide +kernel
theorem dX12_meets_98 : decode cX12_meets 98 = .ok (.iload 4, 2) := by decide +kernel
theorem dX12_meets_100 : decode cX12_meets 100 = .ok (.ifCond .eq 41, 3) := by decide +kernel
theorem dX12_meets_103 : decode cX12_meets 103 = .ok (.aload_n 0, 1) := by decide +kernel
theorem dX12_meets_104 : decode cX12_meets 104 = .ok (.getfield 63, 3) := by decide +kernel
theorem dX12_meets_107 : decode cX12_meets 107 = .ok (.iload 7, 2) := by decide +kernel
theorem dX12_meets_109 : decode cX12_meets 109 = .ok (.iaload, 1) := by decide +kernel
theorem dX12_meets_110 : decode cX12_meets 110 = .ok (.ifCond .lt 18, 3) := by decide +kernel
theorem dX12_meets_113 : decode cX12_meets 113 = .ok (.aload_n 0, 1) := by decide +kernel
theorem dX12_meets_114 : decode cX12_meets 114 = .ok (.getfield 114, 3) := by decide +kernel
theorem dX12_meets_117 : decode cX12_meets 117 = .ok (.aload_n 0, 1) := by decide +kernel
theorem dX12_meets_118 : decode cX12_meets 118 = .ok (.getfield 63, 3) := by decide +kernel
theorem dX12_meets_121 : decode cX12_meets 121 = .ok (.iload 7, 2) := by decide +kernel
theorem dX12_meets_123 : decode cX12_meets 123 = .ok (.iaload, 1) := by decide +kernel
theorem dX12_meets_124 : decode cX12_meets 124 = .ok (.baload, 1) := by decide +kernel
theorem dX12_meets_125 : decode cX12_meets 125 = .ok (.ifCond .eq 16, 3) := by decide +kernel
theorem dX12_meets_128 : decode cX12_meets 128 = .ok (.aload_n 0, 1) := by decide +kernel
theorem dX12_meets_129 : decode cX12_meets 129 = .ok (.iload 7, 2) := by decide +kernel
theorem dX12_meets_131 : decode cX12_meets 131 = .ok (.invokevirtual 262, 3) := by decide +kernel
theorem dX12_meets_134 : decode cX12_meets 134 = .ok (.ifCond .eq 7, 3) := by decide +kernel
theorem dX12_meets_137 : decode cX12_meets 137 = .ok (.iconst 1, 1) := by decide +kernel
theorem dX12_meets_138 : decode cX12_meets 138 = .ok (.goto 4, 3) := by decide +kernel
theorem dX12_meets_141 : decode cX12_meets 141 = .ok (.iconst 0, 1) := by decide +kernel
theorem dX12_meets_142 : decode cX12_meets 142 = .ok (.bastore, 1) := by decide +kernel
theorem dX12_meets_143 : decode cX12_meets 143 = .ok (.iload 5, 2) := by decide +kernel
theorem dX12_meets_145 : decode cX12_meets 145 = .ok (.aload_n 0, 1) := by decide +kernel
theorem dX12_meets_146 : decode cX12_meets 146 = .ok (.getfield 114, 3) := by decide +kernel
theorem dX12_meets_149 : decode cX12_meets 149 = .ok (.iload 7, 2) := by decide +kernel
theorem dX12_meets_151 : decode cX12_meets 151 = .ok (.baload, 1) := by decide +kernel
theorem dX12_meets_152 : decode cX12_meets 152 = .ok (.ifCond .eq 7, 3) := by decide +kernel
theorem dX12_meets_155 : decode cX12_meets 155 = .ok (.iconst 1, 1) := by decide +kernel
theorem dX12_meets_156 : decode cX12_meets 156 = .ok (.goto 4, 3) := by decide +kernel
theorem dX12_meets_159 : decode cX12_meets 159 = .ok (.iconst 0, 1) := by decide +kernel
theorem dX12_meets_160 : decode cX12_meets 160 = .ok (.iadd, 1) := by decide +kernel
theorem dX12_meets_161 : decode cX12_meets 161 = .ok (.istore 5, 2) := by decide +kernel
theorem dX12_meets_163 : decode cX12_meets 163 = .ok (.iload 6, 2) := by decide +kernel
theorem dX12_meets_165 : decode cX12_meets 165 = .ok (.aload_n 0, 1) := by decide +kernel
theorem dX12_meets_166 : decode cX12_meets 166 = .ok (.getfield 114, 3) := by decide +kernel
theorem dX12_meets_169 : decode cX12_meets 169 = .ok (.iload 7, 2) := by decide +kernel
theorem dX12_meets_171 : decode cX12_meets 171 = .ok (.baload, 1) := by decide +kernel
theorem dX12_meets_172 : decode cX12_meets 172 = .ok (.ifCond .eq 23, 3) := by decide +kernel
theorem dX12_meets_175 : decode cX12_meets 175 = .ok (.aload_n 0, 1) := by decide +kernel
theorem dX12_meets_176 : decode cX12_meets 176 = .ok (.getfield 57, 3) := by decide +kernel
theorem dX12_meets_179 : decode cX12_meets 179 = .ok (.iload 7, 2) := by decide +kernel
theorem dX12_meets_181 : decode cX12_meets 181 = .ok (.iaload, 1) := by decide +kernel
theorem dX12_meets_182 : decode cX12_meets 182 = .ok (.ifCond .ge 13, 3) := by decide +kernel
theorem dX12_meets_185 : decode cX12_meets 185 = .ok (.aload_n 0, 1) := by decide +kernel
theorem dX12_meets_186 : decode cX12_meets 186 = .ok (.getfield 54, 3) := by decide +kernel
theorem dX12_meets_189 : decode cX12_meets 189 = .ok (.iload 7, 2) := by decide +kernel
theorem dX12_meets_191 : decode cX12_meets 191 = .ok (.iaload, 1) := by decide +kernel
theorem dX12_meets_192 : decode cX12_meets 192 = .ok (.goto 4, 3) := by decide +kernel
theorem dX12_meets_195 : decode cX12_meets 195 = .ok (.iconst 0, 1) := by decide +kernel
theorem dX12_meets_196 : decode cX12_meets 196 = .ok (.iadd, 1) := by decide +kernel
theorem dX12_meets_197 : decode cX12_meets 197 = .ok (.istore 6, 2) := by decide +kernel
theorem dX12_meets_199 : decode cX12_meets 199 = .ok (.iinc 7 1, 3) := by decide +kernel
theorem dX12_meets_202 : decode cX12_meets 202 = .ok (.goto (-119), 3) := by decide +kernel
theorem dX12_meets_205 : decode cX12_meets 205 = .ok (.iload_n 3, 1) := by decide +kernel
theorem dX12_meets_206 : decode cX12_meets 206 = .ok (.ifCond .ne 8, 3) := by decide +kernel
