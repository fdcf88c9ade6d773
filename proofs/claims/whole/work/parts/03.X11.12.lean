theorem dX11_levelOf_43 : decode cX11_levelOf 43 = .ok (.iload_n 2, 1) := by decide +kernel
theorem dX11_levelOf_44 : decode cX11_levelOf 44 = .ok (.invokevirtual 309, 3) := by decide +kernel
theorem dX11_levelOf_47 : decode cX11_levelOf 47 = .ok (.invokestatic 313, 3) := by decide +kernel
theorem dX11_levelOf_50 : decode cX11_levelOf 50 = .ok (.aload_n 1, 1) := by decide +kernel
theorem dX11_levelOf_51 : decode cX11_levelOf 51 = .ok (.invokevirtual 317, 3) := by decide +kernel
theorem dX11_levelOf_54 : decode cX11_levelOf 54 = .ok (.lmul, 1) := by decide +kernel
theorem dX11_levelOf_55 : decode cX11_levelOf 55 = .ok (.lstore_n 3, 1) := by decide +kernel
theorem dX11_levelOf_56 : decode cX11_levelOf 56 = .ok (.aload_n 0, 1) := by decide +kernel
theorem dX11_levelOf_57 : decode cX11_levelOf 57 = .ok (.getfield 74, 3) := by decide +kernel
theorem dX11_levelOf_60 : decode cX11_levelOf 60 = .ok (.lload_n 3, 1) := by decide +kernel
theorem dX11_levelOf_61 : decode cX11_levelOf 61 = .ok (.aload_n 0, 1) := by decide +kernel
theorem dX11_levelOf_62 : decode cX11_levelOf 62 = .ok (.getfield 19, 3) := by decide +kernel
theorem dX11_levelOf_65 : decode cX11_levelOf 65 = .ok (.aload_n 1, 1) := by decide +kernel
theorem dX11_levelOf_66 : decode cX11_levelOf 66 = .ok (.getfield 182, 3) := by decide +kernel
theorem dX11_levelOf_69 : decode cX11_levelOf 69 = .ok (.invokevirtual 320, 3) := by decide +kernel
theorem dX11_levelOf_72 : decode cX11_levelOf 72 = .ok (.aload_n 0, 1) := by decide +kernel
theorem dX11_levelOf_73 : decode cX11_levelOf 73 = .ok (.getfield 68, 3) := by decide +kernel
theorem dX11_levelOf_76 : decode cX11_levelOf 76 = .ok (.getfield 323, 3) := by decide +kernel
theorem dX11_levelOf_79 : decode cX11_levelOf 79 = .ok (.invokevirtual 327, 3) := by decide +kernel
theorem dX11_levelOf_82 : decode cX11_levelOf 82 = .ok (.ireturn, 1) := by decide +kernel
theorem dX11_blocker_0 : decode cX11_blocker 0 = .ok (.iconst 0, 1) := by decide +kernel
theorem dX11_blocker_1 : decode cX11_blocker 1 = .ok (.istore_n 2, 1) := by decide +kernel
theorem dX11_blocker_2 : decode cX11_blocker 2 = .ok (.iload_n 2, 1) := by decide +kernel
theorem dX11_blocker_3 : decode cX11_blocker 3 = .ok (.aload_n 0, 1) := by decide +kernel
theorem dX11_blocker_4 : decode cX11_blocker 4 = .ok (.getfield 19, 3) := by decide +kernel
theorem dX11_blocker_7 : decode cX11_blocker 7 = .ok (.invokevirtual 199, 3) := by decide +kernel
theorem dX11_blocker_10 : decode cX11_blocker 10 = .ok (.if_icmp .ge 57, 3) := by decide +kernel
theorem dX11_blocker_13 : decode cX11_blocker 13 = .ok (.iload_n 2, 1) := by decide +kernel
theorem dX11_blocker_14 : decode cX11_blocker 14 = .ok (.aload_n 1, 1) := by decide +kernel
theorem dX11_blocker_15 : decode cX11_blocker 15 = .ok (.getfield 182, 3) := by decide +kernel
theorem dX11_blocker_18 : decode cX11_blocker 18 = .ok (.if_icmp .eq 43, 3) := by decide +kernel
theorem dX11_blocker_21 : decode cX11_blocker 21 = .ok (.aload_n 0, 1) := by decide +kernel
theorem dX11_blocker_22 : decode cX11_blocker 22 = .ok (.getfield 68, 3) := by decide +kernel
theorem dX11_blocker_25 : decode cX11_blocker 25 = .ok (.aload_n 0, 1) := by decide +kernel
theorem dX11_blocker_26 : decode cX11_blocker 26 = .ok (.getfield 19, 3) := by decide +kernel
theorem dX11_blocker_29 : decode cX11_blocker 29 = .ok (.iload_n 2, 1) := by decide +kernel
theorem dX11_blocker_30 : decode cX11_blocker 30 = .ok (.invokevirtual 200, 3) := by decide +kernel
theorem dX11_blocker_33 : decode cX11_blocker 33 = .ok (.ifCond .eq 28, 3) := by decide +kernel
theorem dX11_blocker_36 : decode cX11_blocker 36 = .ok (.aload_n 0, 1) := by decide +kernel
theorem dX11_blocker_37 : decode cX11_blocker 37 = .ok (.getfield 68, 3) := by decide +kernel
theorem dX11_blocker_40 : decode cX11_blocker 40 = .ok (.getfield 204, 3) := by decide +kernel
theorem dX11_blocker_43 : decode cX11_blocker 43 = .ok (.aload_n 1, 1) := by decide +kernel
theorem dX11_blocker_44 : decode cX11_blocker 44 = .ok (.invokevirtual 317, 3) := by decide +kernel
theorem dX11_blocker_47 : decode cX11_blocker 47 = .ok (.lmul, 1) := by decide +kernel
theorem dX11_blocker_48 : decode cX11_blocker 48 = .ok (.aload_n 0, 1) := by decide +kernel
theorem dX11_blocker_49 : decode cX11_blocker 49 = .ok (.getfield 68, 3) := by decide +kernel
theorem dX11_blocker_52 : decode cX11_blocker 52 = .ok (.getfield 208, 3) := by decide +kernel
theorem dX11_blocker_55 : decode cX11_blocker 55 = .ok (.lcmp, 1) := by decide +kernel
theorem dX11_blocker_56 : decode cX11_blocker 56 = .ok (.ifCond .ge 5, 3) := by decide +kernel
theorem dX11_blocker_59 : decode cX11_blocker 59 = .ok (.iload_n 2, 1) := by decide +kernel
theorem dX11_blocker_60 : decode cX11_blocker 60 = .ok (.ireturn, 1) := by decide +kernel
theorem dX11_blocker_61 : decode cX11_blocker 61 = .ok (.iinc 2 1, 3) := by decide +kernel
theorem dX11_blocker_64 : decode cX11_blocker 64 = .ok (.goto (-62), 3) := by decide +kernel
theorem dX11_blocker_67 : decode cX11_blocker 67 = .ok (.bipush (-2), 2) := by decide +kernel
theorem dX11_blocker_69 : decode cX11_blocker 69 = .ok (.ireturn, 1) := by decide +kernel
theorem dX11_colour_0 : decode cX11_colour 0 = .ok (.aload_n 0, 1) := by decide +kernel
theorem dX11_colour_1 : decode cX11_colour 1 = .ok (.iload_n 1, 1) := by decide +kernel
theorem dX11_colour_2 : decode cX11_colour 2 = .ok (.iload_n 2, 1) := by decide +kernel
theorem dX11_colour_3 : decode cX11_colour 3 = .ok (.aload_n 0, 1) := by decide +kernel
theorem dX11_colour_4 : decode cX11_colour 4 = .ok (.getfield 58, 3) := by decide +kernel
theorem dX11_colour_7 : decode cX11_colour 7 = .ok (.invokevirtual 178, 3) := by decide +kernel
theorem dX11_colour_10 : decode cX11_colour 10 = .ok (.aload_n 0, 1) := by decide +kernel
theorem dX11_colour_11 : decode cX11_colour 11 = .ok (.getfield 58, 3) := by decide +kernel
theorem dX11_colour_14 : decode cX11_colour 14 = .ok (.invokevirtual 185, 3) := by decide +kernel
theorem dX11_colour_17 : decode cX11_colour 17 = .ok (.ifCond .ne 8, 3) := by decide +kernel
theorem dX11_colour_20 : decode cX11_colour 20 = .ok (.aload_n 0, 1) := by decide +kernel
theorem dX11_colour_21 : decode cX11_colour 21 = .ok (.getfield 89, 3) := by decide +kernel
theorem dX11_colour_24 : decode cX11_colour 24 = .ok (.ireturn, 1) := by decide +kernel
theorem dX11_colour_25 : decode cX11_colour 25 = .ok (.aload_n 0, 1) := by decide +kernel
theorem dX11_colour_26 : decode cX11_colour 26 = .ok (.getfield 33, 3) := by decide +kernel
theorem dX11_colour_29 : decode cX11_colour 29 = .ok (.invokevirtual 331, 3) := by decide +kernel
theorem dX11_colour_32 : decode cX11_colour 32 = .ok (.istore_n 3, 1) := by decide +kernel
theorem dX11_colour_33 : decode cX11_colour 33 = .ok (.iconst 0, 1) := by decide +kernel
theorem dX11_colour_34 : decode cX11_colour 34 = .ok (.istore 4, 2) := by decide +kernel
theorem dX11_colour_36 : decode cX11_colour 36 = .ok (.iload 4, 2) := by decide +kernel
theorem dX11_colour_38 : decode cX11_colour 38 = .ok (.iconst 4, 1) := by decide +kernel
theorem dX11_colour_39 : decode cX11_colour 39 = .ok (.if_icmp .ge 43, 3) := by decide +kernel
theorem dX11_colour_42 : decode cX11_colour 42 = .ok (.aload_n 0, 1) := by decide +kernel
theorem dX11_colour_43 : decode cX11_colour 43 = .ok (.getfield 33, 3) := by decide +kernel
theorem dX11_colour_46 : decode cX11_colour 46 = .ok (.iload 4, 2) := by decide +kernel
theorem dX11_colour_48 : decode cX11_colour 48 = .ok (.invokevirtual 334, 3) := by decide +kernel
theorem dX11_colour_51 : decode cX11_colour 51 = .ok (.ifCond .le 25, 3) := by decide +kernel
theorem dX11_colour_54 : decode cX11_colour 54 = .ok (.iload_n 3, 1) := by decide +kernel
theorem dX11_colour_55 : decode cX11_colour 55 = .ok (.aload_n 0, 1) := by decide +kernel
theorem dX11_colour_56 : decode cX11_colour 56 = .ok (.getfield 33, 3) := by decide +kernel
theorem dX11_colour_59 : decode cX11_colour 59 = .ok (.iload 4, 2) := by decide +kernel
theorem dX11_colour_61 : decode cX11_colour 61 = .ok (.aload_n 0, 1) := by decide +kernel
theorem dX11_colour_62 : decode cX11_colour 62 = .ok (.aload_n 0, 1) := by decide +kernel
theorem dX11_colour_63 : decode cX11_colour 63 = .ok (.getfield 58, 3) := by decide +kernel
theorem dX11_colour_66 : decode cX11_colour 66 = .ok (.iload 4, 2) := by decide +kernel
theorem dX11_colour_68 : decode cX11_colour 68 = .ok (.invokevirtual 228, 3) := by decide +kernel
theorem dX11_colour_71 : decode cX11_colour 71 = .ok (.invokevirtual 337, 3) := by decide +kernel
theorem dX11_colour_74 : decode cX11_colour 74 = .ok (.iadd, 1) := by decide +kernel
theorem dX11_colour_75 : decode cX11_colour 75 = .ok (.istore_n 3, 1) := by decide +kernel
theorem dX11_colour_76 : decode cX11_colour 76 = .ok (.iinc 4 1, 3) := by decide +kernel
theorem dX11_colour_79 : decode cX11_colour 79 = .ok (.goto (-43), 3) := by decide +kernel
theorem dX11_colour_82 : decode cX11_colour 82 = .ok (.sipush 255, 3) := by decide +kernel
theorem dX11_colour_85 : decode cX11_colour 85 = .ok (.aload_n 0, 1) := by decide +kernel
theorem dX11_colour_86 : decode cX11_colour 86 = .ok (.getfield 19, 3) := by decide +kernel
theorem dX11_colour_89 : decode cX11_colour 89 = .ok (.aload_n 0, 1) := by decide +kernel
theorem dX11_colour_90 : decode cX11_colour 90 = .ok (.getfield 58, 3) := by decide +kernel
theorem dX11_colour_93 : decode cX11_colour 93 = .ok (.getfield 182, 3) := by decide +kernel
theorem dX11_colour_96 : decode cX11_colour 96 = .ok (.invokevirtual 340, 3) := by decide +kernel
theorem dX11_colour_99 : decode cX11_colour 99 = .ok (.iload_n 3, 1) := by decide +kernel
theorem dX11_colour_100 : decode cX11_colour 100 = .ok (.imul, 1) := by decide +kernel
theorem dX11_colour_101 : decode cX11_colour 101 = .ok (.sipush 255, 3) := by decide +kernel
theorem dX11_colour_104 : decode cX11_colour 104 = .ok (.idiv, 1) := by decide +kernel
theorem dX11_colour_105 : decode cX11_colour 105 = .ok (.invokestatic 343, 3) := by decide +kernel
theorem dX11_colour_108 : decode cX11_colour 108 = .ok (.ireturn, 1) := by decide +kernel
theorem dX11_unmarkAll_0 : decode cX11_unmarkAll 0 = .ok (.iconst 0, 1) := by decide +kernel
theorem dX11_unmarkAll_1 : decode cX11_unmarkAll 1 = .ok (.istore_n 1, 1) := by decide +kernel
theorem dX11_unmarkAll_2 : decode cX11_unmarkAll 2 = .ok (.iload_n 1, 1) := by decide +kernel
theorem dX11_unmarkAll_3 : decode cX11_unmarkAll 3 = .ok (.sipush 128, 3) := by decide +kernel
theorem dX11_unmarkAll_6 : decode cX11_unmarkAll 6 = .ok (.if_icmp .ge 16, 3) := by decide +kernel
theorem dX11_unmarkAll_9 : decode cX11_unmarkAll 9 = .ok (.aload_n 0, 1) := by decide +kernel
theorem dX11_unmarkAll_10 : decode cX11_unmarkAll 10 = .ok (.getfield 85, 3) := by decide +kernel
theorem dX11_unmarkAll_13 : decode cX11_unmarkAll 13 = .ok (.iload_n 1, 1) := by decide +kernel
theorem dX11_unmarkAll_14 : decode cX11_unmarkAll 14 = .ok (.iconst 0, 1) := by decide +kernel
theorem dX11_unmarkAll_15 : decode cX11_unmarkAll 15 = .ok (.bastore, 1) := by decide +kernel
theorem dX11_unmarkAll_16 : decode cX11_unmarkAll 16 = .ok (.iinc 1 1, 3) := by decide +kernel
theorem dX11_unmarkAll_19 : decode cX11_unmarkAll 19 = .ok (.goto (-17), 3) := by decide +kernel
theorem dX11_unmarkAll_22 : decode cX11_unmarkAll 22 = .ok (.return_, 1) := by decide +kernel
theorem dX11_pickMarked_0 : decode cX11_pickMarked 0 = .ok (.iconst 0, 1) := by decide +kernel
theorem dX11_pickMarked_1 : decode cX11_pickMarked 1 = .ok (.istore_n 2, 1) := by decide +kernel
theorem dX11_pickMarked_2 : decode cX11_pickMarked 2 = .ok (.iconst 0, 1) := by decide +kernel
theorem dX11_pickMarked_3 : decode cX11_pickMarked 3 = .ok (.istore_n 3, 1) := by decide +kernel
theorem dX11_pickMarked_4 : decode cX11_pickMarked 4 = .ok (.iload_n 3, 1) := by decide +kernel
theorem dX11_pickMarked_5 : decode cX11_pickMarked 5 = .ok (.aload_n 0, 1) := by decide +kernel
theorem dX11_pickMarked_6 : decode cX11_pickMarked 6 = .ok (.getfield 19, 3) := by decide +kernel
theorem dX11_pickMarked_9 : decode cX11_pickMarked 9 = .ok (.invokevirtual 199, 3) := by decide +kernel
theorem dX11_pickMarked_12 : decode cX11_pickMarked 12 = .ok (.if_icmp .ge 28, 3) := by decide +kernel
theorem dX11_pickMarked_15 : decode cX11_pickMarked 15 = .ok (.aload_n 0, 1) := by decide +kernel
theorem dX11_pickMarked_16 : decode cX11_pickMarked 16 = .ok (.getfield 85, 3) := by decide +kernel
theorem dX11_pickMarked_19 : decode cX11_pickMarked 19 = .ok (.iload_n 3, 1) := by decide +kernel
theorem dX11_pickMarked_20 : decode cX11_pickMarked 20 = .ok (.baload, 1) := by decide +kernel
theorem dX11_pickMarked_21 : decode cX11_pickMarked 21 = .ok (.ifCond .eq 13, 3) := by decide +kernel
theorem dX11_pickMarked_24 : decode cX11_pickMarked 24 = .ok (.iload_n 2, 1) := by decide +kernel
theorem dX11_pickMarked_25 : decode cX11_pickMarked 25 = .ok (.iload_n 1, 1) := by decide +kernel
theorem dX11_pickMarked_26 : decode cX11_pickMarked 26 = .ok (.if_icmp .ne 5, 3) := by decide +kernel
theorem dX11_pickMarked_29 : decode cX11_pickMarked 29 = .ok (.iload_n 3, 1) := by decide +kernel
theorem dX11_pickMarked_30 : decode cX11_pickMarked 30 = .ok (.ireturn, 1) := by decide +kernel
theorem dX11_pickMarked_31 : decode cX11_pickMarked 31 = .ok (.iinc 2 1, 3) := by decide +kernel
theorem dX11_pickMarked_34 : decode cX11_pickMarked 34 = .ok (.iinc 3 1, 3) := by decide +kernel
theorem dX11_pickMarked_37 : decode cX11_pickMarked 37 = .ok (.goto (-33), 3) := by decide +kernel
theorem dX11_pickMarked_40 : decode cX11_pickMarked 40 = .ok (.iload_n 1, 1) := by decide +kernel
theorem dX11_pickMarked_41 : decode cX11_pickMarked 41 = .ok (.iconst (-1), 1) := by decide +kernel
theorem dX11_pickMarked_42 : decode cX11_pickMarked 42 = .ok (.if_icmp .ne 7, 3) := by decide +kernel
theorem dX11_pickMarked_45 : decode cX11_pickMarked 45 = .ok (.iload_n 2, 1) := by decide +kernel
theorem dX11_pickMarked_46 : decode cX11_pickMarked 46 = .ok (.goto 4, 3) := by decide +kernel
theorem dX11_pickMarked_49 : decode cX11_pickMarked 49 = .ok (.iconst (-1), 1) := by decide +kernel
theorem dX11_pickMarked_50 : decode cX11_pickMarked 50 = .ok (.ireturn, 1) := by decide +kernel
