theorem dX6_init_0 : decode cX6_init 0 = .ok (.aload_n 0, 1) := by decide +kernel
theorem dX6_init_1 : decode cX6_init 1 = .ok (.invokespecial 1, 3) := by decide +kernel
theorem dX6_init_4 : decode cX6_init 4 = .ok (.aload_n 0, 1) := by decide +kernel
theorem dX6_init_5 : decode cX6_init 5 = .ok (.bipush 9, 2) := by decide +kernel
theorem dX6_init_7 : decode cX6_init 7 = .ok (.newarray .int, 2) := by decide +kernel
theorem dX6_init_9 : decode cX6_init 9 = .ok (.putfield 7, 3) := by decide +kernel
theorem dX6_init_12 : decode cX6_init 12 = .ok (.aload_n 0, 1) := by decide +kernel
theorem dX6_init_13 : decode cX6_init 13 = .ok (.iconst 0, 1) := by decide +kernel
theorem dX6_init_14 : decode cX6_init 14 = .ok (.putfield 13, 3) := by decide +kernel
theorem dX6_init_17 : decode cX6_init 17 = .ok (.return_, 1) := by decide +kernel
theorem dX6_many_0 : decode cX6_many 0 = .ok (.aload_n 0, 1) := by decide +kernel
theorem dX6_many_1 : decode cX6_many 1 = .ok (.getfield 13, 3) := by decide +kernel
theorem dX6_many_4 : decode cX6_many 4 = .ok (.ireturn, 1) := by decide +kernel
theorem dX6_clear_0 : decode cX6_clear 0 = .ok (.aload_n 0, 1) := by decide +kernel
theorem dX6_clear_1 : decode cX6_clear 1 = .ok (.iconst 0, 1) := by decide +kernel
theorem dX6_clear_2 : decode cX6_clear 2 = .ok (.putfield 13, 3) := by decide +kernel
theorem dX6_clear_5 : decode cX6_clear 5 = .ok (.return_, 1) := by decide +kernel
theorem dX6_collect_0 : decode cX6_collect 0 = .ok (.aload_n 0, 1) := by decide +kernel
theorem dX6_collect_1 : decode cX6_collect 1 = .ok (.getfield 13, 3) := by decide +kernel
theorem dX6_collect_4 : decode cX6_collect 4 = .ok (.iconst 3, 1) := by decide +kernel
theorem dX6_collect_5 : decode cX6_collect 5 = .ok (.if_icmp .ge 24, 3) := by decide +kernel
theorem dX6_collect_8 : decode cX6_collect 8 = .ok (.iload_n 1, 1) := by decide +kernel
theorem dX6_collect_9 : decode cX6_collect 9 = .ok (.invokestatic 17, 3) := by decide +kernel
theorem dX6_collect_12 : decode cX6_collect 12 = .ok (.ifCond .eq 17, 3) := by decide +kernel
theorem dX6_collect_15 : decode cX6_collect 15 = .ok (.iload_n 2, 1) := by decide +kernel
theorem dX6_collect_16 : decode cX6_collect 16 = .ok (.invokestatic 17, 3) := by decide +kernel
theorem dX6_collect_19 : decode cX6_collect 19 = .ok (.ifCond .eq 10, 3) := by decide +kernel
theorem dX6_collect_22 : decode cX6_collect 22 = .ok (.iload_n 3, 1) := by decide +kernel
theorem dX6_collect_23 : decode cX6_collect 23 = .ok (.invokestatic 17, 3) := by decide +kernel
theorem dX6_collect_26 : decode cX6_collect 26 = .ok (.ifCond .ne 5, 3) := by decide +kernel
theorem dX6_collect_29 : decode cX6_collect 29 = .ok (.iconst 0, 1) := by decide +kernel
theorem dX6_collect_30 : decode cX6_collect 30 = .ok (.ireturn, 1) := by decide +kernel
theorem dX6_collect_31 : decode cX6_collect 31 = .ok (.aload_n 0, 1) := by decide +kernel
theorem dX6_collect_32 : decode cX6_collect 32 = .ok (.getfield 7, 3) := by decide +kernel
theorem dX6_collect_35 : decode cX6_collect 35 = .ok (.iconst 3, 1) := by decide +kernel
theorem dX6_collect_36 : decode cX6_collect 36 = .ok (.aload_n 0, 1) := by decide +kernel
theorem dX6_collect_37 : decode cX6_collect 37 = .ok (.getfield 13, 3) := by decide +kernel
theorem dX6_collect_40 : decode cX6_collect 40 = .ok (.imul, 1) := by decide +kernel
theorem dX6_collect_41 : decode cX6_collect 41 = .ok (.iload_n 1, 1) := by decide +kernel
theorem dX6_collect_42 : decode cX6_collect 42 = .ok (.iastore, 1) := by decide +kernel
theorem dX6_collect_43 : decode cX6_collect 43 = .ok (.aload_n 0, 1) := by decide +kernel
theorem dX6_collect_44 : decode cX6_collect 44 = .ok (.getfield 7, 3) := by decide +kernel
theorem dX6_collect_47 : decode cX6_collect 47 = .ok (.iconst 3, 1) := by decide +kernel
theorem dX6_collect_48 : decode cX6_collect 48 = .ok (.aload_n 0, 1) := by decide +kernel
theorem dX6_collect_49 : decode cX6_collect 49 = .ok (.getfield 13, 3) := by decide +kernel
theorem dX6_collect_52 : decode cX6_collect 52 = .ok (.imul, 1) := by decide +kernel
theorem dX6_collect_53 : decode cX6_collect 53 = .ok (.iconst 1, 1) := by decide +kernel
theorem dX6_collect_54 : decode cX6_collect 54 = .ok (.iadd, 1) := by decide +kernel
theorem dX6_collect_55 : decode cX6_collect 55 = .ok (.iload_n 2, 1) := by decide +kernel
theorem dX6_collect_56 : decode cX6_collect 56 = .ok (.iastore, 1) := by decide +kernel
theorem dX6_collect_57 : decode cX6_collect 57 = .ok (.aload_n 0, 1) := by decide +kernel
theorem dX6_collect_58 : decode cX6_collect 58 = .ok (.getfield 7, 3) := by decide +kernel
theorem dX6_collect_61 : decode cX6_collect 61 = .ok (.iconst 3, 1) := by decide +kernel
theorem dX6_collect_62 : decode cX6_collect 62 = .ok (.aload_n 0, 1) := by decide +kernel
theorem dX6_collect_63 : decode cX6_collect 63 = .ok (.getfield 13, 3) := by decide +kernel
theorem dX6_collect_66 : decode cX6_collect 66 = .ok (.imul, 1) := by decide +kernel
theorem dX6_collect_67 : decode cX6_collect 67 = .ok (.iconst 2, 1) := by decide +kernel
theorem dX6_collect_68 : decode cX6_collect 68 = .ok (.iadd, 1) := by decide +kernel
theorem dX6_collect_69 : decode cX6_collect 69 = .ok (.iload_n 3, 1) := by decide +kernel
theorem dX6_collect_70 : decode cX6_collect 70 = .ok (.iastore, 1) := by decide +kernel
theorem dX6_collect_71 : decode cX6_collect 71 = .ok (.aload_n 0, 1) := by decide +kernel
theorem dX6_collect_72 : decode cX6_collect 72 = .ok (.dup, 1) := by decide +kernel
theorem dX6_collect_73 : decode cX6_collect 73 = .ok (.getfield 13, 3) := by decide +kernel
theorem dX6_collect_76 : decode cX6_collect 76 = .ok (.iconst 1, 1) := by decide +kernel
theorem dX6_collect_77 : decode cX6_collect 77 = .ok (.iadd, 1) := by decide +kernel
theorem dX6_collect_78 : decode cX6_collect 78 = .ok (.putfield 13, 3) := by decide +kernel
theorem dX6_collect_81 : decode cX6_collect 81 = .ok (.iconst 1, 1) := by decide +kernel
theorem dX6_collect_82 : decode cX6_collect 82 = .ok (.ireturn, 1) := by decide +kernel
theorem dX6_at_0 : decode cX6_at 0 = .ok (.aload_n 0, 1) := by decide +kernel
theorem dX6_at_1 : decode cX6_at 1 = .ok (.getfield 7, 3) := by decide +kernel
theorem dX6_at_4 : decode cX6_at 4 = .ok (.iconst 3, 1) := by decide +kernel
theorem dX6_at_5 : decode cX6_at 5 = .ok (.iload_n 1, 1) := by decide +kernel
theorem dX6_at_6 : decode cX6_at 6 = .ok (.imul, 1) := by decide +kernel
theorem dX6_at_7 : decode cX6_at 7 = .ok (.iload_n 2, 1) := by decide +kernel
theorem dX6_at_8 : decode cX6_at 8 = .ok (.iadd, 1) := by decide +kernel
theorem dX6_at_9 : decode cX6_at 9 = .ok (.iaload, 1) := by decide +kernel
theorem dX6_at_10 : decode cX6_at 10 = .ok (.ireturn, 1) := by decide +kernel
theorem dX6_isCoordinate_0 : decode cX6_isCoordinate 0 = .ok (.iload_n 0, 1) := by decide +kernel
theorem dX6_isCoordinate_1 : decode cX6_isCoordinate 1 = .ok (.sipush (-255), 3) := by decide +kernel
theorem dX6_isCoordinate_4 : decode cX6_isCoordinate 4 = .ok (.if_icmp .lt 14, 3) := by decide +kernel
theorem dX6_isCoordinate_7 : decode cX6_isCoordinate 7 = .ok (.iload_n 0, 1) := by decide +kernel
theorem dX6_isCoordinate_8 : decode cX6_isCoordinate 8 = .ok (.sipush 255, 3) := by decide +kernel
theorem dX6_isCoordinate_11 : decode cX6_isCoordinate 11 = .ok (.if_icmp .gt 7, 3) := by decide +kernel
theorem dX6_isCoordinate_14 : decode cX6_isCoordinate 14 = .ok (.iconst 1, 1) := by decide +kernel
theorem dX6_isCoordinate_15 : decode cX6_isCoordinate 15 = .ok (.goto 4, 3) := by decide +kernel
theorem dX6_isCoordinate_18 : decode cX6_isCoordinate 18 = .ok (.iconst 0, 1) := by decide +kernel
theorem dX6_isCoordinate_19 : decode cX6_isCoordinate 19 = .ok (.ireturn, 1) := by decide +kernel
