theorem dX1_init_0 : decode cX1_init 0 = .ok (.aload_n 0, 1) := by decide +kernel
theorem dX1_init_1 : decode cX1_init 1 = .ok (.invokespecial 1, 3) := by decide +kernel
theorem dX1_init_4 : decode cX1_init 4 = .ok (.aload_n 0, 1) := by decide +kernel
theorem dX1_init_5 : decode cX1_init 5 = .ok (.iconst 3, 1) := by decide +kernel
theorem dX1_init_6 : decode cX1_init 6 = .ok (.newarray .int, 2) := by decide +kernel
theorem dX1_init_8 : decode cX1_init 8 = .ok (.putfield 7, 3) := by decide +kernel
theorem dX1_init_11 : decode cX1_init 11 = .ok (.aload_n 0, 1) := by decide +kernel
theorem dX1_init_12 : decode cX1_init 12 = .ok (.bipush 9, 2) := by decide +kernel
theorem dX1_init_14 : decode cX1_init 14 = .ok (.newarray .int, 2) := by decide +kernel
theorem dX1_init_16 : decode cX1_init 16 = .ok (.putfield 13, 3) := by decide +kernel
theorem dX1_init_19 : decode cX1_init 19 = .ok (.aload_n 0, 1) := by decide +kernel
theorem dX1_init_20 : decode cX1_init 20 = .ok (.bipush 9, 2) := by decide +kernel
theorem dX1_init_22 : decode cX1_init 22 = .ok (.newarray .int, 2) := by decide +kernel
theorem dX1_init_24 : decode cX1_init 24 = .ok (.putfield 16, 3) := by decide +kernel
theorem dX1_init_27 : decode cX1_init 27 = .ok (.aload_n 0, 1) := by decide +kernel
theorem dX1_init_28 : decode cX1_init 28 = .ok (.iconst 1, 1) := by decide +kernel
theorem dX1_init_29 : decode cX1_init 29 = .ok (.putfield 19, 3) := by decide +kernel
theorem dX1_init_32 : decode cX1_init 32 = .ok (.aload_n 0, 1) := by decide +kernel
theorem dX1_init_33 : decode cX1_init 33 = .ok (.iconst 1, 1) := by decide +kernel
theorem dX1_init_34 : decode cX1_init 34 = .ok (.putfield 23, 3) := by decide +kernel
theorem dX1_init_37 : decode cX1_init 37 = .ok (.return_, 1) := by decide +kernel
theorem dX1_hasPixel_0 : decode cX1_hasPixel 0 = .ok (.iload_n 1, 1) := by decide +kernel
theorem dX1_hasPixel_1 : decode cX1_hasPixel 1 = .ok (.ifCond .lt 27, 3) := by decide +kernel
theorem dX1_hasPixel_4 : decode cX1_hasPixel 4 = .ok (.iload_n 1, 1) := by decide +kernel
theorem dX1_hasPixel_5 : decode cX1_hasPixel 5 = .ok (.aload_n 0, 1) := by decide +kernel
theorem dX1_hasPixel_6 : decode cX1_hasPixel 6 = .ok (.getfield 19, 3) := by decide +kernel
theorem dX1_hasPixel_9 : decode cX1_hasPixel 9 = .ok (.if_icmp .ge 19, 3) := by decide +kernel
theorem dX1_hasPixel_12 : decode cX1_hasPixel 12 = .ok (.iload_n 2, 1) := by decide +kernel
theorem dX1_hasPixel_13 : decode cX1_hasPixel 13 = .ok (.ifCond .lt 15, 3) := by decide +kernel
theorem dX1_hasPixel_16 : decode cX1_hasPixel 16 = .ok (.iload_n 2, 1) := by decide +kernel
theorem dX1_hasPixel_17 : decode cX1_hasPixel 17 = .ok (.aload_n 0, 1) := by decide +kernel
theorem dX1_hasPixel_18 : decode cX1_hasPixel 18 = .ok (.getfield 23, 3) := by decide +kernel
theorem dX1_hasPixel_21 : decode cX1_hasPixel 21 = .ok (.if_icmp .ge 7, 3) := by decide +kernel
theorem dX1_hasPixel_24 : decode cX1_hasPixel 24 = .ok (.iconst 1, 1) := by decide +kernel
theorem dX1_hasPixel_25 : decode cX1_hasPixel 25 = .ok (.goto 4, 3) := by decide +kernel
theorem dX1_hasPixel_28 : decode cX1_hasPixel 28 = .ok (.iconst 0, 1) := by decide +kernel
theorem dX1_hasPixel_29 : decode cX1_hasPixel 29 = .ok (.ireturn, 1) := by decide +kernel
theorem dX1_stand_0 : decode cX1_stand 0 = .ok (.iconst 0, 1) := by decide +kernel
theorem dX1_stand_1 : decode cX1_stand 1 = .ok (.istore_n 2, 1) := by decide +kernel
theorem dX1_stand_2 : decode cX1_stand 2 = .ok (.iload_n 2, 1) := by decide +kernel
theorem dX1_stand_3 : decode cX1_stand 3 = .ok (.iconst 3, 1) := by decide +kernel
theorem dX1_stand_4 : decode cX1_stand 4 = .ok (.if_icmp .ge 21, 3) := by decide +kernel
theorem dX1_stand_7 : decode cX1_stand 7 = .ok (.aload_n 0, 1) := by decide +kernel
theorem dX1_stand_8 : decode cX1_stand 8 = .ok (.getfield 7, 3) := by decide +kernel
theorem dX1_stand_11 : decode cX1_stand 11 = .ok (.iload_n 2, 1) := by decide +kernel
theorem dX1_stand_12 : decode cX1_stand 12 = .ok (.aload_n 1, 1) := by decide +kernel
theorem dX1_stand_13 : decode cX1_stand 13 = .ok (.iconst 0, 1) := by decide +kernel
theorem dX1_stand_14 : decode cX1_stand 14 = .ok (.iload_n 2, 1) := by decide +kernel
theorem dX1_stand_15 : decode cX1_stand 15 = .ok (.invokevirtual 26, 3) := by decide +kernel
theorem dX1_stand_18 : decode cX1_stand 18 = .ok (.iastore, 1) := by decide +kernel
theorem dX1_stand_19 : decode cX1_stand 19 = .ok (.iinc 2 1, 3) := by decide +kernel
theorem dX1_stand_22 : decode cX1_stand 22 = .ok (.goto (-20), 3) := by decide +kernel
theorem dX1_stand_25 : decode cX1_stand 25 = .ok (.return_, 1) := by decide +kernel
theorem dX1_turn_0 : decode cX1_turn 0 = .ok (.aload_n 0, 1) := by decide +kernel
theorem dX1_turn_1 : decode cX1_turn 1 = .ok (.getfield 13, 3) := by decide +kernel
theorem dX1_turn_4 : decode cX1_turn 4 = .ok (.iconst 0, 1) := by decide +kernel
theorem dX1_turn_5 : decode cX1_turn 5 = .ok (.aload_n 0, 1) := by decide +kernel
theorem dX1_turn_6 : decode cX1_turn 6 = .ok (.getfield 16, 3) := by decide +kernel
theorem dX1_turn_9 : decode cX1_turn 9 = .ok (.iconst 0, 1) := by decide +kernel
theorem dX1_turn_10 : decode cX1_turn 10 = .ok (.bipush 9, 2) := by decide +kernel
theorem dX1_turn_12 : decode cX1_turn 12 = .ok (.invokestatic 32, 3) := by decide +kernel
theorem dX1_turn_15 : decode cX1_turn 15 = .ok (.aload_n 0, 1) := by decide +kernel
theorem dX1_turn_16 : decode cX1_turn 16 = .ok (.getfield 16, 3) := by decide +kernel
theorem dX1_turn_19 : decode cX1_turn 19 = .ok (.iconst 3, 1) := by decide +kernel
theorem dX1_turn_20 : decode cX1_turn 20 = .ok (.iload_n 1, 1) := by decide +kernel
theorem dX1_turn_21 : decode cX1_turn 21 = .ok (.imul, 1) := by decide +kernel
theorem dX1_turn_22 : decode cX1_turn 22 = .ok (.iload_n 2, 1) := by decide +kernel
theorem dX1_turn_23 : decode cX1_turn 23 = .ok (.iastore, 1) := by decide +kernel
theorem dX1_turn_24 : decode cX1_turn 24 = .ok (.aload_n 0, 1) := by decide +kernel
theorem dX1_turn_25 : decode cX1_turn 25 = .ok (.getfield 16, 3) := by decide +kernel
theorem dX1_turn_28 : decode cX1_turn 28 = .ok (.iconst 3, 1) := by decide +kernel
theorem dX1_turn_29 : decode cX1_turn 29 = .ok (.iload_n 1, 1) := by decide +kernel
theorem dX1_turn_30 : decode cX1_turn 30 = .ok (.imul, 1) := by decide +kernel
theorem dX1_turn_31 : decode cX1_turn 31 = .ok (.iconst 1, 1) := by decide +kernel
theorem dX1_turn_32 : decode cX1_turn 32 = .ok (.iadd, 1) := by decide +kernel
theorem dX1_turn_33 : decode cX1_turn 33 = .ok (.iload_n 3, 1) := by decide +kernel
theorem dX1_turn_34 : decode cX1_turn 34 = .ok (.iastore, 1) := by decide +kernel
theorem dX1_turn_35 : decode cX1_turn 35 = .ok (.aload_n 0, 1) := by decide +kernel
theorem dX1_turn_36 : decode cX1_turn 36 = .ok (.getfield 16, 3) := by decide +kernel
theorem dX1_turn_39 : decode cX1_turn 39 = .ok (.iconst 3, 1) := by decide +kernel
theorem dX1_turn_40 : decode cX1_turn 40 = .ok (.iload_n 1, 1) := by decide +kernel
theorem dX1_turn_41 : decode cX1_turn 41 = .ok (.imul, 1) := by decide +kernel
theorem dX1_turn_42 : decode cX1_turn 42 = .ok (.iconst 2, 1) := by decide +kernel
theorem dX1_turn_43 : decode cX1_turn 43 = .ok (.iadd, 1) := by decide +kernel
theorem dX1_turn_44 : decode cX1_turn 44 = .ok (.iload 4, 2) := by decide +kernel
theorem dX1_turn_46 : decode cX1_turn 46 = .ok (.iastore, 1) := by decide +kernel
theorem dX1_turn_47 : decode cX1_turn 47 = .ok (.aload_n 0, 1) := by decide +kernel
theorem dX1_turn_48 : decode cX1_turn 48 = .ok (.getfield 16, 3) := by decide +kernel
theorem dX1_turn_51 : decode cX1_turn 51 = .ok (.aload_n 0, 1) := by decide +kernel
theorem dX1_turn_52 : decode cX1_turn 52 = .ok (.getfield 19, 3) := by decide +kernel
theorem dX1_turn_55 : decode cX1_turn 55 = .ok (.aload_n 0, 1) := by decide +kernel
theorem dX1_turn_56 : decode cX1_turn 56 = .ok (.getfield 23, 3) := by decide +kernel
theorem dX1_turn_59 : decode cX1_turn 59 = .ok (.invokestatic 38, 3) := by decide +kernel
theorem dX1_turn_62 : decode cX1_turn 62 = .ok (.ifCond .ne 5, 3) := by decide +kernel
theorem dX1_turn_65 : decode cX1_turn 65 = .ok (.iconst 0, 1) := by decide +kernel
theorem dX1_turn_66 : decode cX1_turn 66 = .ok (.ireturn, 1) := by decide +kernel
theorem dX1_turn_67 : decode cX1_turn 67 = .ok (.aload_n 0, 1) := by decide +kernel
theorem dX1_turn_68 : decode cX1_turn 68 = .ok (.getfield 16, 3) := by decide +kernel
theorem dX1_turn_71 : decode cX1_turn 71 = .ok (.iconst 0, 1) := by decide +kernel
theorem dX1_turn_72 : decode cX1_turn 72 = .ok (.aload_n 0, 1) := by decide +kernel
theorem dX1_turn_73 : decode cX1_turn 73 = .ok (.getfield 13, 3) := by decide +kernel
theorem dX1_turn_76 : decode cX1_turn 76 = .ok (.iconst 0, 1) := by decide +kernel
theorem dX1_turn_77 : decode cX1_turn 77 = .ok (.bipush 9, 2) := by decide +kernel
theorem dX1_turn_79 : decode cX1_turn 79 = .ok (.invokestatic 32, 3) := by decide +kernel
theorem dX1_turn_82 : decode cX1_turn 82 = .ok (.iconst 1, 1) := by decide +kernel
theorem dX1_turn_83 : decode cX1_turn 83 = .ok (.ireturn, 1) := by decide +kernel
theorem dX1_frame_0 : decode cX1_frame 0 = .ok (.iload_n 1, 1) := by decide +kernel
theorem dX1_frame_1 : decode cX1_frame 1 = .ok (.iconst 1, 1) := by decide +kernel
theorem dX1_frame_2 : decode cX1_frame 2 = .ok (.if_icmp .lt 32, 3) := by decide +kernel
theorem dX1_frame_5 : decode cX1_frame 5 = .ok (.iload_n 1, 1) := by decide +kernel
theorem dX1_frame_6 : decode cX1_frame 6 = .ok (.bipush 32, 2) := by decide +kernel
theorem dX1_frame_8 : decode cX1_frame 8 = .ok (.if_icmp .gt 26, 3) := by decide +kernel
theorem dX1_frame_11 : decode cX1_frame 11 = .ok (.iload_n 2, 1) := by decide +kernel
theorem dX1_frame_12 : decode cX1_frame 12 = .ok (.iconst 1, 1) := by decide +kernel
theorem dX1_frame_13 : decode cX1_frame 13 = .ok (.if_icmp .lt 21, 3) := by decide +kernel
theorem dX1_frame_16 : decode cX1_frame 16 = .ok (.iload_n 2, 1) := by decide +kernel
theorem dX1_frame_17 : decode cX1_frame 17 = .ok (.bipush 32, 2) := by decide +kernel
theorem dX1_frame_19 : decode cX1_frame 19 = .ok (.if_icmp .gt 15, 3) := by decide +kernel
theorem dX1_frame_22 : decode cX1_frame 22 = .ok (.aload_n 0, 1) := by decide +kernel
theorem dX1_frame_23 : decode cX1_frame 23 = .ok (.getfield 13, 3) := by decide +kernel
theorem dX1_frame_26 : decode cX1_frame 26 = .ok (.iload_n 1, 1) := by decide +kernel
theorem dX1_frame_27 : decode cX1_frame 27 = .ok (.iload_n 2, 1) := by decide +kernel
theorem dX1_frame_28 : decode cX1_frame 28 = .ok (.invokestatic 38, 3) := by decide +kernel
theorem dX1_frame_31 : decode cX1_frame 31 = .ok (.ifCond .ne 5, 3) := by decide +kernel
theorem dX1_frame_34 : decode cX1_frame 34 = .ok (.iconst 0, 1) := by decide +kernel
theorem dX1_frame_35 : decode cX1_frame 35 = .ok (.ireturn, 1) := by decide +kernel
theorem dX1_frame_36 : decode cX1_frame 36 = .ok (.aload_n 0, 1) := by decide +kernel
theorem dX1_frame_37 : decode cX1_frame 37 = .ok (.iload_n 1, 1) := by decide +kernel
theorem dX1_frame_38 : decode cX1_frame 38 = .ok (.putfield 19, 3) := by decide +kernel
theorem dX1_frame_41 : decode cX1_frame 41 = .ok (.aload_n 0, 1) := by decide +kernel
theorem dX1_frame_42 : decode cX1_frame 42 = .ok (.iload_n 2, 1) := by decide +kernel
theorem dX1_frame_43 : decode cX1_frame 43 = .ok (.putfield 23, 3) := by decide +kernel
theorem dX1_frame_46 : decode cX1_frame 46 = .ok (.iconst 1, 1) := by decide +kernel
theorem dX1_frame_47 : decode cX1_frame 47 = .ok (.ireturn, 1) := by decide +kernel
theorem dX1_allRaysFit_0 : decode cX1_allRaysFit 0 = .ok (.iconst 0, 1) := by decide +kernel
theorem dX1_allRaysFit_1 : decode cX1_allRaysFit 1 = .ok (.istore_n 3, 1) := by decide +kernel
theorem dX1_allRaysFit_2 : decode cX1_allRaysFit 2 = .ok (.iload_n 3, 1) := by decide +kernel
theorem dX1_allRaysFit_3 : decode cX1_allRaysFit 3 = .ok (.iconst 3, 1) := by decide +kernel
theorem dX1_allRaysFit_4 : decode cX1_allRaysFit 4 = .ok (.if_icmp .ge 71, 3) := by decide +kernel
theorem dX1_allRaysFit_7 : decode cX1_allRaysFit 7 = .ok (.iload_n 1, 1) := by decide +kernel
theorem dX1_allRaysFit_8 : decode cX1_allRaysFit 8 = .ok (.iconst 1, 1) := by decide +kernel
theorem dX1_allRaysFit_9 : decode cX1_allRaysFit 9 = .ok (.isub, 1) := by decide +kernel
theorem dX1_allRaysFit_10 : decode cX1_allRaysFit 10 = .ok (.i2l, 1) := by decide +kernel
theorem dX1_allRaysFit_11 : decode cX1_allRaysFit 11 = .ok (.aload_n 0, 1) := by decide +kernel
theorem dX1_allRaysFit_12 : decode cX1_allRaysFit 12 = .ok (.iconst 3, 1) := by decide +kernel
theorem dX1_allRaysFit_13 : decode cX1_allRaysFit 13 = .ok (.iload_n 3, 1) := by decide +kernel
theorem dX1_allRaysFit_14 : decode cX1_allRaysFit 14 = .ok (.iadd, 1) := by decide +kernel
theorem dX1_allRaysFit_15 : decode cX1_allRaysFit 15 = .ok (.iaload, 1) := by decide +kernel
theorem dX1_allRaysFit_16 : decode cX1_allRaysFit 16 = .ok (.i2l, 1) := by decide +kernel
theorem dX1_allRaysFit_17 : decode cX1_allRaysFit 17 = .ok (.invokestatic 42, 3) := by decide +kernel
theorem dX1_allRaysFit_20 : decode cX1_allRaysFit 20 = .ok (.lmul, 1) := by decide +kernel
theorem dX1_allRaysFit_21 : decode cX1_allRaysFit 21 = .ok (.iload_n 2, 1) := by decide +kernel
theorem dX1_allRaysFit_22 : decode cX1_allRaysFit 22 = .ok (.iconst 1, 1) := by decide +kernel
theorem dX1_allRaysFit_23 : decode cX1_allRaysFit 23 = .ok (.isub, 1) := by decide +kernel
theorem dX1_allRaysFit_24 : decode cX1_allRaysFit 24 = .ok (.i2l, 1) := by decide +kernel
theorem dX1_allRaysFit_25 : decode cX1_allRaysFit 25 = .ok (.aload_n 0, 1) := by decide +kernel
theorem dX1_allRaysFit_26 : decode cX1_allRaysFit 26 = .ok (.bipush 6, 2) := by decide +kernel
theorem dX1_allRaysFit_28 : decode cX1_allRaysFit 28 = .ok (.iload_n 3, 1) := by decide +kernel
theorem dX1_allRaysFit_29 : decode cX1_allRaysFit 29 = .ok (.iadd, 1) := by decide +kernel
theorem dX1_allRaysFit_30 : decode cX1_allRaysFit 30 = .ok (.iaload, 1) := by decide +kernel
theorem dX1_allRaysFit_31 : decode cX1_allRaysFit 31 = .ok (.i2l, 1) := by decide +kernel
theorem dX1_allRaysFit_32 : decode cX1_allRaysFit 32 = .ok (.invokestatic 42, 3) := by decide +kernel
theorem dX1_allRaysFit_35 : decode cX1_allRaysFit 35 = .ok (.lmul, 1) := by decide +kernel
theorem dX1_allRaysFit_36 : decode cX1_allRaysFit 36 = .ok (.ladd, 1) := by decide +kernel
theorem dX1_allRaysFit_37 : decode cX1_allRaysFit 37 = .ok (.lstore 4, 2) := by decide +kernel
theorem dX1_allRaysFit_39 : decode cX1_allRaysFit 39 = .ok (.aload_n 0, 1) := by decide +kernel
theorem dX1_allRaysFit_40 : decode cX1_allRaysFit 40 = .ok (.iload_n 3, 1) := by decide +kernel
theorem dX1_allRaysFit_41 : decode cX1_allRaysFit 41 = .ok (.iaload, 1) := by decide +kernel
theorem dX1_allRaysFit_42 : decode cX1_allRaysFit 42 = .ok (.i2l, 1) := by decide +kernel
theorem dX1_allRaysFit_43 : decode cX1_allRaysFit 43 = .ok (.lload 4, 2) := by decide +kernel
theorem dX1_allRaysFit_45 : decode cX1_allRaysFit 45 = .ok (.ladd, 1) := by decide +kernel
theorem dX1_allRaysFit_46 : decode cX1_allRaysFit 46 = .ok (.ldc2_w 48, 3) := by decide +kernel
theorem dX1_allRaysFit_49 : decode cX1_allRaysFit 49 = .ok (.lcmp, 1) := by decide +kernel
theorem dX1_allRaysFit_50 : decode cX1_allRaysFit 50 = .ok (.ifCond .gt 17, 3) := by decide +kernel
theorem dX1_allRaysFit_53 : decode cX1_allRaysFit 53 = .ok (.aload_n 0, 1) := by decide +kernel
theorem dX1_allRaysFit_54 : decode cX1_allRaysFit 54 = .ok (.iload_n 3, 1) := by decide +kernel
theorem dX1_allRaysFit_55 : decode cX1_allRaysFit 55 = .ok (.iaload, 1) := by decide +kernel
theorem dX1_allRaysFit_56 : decode cX1_allRaysFit 56 = .ok (.i2l, 1) := by decide +kernel
theorem dX1_allRaysFit_57 : decode cX1_allRaysFit 57 = .ok (.lload 4, 2) := by decide +kernel
theorem dX1_allRaysFit_59 : decode cX1_allRaysFit 59 = .ok (.lsub, 1) := by decide +kernel
theorem dX1_allRaysFit_60 : decode cX1_allRaysFit 60 = .ok (.ldc2_w 50, 3) := by decide +kernel
theorem dX1_allRaysFit_63 : decode cX1_allRaysFit 63 = .ok (.lcmp, 1) := by decide +kernel
theorem dX1_allRaysFit_64 : decode cX1_allRaysFit 64 = .ok (.ifCond .ge 5, 3) := by decide +kernel
theorem dX1_allRaysFit_67 : decode cX1_allRaysFit 67 = .ok (.iconst 0, 1) := by decide +kernel
theorem dX1_allRaysFit_68 : decode cX1_allRaysFit 68 = .ok (.ireturn, 1) := by decide +kernel
theorem dX1_allRaysFit_69 : decode cX1_allRaysFit 69 = .ok (.iinc 3 1, 3) := by decide +kernel
theorem dX1_allRaysFit_72 : decode cX1_allRaysFit 72 = .ok (.goto (-70), 3) := by decide +kernel
theorem dX1_allRaysFit_75 : decode cX1_allRaysFit 75 = .ok (.iconst 1, 1) := by decide +kernel
theorem dX1_allRaysFit_76 : decode cX1_allRaysFit 76 = .ok (.ireturn, 1) := by decide +kernel
theorem dX1_aim_0 : decode cX1_aim 0 = .ok (.iconst 2, 1) := by decide +kernel
theorem dX1_aim_1 : decode cX1_aim 1 = .ok (.iload_n 1, 1) := by decide +kernel
theorem dX1_aim_2 : decode cX1_aim 2 = .ok (.imul, 1) := by decide +kernel
theorem dX1_aim_3 : decode cX1_aim 3 = .ok (.aload_n 0, 1) := by decide +kernel
theorem dX1_aim_4 : decode cX1_aim 4 = .ok (.getfield 19, 3) := by decide +kernel
theorem dX1_aim_7 : decode cX1_aim 7 = .ok (.isub, 1) := by decide +kernel
theorem dX1_aim_8 : decode cX1_aim 8 = .ok (.iconst 1, 1) := by decide +kernel
theorem dX1_aim_9 : decode cX1_aim 9 = .ok (.iadd, 1) := by decide +kernel
theorem dX1_aim_10 : decode cX1_aim 10 = .ok (.i2l, 1) := by decide +kernel
theorem dX1_aim_11 : decode cX1_aim 11 = .ok (.lstore 4, 2) := by decide +kernel
theorem dX1_aim_13 : decode cX1_aim 13 = .ok (.aload_n 0, 1) := by decide +kernel
theorem dX1_aim_14 : decode cX1_aim 14 = .ok (.getfield 23, 3) := by decide +kernel
theorem dX1_aim_17 : decode cX1_aim 17 = .ok (.iconst 1, 1) := by decide +kernel
theorem dX1_aim_18 : decode cX1_aim 18 = .ok (.isub, 1) := by decide +kernel
theorem dX1_aim_19 : decode cX1_aim 19 = .ok (.iconst 2, 1) := by decide +kernel
theorem dX1_aim_20 : decode cX1_aim 20 = .ok (.iload_n 2, 1) := by decide +kernel
theorem dX1_aim_21 : decode cX1_aim 21 = .ok (.imul, 1) := by decide +kernel
theorem dX1_aim_22 : decode cX1_aim 22 = .ok (.isub, 1) := by decide +kernel
theorem dX1_aim_23 : decode cX1_aim 23 = .ok (.i2l, 1) := by decide +kernel
theorem dX1_aim_24 : decode cX1_aim 24 = .ok (.lstore 6, 2) := by decide +kernel
theorem dX1_aim_26 : decode cX1_aim 26 = .ok (.iconst 0, 1) := by decide +kernel
theorem dX1_aim_27 : decode cX1_aim 27 = .ok (.istore 8, 2) := by decide +kernel
theorem dX1_aim_29 : decode cX1_aim 29 = .ok (.iload 8, 2) := by decide +kernel
theorem dX1_aim_31 : decode cX1_aim 31 = .ok (.iconst 3, 1) := by decide +kernel
theorem dX1_aim_32 : decode cX1_aim 32 = .ok (.if_icmp .ge 68, 3) := by decide +kernel
theorem dX1_aim_35 : decode cX1_aim 35 = .ok (.aload_n 3, 1) := by decide +kernel
theorem dX1_aim_36 : decode cX1_aim 36 = .ok (.getfield 52, 3) := by decide +kernel
theorem dX1_aim_39 : decode cX1_aim 39 = .ok (.iload 8, 2) := by decide +kernel
theorem dX1_aim_41 : decode cX1_aim 41 = .ok (.aload_n 0, 1) := by decide +kernel
theorem dX1_aim_42 : decode cX1_aim 42 = .ok (.getfield 7, 3) := by decide +kernel
theorem dX1_aim_45 : decode cX1_aim 45 = .ok (.iload 8, 2) := by decide +kernel
theorem dX1_aim_47 : decode cX1_aim 47 = .ok (.iaload, 1) := by decide +kernel
theorem dX1_aim_48 : decode cX1_aim 48 = .ok (.i2l, 1) := by decide +kernel
theorem dX1_aim_49 : decode cX1_aim 49 = .ok (.lastore, 1) := by decide +kernel
theorem dX1_aim_50 : decode cX1_aim 50 = .ok (.aload_n 3, 1) := by decide +kernel
theorem dX1_aim_51 : decode cX1_aim 51 = .ok (.getfield 58, 3) := by decide +kernel
theorem dX1_aim_54 : decode cX1_aim 54 = .ok (.iload 8, 2) := by decide +kernel
theorem dX1_aim_56 : decode cX1_aim 56 = .ok (.aload_n 0, 1) := by decide +kernel
theorem dX1_aim_57 : decode cX1_aim 57 = .ok (.getfield 13, 3) := by decide +kernel
theorem dX1_aim_60 : decode cX1_aim 60 = .ok (.iload 8, 2) := by decide +kernel
theorem dX1_aim_62 : decode cX1_aim 62 = .ok (.iaload, 1) := by decide +kernel
theorem dX1_aim_63 : decode cX1_aim 63 = .ok (.i2l, 1) := by decide +kernel
theorem dX1_aim_64 : decode cX1_aim 64 = .ok (.lload 4, 2) := by decide +kernel
theorem dX1_aim_66 : decode cX1_aim 66 = .ok (.aload_n 0, 1) := by decide +kernel
theorem dX1_aim_67 : decode cX1_aim 67 = .ok (.getfield 13, 3) := by decide +kernel
theorem dX1_aim_70 : decode cX1_aim 70 = .ok (.iconst 3, 1) := by decide +kernel
theorem dX1_aim_71 : decode cX1_aim 71 = .ok (.iload 8, 2) := by decide +kernel
theorem dX1_aim_73 : decode cX1_aim 73 = .ok (.iadd, 1) := by decide +kernel
theorem dX1_aim_74 : decode cX1_aim 74 = .ok (.iaload, 1) := by decide +kernel
theorem dX1_aim_75 : decode cX1_aim 75 = .ok (.i2l, 1) := by decide +kernel
theorem dX1_aim_76 : decode cX1_aim 76 = .ok (.lmul, 1) := by decide +kernel
theorem dX1_aim_77 : decode cX1_aim 77 = .ok (.ladd, 1) := by decide +kernel
theorem dX1_aim_78 : decode cX1_aim 78 = .ok (.lload 6, 2) := by decide +kernel
theorem dX1_aim_80 : decode cX1_aim 80 = .ok (.aload_n 0, 1) := by decide +kernel
theorem dX1_aim_81 : decode cX1_aim 81 = .ok (.getfield 13, 3) := by decide +kernel
theorem dX1_aim_84 : decode cX1_aim 84 = .ok (.bipush 6, 2) := by decide +kernel
theorem dX1_aim_86 : decode cX1_aim 86 = .ok (.iload 8, 2) := by decide +kernel
theorem dX1_aim_88 : decode cX1_aim 88 = .ok (.iadd, 1) := by decide +kernel
theorem dX1_aim_89 : decode cX1_aim 89 = .ok (.iaload, 1) := by decide +kernel
theorem dX1_aim_90 : decode cX1_aim 90 = .ok (.i2l, 1) := by decide +kernel
theorem dX1_aim_91 : decode cX1_aim 91 = .ok (.lmul, 1) := by decide +kernel
theorem dX1_aim_92 : decode cX1_aim 92 = .ok (.ladd, 1) := by decide +kernel
theorem dX1_aim_93 : decode cX1_aim 93 = .ok (.lastore, 1) := by decide +kernel
theorem dX1_aim_94 : decode cX1_aim 94 = .ok (.iinc 8 1, 3) := by decide +kernel
theorem dX1_aim_97 : decode cX1_aim 97 = .ok (.goto (-68), 3) := by decide +kernel
theorem dX1_aim_100 : decode cX1_aim 100 = .ok (.return_, 1) := by decide +kernel
