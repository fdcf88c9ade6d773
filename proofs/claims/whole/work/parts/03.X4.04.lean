theorem dX4_init_0 : decode cX4_init 0 = .ok (.aload_n 0, 1) := by decide +kernel
theorem dX4_init_1 : decode cX4_init 1 = .ok (.invokespecial 3, 3) := by decide +kernel
theorem dX4_init_4 : decode cX4_init 4 = .ok (.aload_n 0, 1) := by decide +kernel
theorem dX4_init_5 : decode cX4_init 5 = .ok (.bipush 12, 2) := by decide +kernel
theorem dX4_init_7 : decode cX4_init 7 = .ok (.newarray .int, 2) := by decide +kernel
theorem dX4_init_9 : decode cX4_init 9 = .ok (.putfield 9, 3) := by decide +kernel
theorem dX4_init_12 : decode cX4_init 12 = .ok (.aload_n 0, 1) := by decide +kernel
theorem dX4_init_13 : decode cX4_init 13 = .ok (.iconst 4, 1) := by decide +kernel
theorem dX4_init_14 : decode cX4_init 14 = .ok (.newarray .int, 2) := by decide +kernel
theorem dX4_init_16 : decode cX4_init 16 = .ok (.putfield 15, 3) := by decide +kernel
theorem dX4_init_19 : decode cX4_init 19 = .ok (.aload_n 0, 1) := by decide +kernel
theorem dX4_init_20 : decode cX4_init 20 = .ok (.bipush 16, 2) := by decide +kernel
theorem dX4_init_22 : decode cX4_init 22 = .ok (.newarray .int, 2) := by decide +kernel
theorem dX4_init_24 : decode cX4_init 24 = .ok (.putfield 18, 3) := by decide +kernel
theorem dX4_init_27 : decode cX4_init 27 = .ok (.aload_n 0, 1) := by decide +kernel
theorem dX4_init_28 : decode cX4_init 28 = .ok (.iconst 0, 1) := by decide +kernel
theorem dX4_init_29 : decode cX4_init 29 = .ok (.putfield 21, 3) := by decide +kernel
theorem dX4_init_32 : decode cX4_init 32 = .ok (.iconst 0, 1) := by decide +kernel
theorem dX4_init_33 : decode cX4_init 33 = .ok (.istore_n 1, 1) := by decide +kernel
theorem dX4_init_34 : decode cX4_init 34 = .ok (.iload_n 1, 1) := by decide +kernel
theorem dX4_init_35 : decode cX4_init 35 = .ok (.bipush 16, 2) := by decide +kernel
theorem dX4_init_37 : decode cX4_init 37 = .ok (.if_icmp .ge 19, 3) := by decide +kernel
theorem dX4_init_40 : decode cX4_init 40 = .ok (.aload_n 0, 1) := by decide +kernel
theorem dX4_init_41 : decode cX4_init 41 = .ok (.getfield 18, 3) := by decide +kernel
theorem dX4_init_44 : decode cX4_init 44 = .ok (.iload_n 1, 1) := by decide +kernel
theorem dX4_init_45 : decode cX4_init 45 = .ok (.bipush 17, 2) := by decide +kernel
theorem dX4_init_47 : decode cX4_init 47 = .ok (.iload_n 1, 1) := by decide +kernel
theorem dX4_init_48 : decode cX4_init 48 = .ok (.imul, 1) := by decide +kernel
theorem dX4_init_49 : decode cX4_init 49 = .ok (.iastore, 1) := by decide +kernel
theorem dX4_init_50 : decode cX4_init 50 = .ok (.iinc 1 1, 3) := by decide +kernel
theorem dX4_init_53 : decode cX4_init 53 = .ok (.goto (-19), 3) := by decide +kernel
theorem dX4_init_56 : decode cX4_init 56 = .ok (.return_, 1) := by decide +kernel
theorem dX4_has_0 : decode cX4_has 0 = .ok (.iload_n 0, 1) := by decide +kernel
theorem dX4_has_1 : decode cX4_has 1 = .ok (.ifCond .lt 12, 3) := by decide +kernel
theorem dX4_has_4 : decode cX4_has 4 = .ok (.iload_n 0, 1) := by decide +kernel
theorem dX4_has_5 : decode cX4_has 5 = .ok (.iconst 4, 1) := by decide +kernel
theorem dX4_has_6 : decode cX4_has 6 = .ok (.if_icmp .ge 7, 3) := by decide +kernel
theorem dX4_has_9 : decode cX4_has 9 = .ok (.iconst 1, 1) := by decide +kernel
theorem dX4_has_10 : decode cX4_has 10 = .ok (.goto 4, 3) := by decide +kernel
theorem dX4_has_13 : decode cX4_has 13 = .ok (.iconst 0, 1) := by decide +kernel
theorem dX4_has_14 : decode cX4_has 14 = .ok (.ireturn, 1) := by decide +kernel
theorem dX4_hang_0 : decode cX4_hang 0 = .ok (.iconst 0, 1) := by decide +kernel
theorem dX4_hang_1 : decode cX4_hang 1 = .ok (.istore 4, 2) := by decide +kernel
theorem dX4_hang_3 : decode cX4_hang 3 = .ok (.iload 4, 2) := by decide +kernel
theorem dX4_hang_5 : decode cX4_hang 5 = .ok (.iconst 3, 1) := by decide +kernel
theorem dX4_hang_6 : decode cX4_hang 6 = .ok (.if_icmp .ge 27, 3) := by decide +kernel
theorem dX4_hang_9 : decode cX4_hang 9 = .ok (.aload_n 0, 1) := by decide +kernel
theorem dX4_hang_10 : decode cX4_hang 10 = .ok (.getfield 9, 3) := by decide +kernel
theorem dX4_hang_13 : decode cX4_hang 13 = .ok (.iconst 3, 1) := by decide +kernel
theorem dX4_hang_14 : decode cX4_hang 14 = .ok (.iload_n 1, 1) := by decide +kernel
theorem dX4_hang_15 : decode cX4_hang 15 = .ok (.imul, 1) := by decide +kernel
theorem dX4_hang_16 : decode cX4_hang 16 = .ok (.iload 4, 2) := by decide +kernel
theorem dX4_hang_18 : decode cX4_hang 18 = .ok (.iadd, 1) := by decide +kernel
theorem dX4_hang_19 : decode cX4_hang 19 = .ok (.aload_n 3, 1) := by decide +kernel
theorem dX4_hang_20 : decode cX4_hang 20 = .ok (.iconst 0, 1) := by decide +kernel
theorem dX4_hang_21 : decode cX4_hang 21 = .ok (.iload 4, 2) := by decide +kernel
theorem dX4_hang_23 : decode cX4_hang 23 = .ok (.invokevirtual 25, 3) := by decide +kernel
theorem dX4_hang_26 : decode cX4_hang 26 = .ok (.iastore, 1) := by decide +kernel
theorem dX4_hang_27 : decode cX4_hang 27 = .ok (.iinc 4 1, 3) := by decide +kernel
theorem dX4_hang_30 : decode cX4_hang 30 = .ok (.goto (-27), 3) := by decide +kernel
theorem dX4_hang_33 : decode cX4_hang 33 = .ok (.aload_n 0, 1) := by decide +kernel
theorem dX4_hang_34 : decode cX4_hang 34 = .ok (.getfield 15, 3) := by decide +kernel
theorem dX4_hang_37 : decode cX4_hang 37 = .ok (.iload_n 1, 1) := by decide +kernel
theorem dX4_hang_38 : decode cX4_hang 38 = .ok (.iload_n 2, 1) := by decide +kernel
theorem dX4_hang_39 : decode cX4_hang 39 = .ok (.iastore, 1) := by decide +kernel
theorem dX4_hang_40 : decode cX4_hang 40 = .ok (.return_, 1) := by decide +kernel
theorem dX4_at_0 : decode cX4_at 0 = .ok (.aload_n 0, 1) := by decide +kernel
theorem dX4_at_1 : decode cX4_at 1 = .ok (.getfield 9, 3) := by decide +kernel
theorem dX4_at_4 : decode cX4_at 4 = .ok (.iconst 3, 1) := by decide +kernel
theorem dX4_at_5 : decode cX4_at 5 = .ok (.iload_n 1, 1) := by decide +kernel
theorem dX4_at_6 : decode cX4_at 6 = .ok (.imul, 1) := by decide +kernel
theorem dX4_at_7 : decode cX4_at 7 = .ok (.iload_n 2, 1) := by decide +kernel
theorem dX4_at_8 : decode cX4_at 8 = .ok (.iadd, 1) := by decide +kernel
theorem dX4_at_9 : decode cX4_at 9 = .ok (.iaload, 1) := by decide +kernel
theorem dX4_at_10 : decode cX4_at 10 = .ok (.ireturn, 1) := by decide +kernel
theorem dX4_strength_0 : decode cX4_strength 0 = .ok (.aload_n 0, 1) := by decide +kernel
theorem dX4_strength_1 : decode cX4_strength 1 = .ok (.getfield 15, 3) := by decide +kernel
theorem dX4_strength_4 : decode cX4_strength 4 = .ok (.iload_n 1, 1) := by decide +kernel
theorem dX4_strength_5 : decode cX4_strength 5 = .ok (.iaload, 1) := by decide +kernel
theorem dX4_strength_6 : decode cX4_strength 6 = .ok (.ireturn, 1) := by decide +kernel
theorem dX4_ambient_0 : decode cX4_ambient 0 = .ok (.aload_n 0, 1) := by decide +kernel
theorem dX4_ambient_1 : decode cX4_ambient 1 = .ok (.getfield 21, 3) := by decide +kernel
theorem dX4_ambient_4 : decode cX4_ambient 4 = .ok (.ireturn, 1) := by decide +kernel
theorem dX4_changeAmbient_0 : decode cX4_changeAmbient 0 = .ok (.aload_n 0, 1) := by decide +kernel
theorem dX4_changeAmbient_1 : decode cX4_changeAmbient 1 = .ok (.getfield 21, 3) := by decide +kernel
theorem dX4_changeAmbient_4 : decode cX4_changeAmbient 4 = .ok (.istore_n 2, 1) := by decide +kernel
theorem dX4_changeAmbient_5 : decode cX4_changeAmbient 5 = .ok (.aload_n 0, 1) := by decide +kernel
theorem dX4_changeAmbient_6 : decode cX4_changeAmbient 6 = .ok (.iload_n 1, 1) := by decide +kernel
theorem dX4_changeAmbient_7 : decode cX4_changeAmbient 7 = .ok (.putfield 21, 3) := by decide +kernel
theorem dX4_changeAmbient_10 : decode cX4_changeAmbient 10 = .ok (.iload_n 2, 1) := by decide +kernel
theorem dX4_changeAmbient_11 : decode cX4_changeAmbient 11 = .ok (.ireturn, 1) := by decide +kernel
theorem dX4_changeValue_0 : decode cX4_changeValue 0 = .ok (.aload_n 0, 1) := by decide +kernel
theorem dX4_changeValue_1 : decode cX4_changeValue 1 = .ok (.getfield 18, 3) := by decide +kernel
theorem dX4_changeValue_4 : decode cX4_changeValue 4 = .ok (.iload_n 1, 1) := by decide +kernel
theorem dX4_changeValue_5 : decode cX4_changeValue 5 = .ok (.iaload, 1) := by decide +kernel
theorem dX4_changeValue_6 : decode cX4_changeValue 6 = .ok (.istore_n 3, 1) := by decide +kernel
theorem dX4_changeValue_7 : decode cX4_changeValue 7 = .ok (.aload_n 0, 1) := by decide +kernel
theorem dX4_changeValue_8 : decode cX4_changeValue 8 = .ok (.getfield 18, 3) := by decide +kernel
theorem dX4_changeValue_11 : decode cX4_changeValue 11 = .ok (.iload_n 1, 1) := by decide +kernel
theorem dX4_changeValue_12 : decode cX4_changeValue 12 = .ok (.iload_n 2, 1) := by decide +kernel
theorem dX4_changeValue_13 : decode cX4_changeValue 13 = .ok (.iastore, 1) := by decide +kernel
theorem dX4_changeValue_14 : decode cX4_changeValue 14 = .ok (.iload_n 3, 1) := by decide +kernel
theorem dX4_changeValue_15 : decode cX4_changeValue 15 = .ok (.ireturn, 1) := by decide +kernel
theorem dX4_burning_0 : decode cX4_burning 0 = .ok (.iconst 0, 1) := by decide +kernel
theorem dX4_burning_1 : decode cX4_burning 1 = .ok (.istore_n 1, 1) := by decide +kernel
theorem dX4_burning_2 : decode cX4_burning 2 = .ok (.iconst 0, 1) := by decide +kernel
theorem dX4_burning_3 : decode cX4_burning 3 = .ok (.istore_n 2, 1) := by decide +kernel
theorem dX4_burning_4 : decode cX4_burning 4 = .ok (.iload_n 2, 1) := by decide +kernel
theorem dX4_burning_5 : decode cX4_burning 5 = .ok (.iconst 4, 1) := by decide +kernel
theorem dX4_burning_6 : decode cX4_burning 6 = .ok (.if_icmp .ge 21, 3) := by decide +kernel
theorem dX4_burning_9 : decode cX4_burning 9 = .ok (.aload_n 0, 1) := by decide +kernel
theorem dX4_burning_10 : decode cX4_burning 10 = .ok (.getfield 15, 3) := by decide +kernel
theorem dX4_burning_13 : decode cX4_burning 13 = .ok (.iload_n 2, 1) := by decide +kernel
theorem dX4_burning_14 : decode cX4_burning 14 = .ok (.iaload, 1) := by decide +kernel
theorem dX4_burning_15 : decode cX4_burning 15 = .ok (.ifCond .le 6, 3) := by decide +kernel
theorem dX4_burning_18 : decode cX4_burning 18 = .ok (.iinc 1 1, 3) := by decide +kernel
theorem dX4_burning_21 : decode cX4_burning 21 = .ok (.iinc 2 1, 3) := by decide +kernel
theorem dX4_burning_24 : decode cX4_burning 24 = .ok (.goto (-20), 3) := by decide +kernel
theorem dX4_burning_27 : decode cX4_burning 27 = .ok (.iload_n 1, 1) := by decide +kernel
theorem dX4_burning_28 : decode cX4_burning 28 = .ok (.ireturn, 1) := by decide +kernel
theorem dX4_share_0 : decode cX4_share 0 = .ok (.iload_n 2, 1) := by decide +kernel
theorem dX4_share_1 : decode cX4_share 1 = .ok (.ifCond .lt 29, 3) := by decide +kernel
theorem dX4_share_4 : decode cX4_share 4 = .ok (.iload_n 2, 1) := by decide +kernel
theorem dX4_share_5 : decode cX4_share 5 = .ok (.bipush 16, 2) := by decide +kernel
theorem dX4_share_7 : decode cX4_share 7 = .ok (.if_icmp .ge 23, 3) := by decide +kernel
theorem dX4_share_10 : decode cX4_share 10 = .ok (.aload_n 0, 1) := by decide +kernel
theorem dX4_share_11 : decode cX4_share 11 = .ok (.getfield 15, 3) := by decide +kernel
theorem dX4_share_14 : decode cX4_share 14 = .ok (.iload_n 1, 1) := by decide +kernel
theorem dX4_share_15 : decode cX4_share 15 = .ok (.iaload, 1) := by decide +kernel
theorem dX4_share_16 : decode cX4_share 16 = .ok (.aload_n 0, 1) := by decide +kernel
theorem dX4_share_17 : decode cX4_share 17 = .ok (.getfield 18, 3) := by decide +kernel
theorem dX4_share_20 : decode cX4_share 20 = .ok (.iload_n 2, 1) := by decide +kernel
theorem dX4_share_21 : decode cX4_share 21 = .ok (.iaload, 1) := by decide +kernel
theorem dX4_share_22 : decode cX4_share 22 = .ok (.imul, 1) := by decide +kernel
theorem dX4_share_23 : decode cX4_share 23 = .ok (.sipush 255, 3) := by decide +kernel
theorem dX4_share_26 : decode cX4_share 26 = .ok (.idiv, 1) := by decide +kernel
theorem dX4_share_27 : decode cX4_share 27 = .ok (.goto 4, 3) := by decide +kernel
theorem dX4_share_30 : decode cX4_share 30 = .ok (.iconst 0, 1) := by decide +kernel
theorem dX4_share_31 : decode cX4_share 31 = .ok (.ireturn, 1) := by decide +kernel
theorem dX4_aim_0 : decode cX4_aim 0 = .ok (.iconst 0, 1) := by decide +kernel
theorem dX4_aim_1 : decode cX4_aim 1 = .ok (.istore 4, 2) := by decide +kernel
theorem dX4_aim_3 : decode cX4_aim 3 = .ok (.iload 4, 2) := by decide +kernel
theorem dX4_aim_5 : decode cX4_aim 5 = .ok (.iconst 3, 1) := by decide +kernel
theorem dX4_aim_6 : decode cX4_aim 6 = .ok (.if_icmp .ge 50, 3) := by decide +kernel
theorem dX4_aim_9 : decode cX4_aim 9 = .ok (.aload_n 0, 1) := by decide +kernel
theorem dX4_aim_10 : decode cX4_aim 10 = .ok (.iload_n 1, 1) := by decide +kernel
theorem dX4_aim_11 : decode cX4_aim 11 = .ok (.iload 4, 2) := by decide +kernel
theorem dX4_aim_13 : decode cX4_aim 13 = .ok (.invokevirtual 31, 3) := by decide +kernel
theorem dX4_aim_16 : decode cX4_aim 16 = .ok (.i2l, 1) := by decide +kernel
theorem dX4_aim_17 : decode cX4_aim 17 = .ok (.lstore 5, 2) := by decide +kernel
theorem dX4_aim_19 : decode cX4_aim 19 = .ok (.aload_n 3, 1) := by decide +kernel
theorem dX4_aim_20 : decode cX4_aim 20 = .ok (.getfield 32, 3) := by decide +kernel
theorem dX4_aim_23 : decode cX4_aim 23 = .ok (.iload 4, 2) := by decide +kernel
theorem dX4_aim_25 : decode cX4_aim 25 = .ok (.lload 5, 2) := by decide +kernel
theorem dX4_aim_27 : decode cX4_aim 27 = .ok (.lastore, 1) := by decide +kernel
theorem dX4_aim_28 : decode cX4_aim 28 = .ok (.aload_n 3, 1) := by decide +kernel
theorem dX4_aim_29 : decode cX4_aim 29 = .ok (.getfield 38, 3) := by decide +kernel
theorem dX4_aim_32 : decode cX4_aim 32 = .ok (.iload 4, 2) := by decide +kernel
theorem dX4_aim_34 : decode cX4_aim 34 = .ok (.aload_n 2, 1) := by decide +kernel
theorem dX4_aim_35 : decode cX4_aim 35 = .ok (.getfield 41, 3) := by decide +kernel
theorem dX4_aim_38 : decode cX4_aim 38 = .ok (.iload 4, 2) := by decide +kernel
theorem dX4_aim_40 : decode cX4_aim 40 = .ok (.laload, 1) := by decide +kernel
theorem dX4_aim_41 : decode cX4_aim 41 = .ok (.lload 5, 2) := by decide +kernel
theorem dX4_aim_43 : decode cX4_aim 43 = .ok (.aload_n 2, 1) := by decide +kernel
theorem dX4_aim_44 : decode cX4_aim 44 = .ok (.invokevirtual 46, 3) := by decide +kernel
theorem dX4_aim_47 : decode cX4_aim 47 = .ok (.lmul, 1) := by decide +kernel
theorem dX4_aim_48 : decode cX4_aim 48 = .ok (.lsub, 1) := by decide +kernel
theorem dX4_aim_49 : decode cX4_aim 49 = .ok (.lastore, 1) := by decide +kernel
theorem dX4_aim_50 : decode cX4_aim 50 = .ok (.iinc 4 1, 3) := by decide +kernel
theorem dX4_aim_53 : decode cX4_aim 53 = .ok (.goto (-50), 3) := by decide +kernel
theorem dX4_aim_56 : decode cX4_aim 56 = .ok (.return_, 1) := by decide +kernel
