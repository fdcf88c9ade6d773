theorem dX10_init_0 : decode cX10_init 0 = .ok (.aload_n 0, 1) := by decide +kernel
theorem dX10_init_1 : decode cX10_init 1 = .ok (.invokespecial 3, 3) := by decide +kernel
theorem dX10_init_4 : decode cX10_init 4 = .ok (.aload_n 0, 1) := by decide +kernel
theorem dX10_init_5 : decode cX10_init 5 = .ok (.iconst 5, 1) := by decide +kernel
theorem dX10_init_6 : decode cX10_init 6 = .ok (.newarray .long, 2) := by decide +kernel
theorem dX10_init_8 : decode cX10_init 8 = .ok (.putfield 9, 3) := by decide +kernel
theorem dX10_init_11 : decode cX10_init 11 = .ok (.return_, 1) := by decide +kernel
theorem dX10_put_0 : decode cX10_put 0 = .ok (.lload_n 1, 1) := by decide +kernel
theorem dX10_put_1 : decode cX10_put 1 = .ok (.lstore_n 3, 1) := by decide +kernel
theorem dX10_put_2 : decode cX10_put 2 = .ok (.iconst 0, 1) := by decide +kernel
theorem dX10_put_3 : decode cX10_put 3 = .ok (.istore 5, 2) := by decide +kernel
theorem dX10_put_5 : decode cX10_put 5 = .ok (.iload 5, 2) := by decide +kernel
theorem dX10_put_7 : decode cX10_put 7 = .ok (.iconst 5, 1) := by decide +kernel
theorem dX10_put_8 : decode cX10_put 8 = .ok (.if_icmp .ge 26, 3) := by decide +kernel
theorem dX10_put_11 : decode cX10_put 11 = .ok (.aload_n 0, 1) := by decide +kernel
theorem dX10_put_12 : decode cX10_put 12 = .ok (.getfield 9, 3) := by decide +kernel
theorem dX10_put_15 : decode cX10_put 15 = .ok (.iload 5, 2) := by decide +kernel
theorem dX10_put_17 : decode cX10_put 17 = .ok (.lload_n 3, 1) := by decide +kernel
theorem dX10_put_18 : decode cX10_put 18 = .ok (.ldc2_w 13, 3) := by decide +kernel
theorem dX10_put_21 : decode cX10_put 21 = .ok (.land, 1) := by decide +kernel
theorem dX10_put_22 : decode cX10_put 22 = .ok (.lastore, 1) := by decide +kernel
theorem dX10_put_23 : decode cX10_put 23 = .ok (.lload_n 3, 1) := by decide +kernel
theorem dX10_put_24 : decode cX10_put 24 = .ok (.bipush 30, 2) := by decide +kernel
theorem dX10_put_26 : decode cX10_put 26 = .ok (.lshr, 1) := by decide +kernel
theorem dX10_put_27 : decode cX10_put 27 = .ok (.lstore_n 3, 1) := by decide +kernel
theorem dX10_put_28 : decode cX10_put 28 = .ok (.iinc 5 1, 3) := by decide +kernel
theorem dX10_put_31 : decode cX10_put 31 = .ok (.goto (-26), 3) := by decide +kernel
theorem dX10_put_34 : decode cX10_put 34 = .ok (.return_, 1) := by decide +kernel
theorem dX10_add_0 : decode cX10_add 0 = .ok (.lconst 0, 1) := by decide +kernel
theorem dX10_add_1 : decode cX10_add 1 = .ok (.lstore_n 2, 1) := by decide +kernel
theorem dX10_add_2 : decode cX10_add 2 = .ok (.iconst 0, 1) := by decide +kernel
theorem dX10_add_3 : decode cX10_add 3 = .ok (.istore 4, 2) := by decide +kernel
theorem dX10_add_5 : decode cX10_add 5 = .ok (.iload 4, 2) := by decide +kernel
theorem dX10_add_7 : decode cX10_add 7 = .ok (.iconst 5, 1) := by decide +kernel
theorem dX10_add_8 : decode cX10_add 8 = .ok (.if_icmp .ge 44, 3) := by decide +kernel
theorem dX10_add_11 : decode cX10_add 11 = .ok (.lload_n 2, 1) := by decide +kernel
theorem dX10_add_12 : decode cX10_add 12 = .ok (.aload_n 0, 1) := by decide +kernel
theorem dX10_add_13 : decode cX10_add 13 = .ok (.getfield 9, 3) := by decide +kernel
theorem dX10_add_16 : decode cX10_add 16 = .ok (.iload 4, 2) := by decide +kernel
theorem dX10_add_18 : decode cX10_add 18 = .ok (.laload, 1) := by decide +kernel
theorem dX10_add_19 : decode cX10_add 19 = .ok (.aload_n 1, 1) := by decide +kernel
theorem dX10_add_20 : decode cX10_add 20 = .ok (.getfield 9, 3) := by decide +kernel
theorem dX10_add_23 : decode cX10_add 23 = .ok (.iload 4, 2) := by decide +kernel
theorem dX10_add_25 : decode cX10_add 25 = .ok (.laload, 1) := by decide +kernel
theorem dX10_add_26 : decode cX10_add 26 = .ok (.ladd, 1) := by decide +kernel
theorem dX10_add_27 : decode cX10_add 27 = .ok (.ladd, 1) := by decide +kernel
theorem dX10_add_28 : decode cX10_add 28 = .ok (.lstore_n 2, 1) := by decide +kernel
theorem dX10_add_29 : decode cX10_add 29 = .ok (.aload_n 0, 1) := by decide +kernel
theorem dX10_add_30 : decode cX10_add 30 = .ok (.getfield 9, 3) := by decide +kernel
theorem dX10_add_33 : decode cX10_add 33 = .ok (.iload 4, 2) := by decide +kernel
theorem dX10_add_35 : decode cX10_add 35 = .ok (.lload_n 2, 1) := by decide +kernel
theorem dX10_add_36 : decode cX10_add 36 = .ok (.ldc2_w 13, 3) := by decide +kernel
theorem dX10_add_39 : decode cX10_add 39 = .ok (.land, 1) := by decide +kernel
theorem dX10_add_40 : decode cX10_add 40 = .ok (.lastore, 1) := by decide +kernel
theorem dX10_add_41 : decode cX10_add 41 = .ok (.lload_n 2, 1) := by decide +kernel
theorem dX10_add_42 : decode cX10_add 42 = .ok (.bipush 30, 2) := by decide +kernel
theorem dX10_add_44 : decode cX10_add 44 = .ok (.lshr, 1) := by decide +kernel
theorem dX10_add_45 : decode cX10_add 45 = .ok (.lstore_n 2, 1) := by decide +kernel
theorem dX10_add_46 : decode cX10_add 46 = .ok (.iinc 4 1, 3) := by decide +kernel
theorem dX10_add_49 : decode cX10_add 49 = .ok (.goto (-44), 3) := by decide +kernel
theorem dX10_add_52 : decode cX10_add 52 = .ok (.return_, 1) := by decide +kernel
theorem dX10_putProduct_0 : decode cX10_putProduct 0 = .ok (.lconst 0, 1) := by decide +kernel
theorem dX10_putProduct_1 : decode cX10_putProduct 1 = .ok (.lstore_n 3, 1) := by decide +kernel
theorem dX10_putProduct_2 : decode cX10_putProduct 2 = .ok (.iconst 0, 1) := by decide +kernel
theorem dX10_putProduct_3 : decode cX10_putProduct 3 = .ok (.istore 5, 2) := by decide +kernel
theorem dX10_putProduct_5 : decode cX10_putProduct 5 = .ok (.iload 5, 2) := by decide +kernel
theorem dX10_putProduct_7 : decode cX10_putProduct 7 = .ok (.iconst 5, 1) := by decide +kernel
theorem dX10_putProduct_8 : decode cX10_putProduct 8 = .ok (.if_icmp .ge 63, 3) := by decide +kernel
theorem dX10_putProduct_11 : decode cX10_putProduct 11 = .ok (.iconst 0, 1) := by decide +kernel
theorem dX10_putProduct_12 : decode cX10_putProduct 12 = .ok (.istore 6, 2) := by decide +kernel
theorem dX10_putProduct_14 : decode cX10_putProduct 14 = .ok (.iload 6, 2) := by decide +kernel
theorem dX10_putProduct_16 : decode cX10_putProduct 16 = .ok (.iload 5, 2) := by decide +kernel
theorem dX10_putProduct_18 : decode cX10_putProduct 18 = .ok (.if_icmp .gt 30, 3) := by decide +kernel
theorem dX10_putProduct_21 : decode cX10_putProduct 21 = .ok (.lload_n 3, 1) := by decide +kernel
theorem dX10_putProduct_22 : decode cX10_putProduct 22 = .ok (.aload_n 1, 1) := by decide +kernel
theorem dX10_putProduct_23 : decode cX10_putProduct 23 = .ok (.getfield 9, 3) := by decide +kernel
theorem dX10_putProduct_26 : decode cX10_putProduct 26 = .ok (.iload 6, 2) := by decide +kernel
theorem dX10_putProduct_28 : decode cX10_putProduct 28 = .ok (.laload, 1) := by decide +kernel
theorem dX10_putProduct_29 : decode cX10_putProduct 29 = .ok (.aload_n 2, 1) := by decide +kernel
theorem dX10_putProduct_30 : decode cX10_putProduct 30 = .ok (.getfield 9, 3) := by decide +kernel
theorem dX10_putProduct_33 : decode cX10_putProduct 33 = .ok (.iload 5, 2) := by decide +kernel
theorem dX10_putProduct_35 : decode cX10_putProduct 35 = .ok (.iload 6, 2) := by decide +kernel
theorem dX10_putProduct_37 : decode cX10_putProduct 37 = .ok (.isub, 1) := by decide +kernel
theorem dX10_putProduct_38 : decode cX10_putProduct 38 = .ok (.laload, 1) := by decide +kernel
theorem dX10_putProduct_39 : decode cX10_putProduct 39 = .ok (.lmul, 1) := by decide +kernel
theorem dX10_putProduct_40 : decode cX10_putProduct 40 = .ok (.ladd, 1) := by decide +kernel
theorem dX10_putProduct_41 : decode cX10_putProduct 41 = .ok (.lstore_n 3, 1) := by decide +kernel
theorem dX10_putProduct_42 : decode cX10_putProduct 42 = .ok (.iinc 6 1, 3) := by decide +kernel
theorem dX10_putProduct_45 : decode cX10_putProduct 45 = .ok (.goto (-31), 3) := by decide +kernel
theorem dX10_putProduct_48 : decode cX10_putProduct 48 = .ok (.aload_n 0, 1) := by decide +kernel
theorem dX10_putProduct_49 : decode cX10_putProduct 49 = .ok (.getfield 9, 3) := by decide +kernel
theorem dX10_putProduct_52 : decode cX10_putProduct 52 = .ok (.iload 5, 2) := by decide +kernel
theorem dX10_putProduct_54 : decode cX10_putProduct 54 = .ok (.lload_n 3, 1) := by decide +kernel
theorem dX10_putProduct_55 : decode cX10_putProduct 55 = .ok (.ldc2_w 13, 3) := by decide +kernel
theorem dX10_putProduct_58 : decode cX10_putProduct 58 = .ok (.land, 1) := by decide +kernel
theorem dX10_putProduct_59 : decode cX10_putProduct 59 = .ok (.lastore, 1) := by decide +kernel
theorem dX10_putProduct_60 : decode cX10_putProduct 60 = .ok (.lload_n 3, 1) := by decide +kernel
theorem dX10_putProduct_61 : decode cX10_putProduct 61 = .ok (.bipush 30, 2) := by decide +kernel
theorem dX10_putProduct_63 : decode cX10_putProduct 63 = .ok (.lshr, 1) := by decide +kernel
theorem dX10_putProduct_64 : decode cX10_putProduct 64 = .ok (.lstore_n 3, 1) := by decide +kernel
theorem dX10_putProduct_65 : decode cX10_putProduct 65 = .ok (.iinc 5 1, 3) := by decide +kernel
theorem dX10_putProduct_68 : decode cX10_putProduct 68 = .ok (.goto (-63), 3) := by decide +kernel
theorem dX10_putProduct_71 : decode cX10_putProduct 71 = .ok (.return_, 1) := by decide +kernel
theorem dX10_isAtLeast_0 : decode cX10_isAtLeast 0 = .ok (.iconst 4, 1) := by decide +kernel
theorem dX10_isAtLeast_1 : decode cX10_isAtLeast 1 = .ok (.istore_n 2, 1) := by decide +kernel
theorem dX10_isAtLeast_2 : decode cX10_isAtLeast 2 = .ok (.iload_n 2, 1) := by decide +kernel
theorem dX10_isAtLeast_3 : decode cX10_isAtLeast 3 = .ok (.ifCond .lt 47, 3) := by decide +kernel
theorem dX10_isAtLeast_6 : decode cX10_isAtLeast 6 = .ok (.aload_n 0, 1) := by decide +kernel
theorem dX10_isAtLeast_7 : decode cX10_isAtLeast 7 = .ok (.getfield 9, 3) := by decide +kernel
theorem dX10_isAtLeast_10 : decode cX10_isAtLeast 10 = .ok (.iload_n 2, 1) := by decide +kernel
theorem dX10_isAtLeast_11 : decode cX10_isAtLeast 11 = .ok (.laload, 1) := by decide +kernel
theorem dX10_isAtLeast_12 : decode cX10_isAtLeast 12 = .ok (.aload_n 1, 1) := by decide +kernel
theorem dX10_isAtLeast_13 : decode cX10_isAtLeast 13 = .ok (.getfield 9, 3) := by decide +kernel
theorem dX10_isAtLeast_16 : decode cX10_isAtLeast 16 = .ok (.iload_n 2, 1) := by decide +kernel
theorem dX10_isAtLeast_17 : decode cX10_isAtLeast 17 = .ok (.laload, 1) := by decide +kernel
theorem dX10_isAtLeast_18 : decode cX10_isAtLeast 18 = .ok (.lcmp, 1) := by decide +kernel
theorem dX10_isAtLeast_19 : decode cX10_isAtLeast 19 = .ok (.ifCond .eq 25, 3) := by decide +kernel
theorem dX10_isAtLeast_22 : decode cX10_isAtLeast 22 = .ok (.aload_n 0, 1) := by decide +kernel
theorem dX10_isAtLeast_23 : decode cX10_isAtLeast 23 = .ok (.getfield 9, 3) := by decide +kernel
theorem dX10_isAtLeast_26 : decode cX10_isAtLeast 26 = .ok (.iload_n 2, 1) := by decide +kernel
theorem dX10_isAtLeast_27 : decode cX10_isAtLeast 27 = .ok (.laload, 1) := by decide +kernel
theorem dX10_isAtLeast_28 : decode cX10_isAtLeast 28 = .ok (.aload_n 1, 1) := by decide +kernel
theorem dX10_isAtLeast_29 : decode cX10_isAtLeast 29 = .ok (.getfield 9, 3) := by decide +kernel
theorem dX10_isAtLeast_32 : decode cX10_isAtLeast 32 = .ok (.iload_n 2, 1) := by decide +kernel
theorem dX10_isAtLeast_33 : decode cX10_isAtLeast 33 = .ok (.laload, 1) := by decide +kernel
theorem dX10_isAtLeast_34 : decode cX10_isAtLeast 34 = .ok (.lcmp, 1) := by decide +kernel
theorem dX10_isAtLeast_35 : decode cX10_isAtLeast 35 = .ok (.ifCond .le 7, 3) := by decide +kernel
theorem dX10_isAtLeast_38 : decode cX10_isAtLeast 38 = .ok (.iconst 1, 1) := by decide +kernel
theorem dX10_isAtLeast_39 : decode cX10_isAtLeast 39 = .ok (.goto 4, 3) := by decide +kernel
theorem dX10_isAtLeast_42 : decode cX10_isAtLeast 42 = .ok (.iconst 0, 1) := by decide +kernel
theorem dX10_isAtLeast_43 : decode cX10_isAtLeast 43 = .ok (.ireturn, 1) := by decide +kernel
theorem dX10_isAtLeast_44 : decode cX10_isAtLeast 44 = .ok (.iinc 2 (-1), 3) := by decide +kernel
theorem dX10_isAtLeast_47 : decode cX10_isAtLeast 47 = .ok (.goto (-45), 3) := by decide +kernel
theorem dX10_isAtLeast_50 : decode cX10_isAtLeast 50 = .ok (.iconst 1, 1) := by decide +kernel
theorem dX10_isAtLeast_51 : decode cX10_isAtLeast 51 = .ok (.ireturn, 1) := by decide +kernel
