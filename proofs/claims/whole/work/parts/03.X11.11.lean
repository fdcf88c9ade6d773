theorem dX11_init_0 : decode cX11_init 0 = .ok (.aload_n 0, 1) := by decide +kernel
theorem dX11_init_1 : decode cX11_init 1 = .ok (.invokespecial 3, 3) := by decide +kernel
theorem dX11_init_4 : decode cX11_init 4 = .ok (.aload_n 0, 1) := by decide +kernel
theorem dX11_init_5 : decode cX11_init 5 = .ok (.new 9, 3) := by decide +kernel
theorem dX11_init_8 : decode cX11_init 8 = .ok (.dup, 1) := by decide +kernel
theorem dX11_init_9 : decode cX11_init 9 = .ok (.invokespecial 11, 3) := by decide +kernel
theorem dX11_init_12 : decode cX11_init 12 = .ok (.putfield 12, 3) := by decide +kernel
theorem dX11_init_15 : decode cX11_init 15 = .ok (.aload_n 0, 1) := by decide +kernel
theorem dX11_init_16 : decode cX11_init 16 = .ok (.new 16, 3) := by decide +kernel
theorem dX11_init_19 : decode cX11_init 19 = .ok (.dup, 1) := by decide +kernel
theorem dX11_init_20 : decode cX11_init 20 = .ok (.invokespecial 18, 3) := by decide +kernel
theorem dX11_init_23 : decode cX11_init 23 = .ok (.putfield 19, 3) := by decide +kernel
theorem dX11_init_26 : decode cX11_init 26 = .ok (.aload_n 0, 1) := by decide +kernel
theorem dX11_init_27 : decode cX11_init 27 = .ok (.new 23, 3) := by decide +kernel
theorem dX11_init_30 : decode cX11_init 30 = .ok (.dup, 1) := by decide +kernel
theorem dX11_init_31 : decode cX11_init 31 = .ok (.invokespecial 25, 3) := by decide +kernel
theorem dX11_init_34 : decode cX11_init 34 = .ok (.putfield 26, 3) := by decide +kernel
theorem dX11_init_37 : decode cX11_init 37 = .ok (.aload_n 0, 1) := by decide +kernel
theorem dX11_init_38 : decode cX11_init 38 = .ok (.new 30, 3) := by decide +kernel
theorem dX11_init_41 : decode cX11_init 41 = .ok (.dup, 1) := by decide +kernel
theorem dX11_init_42 : decode cX11_init 42 = .ok (.invokespecial 32, 3) := by decide +kernel
theorem dX11_init_45 : decode cX11_init 45 = .ok (.putfield 33, 3) := by decide +kernel
theorem dX11_init_48 : decode cX11_init 48 = .ok (.aload_n 0, 1) := by decide +kernel
theorem dX11_init_49 : decode cX11_init 49 = .ok (.new 37, 3) := by decide +kernel
theorem dX11_init_52 : decode cX11_init 52 = .ok (.dup, 1) := by decide +kernel
theorem dX11_init_53 : decode cX11_init 53 = .ok (.invokespecial 39, 3) := by decide +kernel
theorem dX11_init_56 : decode cX11_init 56 = .ok (.putfield 40, 3) := by decide +kernel
theorem dX11_init_59 : decode cX11_init 59 = .ok (.aload_n 0, 1) := by decide +kernel
theorem dX11_init_60 : decode cX11_init 60 = .ok (.new 44, 3) := by decide +kernel
theorem dX11_init_63 : decode cX11_init 63 = .ok (.dup, 1) := by decide +kernel
theorem dX11_init_64 : decode cX11_init 64 = .ok (.invokespecial 46, 3) := by decide +kernel
theorem dX11_init_67 : decode cX11_init 67 = .ok (.putfield 47, 3) := by decide +kernel
theorem dX11_init_70 : decode cX11_init 70 = .ok (.aload_n 0, 1) := by decide +kernel
theorem dX11_init_71 : decode cX11_init 71 = .ok (.new 51, 3) := by decide +kernel
theorem dX11_init_74 : decode cX11_init 74 = .ok (.dup, 1) := by decide +kernel
theorem dX11_init_75 : decode cX11_init 75 = .ok (.invokespecial 53, 3) := by decide +kernel
theorem dX11_init_78 : decode cX11_init 78 = .ok (.putfield 54, 3) := by decide +kernel
theorem dX11_init_81 : decode cX11_init 81 = .ok (.aload_n 0, 1) := by decide +kernel
theorem dX11_init_82 : decode cX11_init 82 = .ok (.new 51, 3) := by decide +kernel
theorem dX11_init_85 : decode cX11_init 85 = .ok (.dup, 1) := by decide +kernel
theorem dX11_init_86 : decode cX11_init 86 = .ok (.invokespecial 53, 3) := by decide +kernel
theorem dX11_init_89 : decode cX11_init 89 = .ok (.putfield 58, 3) := by decide +kernel
theorem dX11_init_92 : decode cX11_init 92 = .ok (.aload_n 0, 1) := by decide +kernel
theorem dX11_init_93 : decode cX11_init 93 = .ok (.new 61, 3) := by decide +kernel
theorem dX11_init_96 : decode cX11_init 96 = .ok (.dup, 1) := by decide +kernel
theorem dX11_init_97 : decode cX11_init 97 = .ok (.invokespecial 63, 3) := by decide +kernel
theorem dX11_init_100 : decode cX11_init 100 = .ok (.putfield 64, 3) := by decide +kernel
theorem dX11_init_103 : decode cX11_init 103 = .ok (.aload_n 0, 1) := by decide +kernel
theorem dX11_init_104 : decode cX11_init 104 = .ok (.new 61, 3) := by decide +kernel
theorem dX11_init_107 : decode cX11_init 107 = .ok (.dup, 1) := by decide +kernel
theorem dX11_init_108 : decode cX11_init 108 = .ok (.invokespecial 63, 3) := by decide +kernel
theorem dX11_init_111 : decode cX11_init 111 = .ok (.putfield 68, 3) := by decide +kernel
theorem dX11_init_114 : decode cX11_init 114 = .ok (.aload_n 0, 1) := by decide +kernel
theorem dX11_init_115 : decode cX11_init 115 = .ok (.new 71, 3) := by decide +kernel
theorem dX11_init_118 : decode cX11_init 118 = .ok (.dup, 1) := by decide +kernel
theorem dX11_init_119 : decode cX11_init 119 = .ok (.invokespecial 73, 3) := by decide +kernel
theorem dX11_init_122 : decode cX11_init 122 = .ok (.putfield 74, 3) := by decide +kernel
theorem dX11_init_125 : decode cX11_init 125 = .ok (.aload_n 0, 1) := by decide +kernel
theorem dX11_init_126 : decode cX11_init 126 = .ok (.new 78, 3) := by decide +kernel
theorem dX11_init_129 : decode cX11_init 129 = .ok (.dup, 1) := by decide +kernel
theorem dX11_init_130 : decode cX11_init 130 = .ok (.invokespecial 80, 3) := by decide +kernel
theorem dX11_init_133 : decode cX11_init 133 = .ok (.putfield 81, 3) := by decide +kernel
theorem dX11_init_136 : decode cX11_init 136 = .ok (.aload_n 0, 1) := by decide +kernel
theorem dX11_init_137 : decode cX11_init 137 = .ok (.sipush 128, 3) := by decide +kernel
theorem dX11_init_140 : decode cX11_init 140 = .ok (.newarray .boolean, 2) := by decide +kernel
theorem dX11_init_142 : decode cX11_init 142 = .ok (.putfield 85, 3) := by decide +kernel
theorem dX11_init_145 : decode cX11_init 145 = .ok (.aload_n 0, 1) := by decide +kernel
theorem dX11_init_146 : decode cX11_init 146 = .ok (.iconst 0, 1) := by decide +kernel
theorem dX11_init_147 : decode cX11_init 147 = .ok (.putfield 89, 3) := by decide +kernel
theorem dX11_init_150 : decode cX11_init 150 = .ok (.return_, 1) := by decide +kernel
theorem dX11_point_0 : decode cX11_point 0 = .ok (.aload_n 0, 1) := by decide +kernel
theorem dX11_point_1 : decode cX11_point 1 = .ok (.getfield 12, 3) := by decide +kernel
theorem dX11_point_4 : decode cX11_point 4 = .ok (.iload_n 1, 1) := by decide +kernel
theorem dX11_point_5 : decode cX11_point 5 = .ok (.iload_n 2, 1) := by decide +kernel
theorem dX11_point_6 : decode cX11_point 6 = .ok (.iload_n 3, 1) := by decide +kernel
theorem dX11_point_7 : decode cX11_point 7 = .ok (.invokevirtual 93, 3) := by decide +kernel
theorem dX11_point_10 : decode cX11_point 10 = .ok (.ifCond .eq 13, 3) := by decide +kernel
theorem dX11_point_13 : decode cX11_point 13 = .ok (.aload_n 0, 1) := by decide +kernel
theorem dX11_point_14 : decode cX11_point 14 = .ok (.getfield 12, 3) := by decide +kernel
theorem dX11_point_17 : decode cX11_point 17 = .ok (.invokevirtual 97, 3) := by decide +kernel
theorem dX11_point_20 : decode cX11_point 20 = .ok (.goto 4, 3) := by decide +kernel
theorem dX11_point_23 : decode cX11_point 23 = .ok (.iconst (-1), 1) := by decide +kernel
theorem dX11_point_24 : decode cX11_point 24 = .ok (.ireturn, 1) := by decide +kernel
theorem dX11_triangle_0 : decode cX11_triangle 0 = .ok (.aload_n 0, 1) := by decide +kernel
theorem dX11_triangle_1 : decode cX11_triangle 1 = .ok (.getfield 12, 3) := by decide +kernel
theorem dX11_triangle_4 : decode cX11_triangle 4 = .ok (.invokevirtual 97, 3) := by decide +kernel
theorem dX11_triangle_7 : decode cX11_triangle 7 = .ok (.iconst 3, 1) := by decide +kernel
theorem dX11_triangle_8 : decode cX11_triangle 8 = .ok (.if_icmp .eq 5, 3) := by decide +kernel
theorem dX11_triangle_11 : decode cX11_triangle 11 = .ok (.iconst (-1), 1) := by decide +kernel
theorem dX11_triangle_12 : decode cX11_triangle 12 = .ok (.ireturn, 1) := by decide +kernel
theorem dX11_triangle_13 : decode cX11_triangle 13 = .ok (.iload_n 1, 1) := by decide +kernel
theorem dX11_triangle_14 : decode cX11_triangle 14 = .ok (.invokestatic 101, 3) := by decide +kernel
theorem dX11_triangle_17 : decode cX11_triangle 17 = .ok (.ifCond .eq 18, 3) := by decide +kernel
theorem dX11_triangle_20 : decode cX11_triangle 20 = .ok (.aload_n 0, 1) := by decide +kernel
theorem dX11_triangle_21 : decode cX11_triangle 21 = .ok (.getfield 19, 3) := by decide +kernel
theorem dX11_triangle_24 : decode cX11_triangle 24 = .ok (.aload_n 0, 1) := by decide +kernel
theorem dX11_triangle_25 : decode cX11_triangle 25 = .ok (.getfield 12, 3) := by decide +kernel
theorem dX11_triangle_28 : decode cX11_triangle 28 = .ok (.iload_n 1, 1) := by decide +kernel
theorem dX11_triangle_29 : decode cX11_triangle 29 = .ok (.invokevirtual 105, 3) := by decide +kernel
theorem dX11_triangle_32 : decode cX11_triangle 32 = .ok (.goto 4, 3) := by decide +kernel
theorem dX11_triangle_35 : decode cX11_triangle 35 = .ok (.iconst (-1), 1) := by decide +kernel
theorem dX11_triangle_36 : decode cX11_triangle 36 = .ok (.istore_n 2, 1) := by decide +kernel
theorem dX11_triangle_37 : decode cX11_triangle 37 = .ok (.aload_n 0, 1) := by decide +kernel
theorem dX11_triangle_38 : decode cX11_triangle 38 = .ok (.getfield 12, 3) := by decide +kernel
theorem dX11_triangle_41 : decode cX11_triangle 41 = .ok (.invokevirtual 109, 3) := by decide +kernel
theorem dX11_triangle_44 : decode cX11_triangle 44 = .ok (.iload_n 2, 1) := by decide +kernel
theorem dX11_triangle_45 : decode cX11_triangle 45 = .ok (.ifCond .lt 10, 3) := by decide +kernel
theorem dX11_triangle_48 : decode cX11_triangle 48 = .ok (.aload_n 0, 1) := by decide +kernel
theorem dX11_triangle_49 : decode cX11_triangle 49 = .ok (.getfield 40, 3) := by decide +kernel
theorem dX11_triangle_52 : decode cX11_triangle 52 = .ok (.invokevirtual 112, 3) := by decide +kernel
theorem dX11_triangle_55 : decode cX11_triangle 55 = .ok (.iload_n 2, 1) := by decide +kernel
theorem dX11_triangle_56 : decode cX11_triangle 56 = .ok (.ireturn, 1) := by decide +kernel
theorem dX11_move_0 : decode cX11_move 0 = .ok (.aload_n 0, 1) := by decide +kernel
theorem dX11_move_1 : decode cX11_move 1 = .ok (.getfield 19, 3) := by decide +kernel
theorem dX11_move_4 : decode cX11_move 4 = .ok (.iload_n 1, 1) := by decide +kernel
theorem dX11_move_5 : decode cX11_move 5 = .ok (.invokevirtual 113, 3) := by decide +kernel
theorem dX11_move_8 : decode cX11_move 8 = .ok (.ifCond .eq 23, 3) := by decide +kernel
theorem dX11_move_11 : decode cX11_move 11 = .ok (.iload_n 2, 1) := by decide +kernel
theorem dX11_move_12 : decode cX11_move 12 = .ok (.ifCond .lt 19, 3) := by decide +kernel
theorem dX11_move_15 : decode cX11_move 15 = .ok (.iload_n 2, 1) := by decide +kernel
theorem dX11_move_16 : decode cX11_move 16 = .ok (.iconst 2, 1) := by decide +kernel
theorem dX11_move_17 : decode cX11_move 17 = .ok (.if_icmp .gt 14, 3) := by decide +kernel
theorem dX11_move_20 : decode cX11_move 20 = .ok (.aload_n 0, 1) := by decide +kernel
theorem dX11_move_21 : decode cX11_move 21 = .ok (.getfield 12, 3) := by decide +kernel
theorem dX11_move_24 : decode cX11_move 24 = .ok (.invokevirtual 97, 3) := by decide +kernel
theorem dX11_move_27 : decode cX11_move 27 = .ok (.iconst 1, 1) := by decide +kernel
theorem dX11_move_28 : decode cX11_move 28 = .ok (.if_icmp .eq 5, 3) := by decide +kernel
theorem dX11_move_31 : decode cX11_move 31 = .ok (.iconst (-1), 1) := by decide +kernel
theorem dX11_move_32 : decode cX11_move 32 = .ok (.ireturn, 1) := by decide +kernel
theorem dX11_move_33 : decode cX11_move 33 = .ok (.aload_n 0, 1) := by decide +kernel
theorem dX11_move_34 : decode cX11_move 34 = .ok (.getfield 19, 3) := by decide +kernel
theorem dX11_move_37 : decode cX11_move 37 = .ok (.iload_n 1, 1) := by decide +kernel
theorem dX11_move_38 : decode cX11_move 38 = .ok (.iload_n 2, 1) := by decide +kernel
theorem dX11_move_39 : decode cX11_move 39 = .ok (.aload_n 0, 1) := by decide +kernel
theorem dX11_move_40 : decode cX11_move 40 = .ok (.getfield 12, 3) := by decide +kernel
theorem dX11_move_43 : decode cX11_move 43 = .ok (.invokevirtual 116, 3) := by decide +kernel
theorem dX11_move_46 : decode cX11_move 46 = .ok (.istore_n 3, 1) := by decide +kernel
theorem dX11_move_47 : decode cX11_move 47 = .ok (.aload_n 0, 1) := by decide +kernel
theorem dX11_move_48 : decode cX11_move 48 = .ok (.getfield 12, 3) := by decide +kernel
theorem dX11_move_51 : decode cX11_move 51 = .ok (.invokevirtual 109, 3) := by decide +kernel
theorem dX11_move_54 : decode cX11_move 54 = .ok (.iload_n 3, 1) := by decide +kernel
theorem dX11_move_55 : decode cX11_move 55 = .ok (.ifCond .eq 7, 3) := by decide +kernel
theorem dX11_move_58 : decode cX11_move 58 = .ok (.iconst 0, 1) := by decide +kernel
theorem dX11_move_59 : decode cX11_move 59 = .ok (.goto 5, 3) := by decide +kernel
theorem dX11_move_62 : decode cX11_move 62 = .ok (.bipush (-2), 2) := by decide +kernel
theorem dX11_move_64 : decode cX11_move 64 = .ok (.ireturn, 1) := by decide +kernel
theorem dX11_drop_0 : decode cX11_drop 0 = .ok (.aload_n 0, 1) := by decide +kernel
theorem dX11_drop_1 : decode cX11_drop 1 = .ok (.getfield 12, 3) := by decide +kernel
theorem dX11_drop_4 : decode cX11_drop 4 = .ok (.invokevirtual 97, 3) := by decide +kernel
theorem dX11_drop_7 : decode cX11_drop 7 = .ok (.istore_n 1, 1) := by decide +kernel
theorem dX11_drop_8 : decode cX11_drop 8 = .ok (.aload_n 0, 1) := by decide +kernel
theorem dX11_drop_9 : decode cX11_drop 9 = .ok (.getfield 12, 3) := by decide +kernel
theorem dX11_drop_12 : decode cX11_drop 12 = .ok (.invokevirtual 109, 3) := by decide +kernel
theorem dX11_drop_15 : decode cX11_drop 15 = .ok (.iload_n 1, 1) := by decide +kernel
theorem dX11_drop_16 : decode cX11_drop 16 = .ok (.ireturn, 1) := by decide +kernel
theorem dX11_eye_0 : decode cX11_eye 0 = .ok (.aload_n 0, 1) := by decide +kernel
theorem dX11_eye_1 : decode cX11_eye 1 = .ok (.getfield 12, 3) := by decide +kernel
theorem dX11_eye_4 : decode cX11_eye 4 = .ok (.invokevirtual 97, 3) := by decide +kernel
theorem dX11_eye_7 : decode cX11_eye 7 = .ok (.iconst 1, 1) := by decide +kernel
theorem dX11_eye_8 : decode cX11_eye 8 = .ok (.if_icmp .eq 5, 3) := by decide +kernel
theorem dX11_eye_11 : decode cX11_eye 11 = .ok (.iconst (-1), 1) := by decide +kernel
theorem dX11_eye_12 : decode cX11_eye 12 = .ok (.ireturn, 1) := by decide +kernel
theorem dX11_eye_13 : decode cX11_eye 13 = .ok (.aload_n 0, 1) := by decide +kernel
theorem dX11_eye_14 : decode cX11_eye 14 = .ok (.getfield 26, 3) := by decide +kernel
theorem dX11_eye_17 : decode cX11_eye 17 = .ok (.aload_n 0, 1) := by decide +kernel
theorem dX11_eye_18 : decode cX11_eye 18 = .ok (.getfield 12, 3) := by decide +kernel
theorem dX11_eye_21 : decode cX11_eye 21 = .ok (.invokevirtual 120, 3) := by decide +kernel
theorem dX11_eye_24 : decode cX11_eye 24 = .ok (.aload_n 0, 1) := by decide +kernel
theorem dX11_eye_25 : decode cX11_eye 25 = .ok (.getfield 12, 3) := by decide +kernel
theorem dX11_eye_28 : decode cX11_eye 28 = .ok (.invokevirtual 109, 3) := by decide +kernel
theorem dX11_eye_31 : decode cX11_eye 31 = .ok (.iconst 0, 1) := by decide +kernel
theorem dX11_eye_32 : decode cX11_eye 32 = .ok (.ireturn, 1) := by decide +kernel
theorem dX11_axis_0 : decode cX11_axis 0 = .ok (.iload_n 1, 1) := by decide +kernel
theorem dX11_axis_1 : decode cX11_axis 1 = .ok (.ifCond .lt 8, 3) := by decide +kernel
theorem dX11_axis_4 : decode cX11_axis 4 = .ok (.iload_n 1, 1) := by decide +kernel
theorem dX11_axis_5 : decode cX11_axis 5 = .ok (.iconst 2, 1) := by decide +kernel
theorem dX11_axis_6 : decode cX11_axis 6 = .ok (.if_icmp .le 5, 3) := by decide +kernel
theorem dX11_axis_9 : decode cX11_axis 9 = .ok (.iconst (-1), 1) := by decide +kernel
theorem dX11_axis_10 : decode cX11_axis 10 = .ok (.ireturn, 1) := by decide +kernel
theorem dX11_axis_11 : decode cX11_axis 11 = .ok (.aload_n 0, 1) := by decide +kernel
theorem dX11_axis_12 : decode cX11_axis 12 = .ok (.getfield 26, 3) := by decide +kernel
theorem dX11_axis_15 : decode cX11_axis 15 = .ok (.iload_n 1, 1) := by decide +kernel
theorem dX11_axis_16 : decode cX11_axis 16 = .ok (.iload_n 2, 1) := by decide +kernel
theorem dX11_axis_17 : decode cX11_axis 17 = .ok (.iload_n 3, 1) := by decide +kernel
theorem dX11_axis_18 : decode cX11_axis 18 = .ok (.iload 4, 2) := by decide +kernel
theorem dX11_axis_20 : decode cX11_axis 20 = .ok (.invokevirtual 124, 3) := by decide +kernel
theorem dX11_axis_23 : decode cX11_axis 23 = .ok (.ifCond .eq 7, 3) := by decide +kernel
theorem dX11_axis_26 : decode cX11_axis 26 = .ok (.iconst 0, 1) := by decide +kernel
theorem dX11_axis_27 : decode cX11_axis 27 = .ok (.goto 4, 3) := by decide +kernel
theorem dX11_axis_30 : decode cX11_axis 30 = .ok (.iconst (-1), 1) := by decide +kernel
theorem dX11_axis_31 : decode cX11_axis 31 = .ok (.ireturn, 1) := by decide +kernel
theorem dX11_size_0 : decode cX11_size 0 = .ok (.aload_n 0, 1) := by decide +kernel
theorem dX11_size_1 : decode cX11_size 1 = .ok (.getfield 26, 3) := by decide +kernel
theorem dX11_size_4 : decode cX11_size 4 = .ok (.iload_n 1, 1) := by decide +kernel
theorem dX11_size_5 : decode cX11_size 5 = .ok (.iload_n 2, 1) := by decide +kernel
theorem dX11_size_6 : decode cX11_size 6 = .ok (.invokevirtual 128, 3) := by decide +kernel
theorem dX11_size_9 : decode cX11_size 9 = .ok (.ifCond .eq 7, 3) := by decide +kernel
theorem dX11_size_12 : decode cX11_size 12 = .ok (.iconst 0, 1) := by decide +kernel
theorem dX11_size_13 : decode cX11_size 13 = .ok (.goto 4, 3) := by decide +kernel
theorem dX11_size_16 : decode cX11_size 16 = .ok (.iconst (-1), 1) := by decide +kernel
theorem dX11_size_17 : decode cX11_size 17 = .ok (.ireturn, 1) := by decide +kernel
theorem dX11_light_0 : decode cX11_light 0 = .ok (.iload_n 1, 1) := by decide +kernel
theorem dX11_light_1 : decode cX11_light 1 = .ok (.invokestatic 132, 3) := by decide +kernel
theorem dX11_light_4 : decode cX11_light 4 = .ok (.ifCond .eq 21, 3) := by decide +kernel
theorem dX11_light_7 : decode cX11_light 7 = .ok (.iload_n 2, 1) := by decide +kernel
theorem dX11_light_8 : decode cX11_light 8 = .ok (.invokestatic 101, 3) := by decide +kernel
theorem dX11_light_11 : decode cX11_light 11 = .ok (.ifCond .eq 14, 3) := by decide +kernel
theorem dX11_light_14 : decode cX11_light 14 = .ok (.aload_n 0, 1) := by decide +kernel
theorem dX11_light_15 : decode cX11_light 15 = .ok (.getfield 12, 3) := by decide +kernel
theorem dX11_light_18 : decode cX11_light 18 = .ok (.invokevirtual 97, 3) := by decide +kernel
theorem dX11_light_21 : decode cX11_light 21 = .ok (.iconst 1, 1) := by decide +kernel
theorem dX11_light_22 : decode cX11_light 22 = .ok (.if_icmp .eq 5, 3) := by decide +kernel
theorem dX11_light_25 : decode cX11_light 25 = .ok (.iconst (-1), 1) := by decide +kernel
theorem dX11_light_26 : decode cX11_light 26 = .ok (.ireturn, 1) := by decide +kernel
theorem dX11_light_27 : decode cX11_light 27 = .ok (.aload_n 0, 1) := by decide +kernel
theorem dX11_light_28 : decode cX11_light 28 = .ok (.getfield 33, 3) := by decide +kernel
theorem dX11_light_31 : decode cX11_light 31 = .ok (.iload_n 1, 1) := by decide +kernel
theorem dX11_light_32 : decode cX11_light 32 = .ok (.iload_n 2, 1) := by decide +kernel
theorem dX11_light_33 : decode cX11_light 33 = .ok (.aload_n 0, 1) := by decide +kernel
theorem dX11_light_34 : decode cX11_light 34 = .ok (.getfield 12, 3) := by decide +kernel
theorem dX11_light_37 : decode cX11_light 37 = .ok (.invokevirtual 133, 3) := by decide +kernel
theorem dX11_light_40 : decode cX11_light 40 = .ok (.aload_n 0, 1) := by decide +kernel
theorem dX11_light_41 : decode cX11_light 41 = .ok (.getfield 12, 3) := by decide +kernel
theorem dX11_light_44 : decode cX11_light 44 = .ok (.invokevirtual 109, 3) := by decide +kernel
theorem dX11_light_47 : decode cX11_light 47 = .ok (.iconst 0, 1) := by decide +kernel
theorem dX11_light_48 : decode cX11_light 48 = .ok (.ireturn, 1) := by decide +kernel
theorem dX11_set_0 : decode cX11_set 0 = .ok (.iload_n 3, 1) := by decide +kernel
theorem dX11_set_1 : decode cX11_set 1 = .ok (.invokestatic 101, 3) := by decide +kernel
theorem dX11_set_4 : decode cX11_set 4 = .ok (.ifCond .ne 5, 3) := by decide +kernel
theorem dX11_set_7 : decode cX11_set 7 = .ok (.iconst (-1), 1) := by decide +kernel
theorem dX11_set_8 : decode cX11_set 8 = .ok (.ireturn, 1) := by decide +kernel
theorem dX11_set_9 : decode cX11_set 9 = .ok (.iload_n 1, 1) := by decide +kernel
theorem dX11_set_10 : decode cX11_set 10 = .ok (.tableswitch 102 0 3 #[30, 54, 63, 77], 30) := by decide +kernel
theorem dX11_set_40 : decode cX11_set 40 = .ok (.iload_n 2, 1) := by decide +kernel
theorem dX11_set_41 : decode cX11_set 41 = .ok (.ifCond .lt 21, 3) := by decide +kernel
theorem dX11_set_44 : decode cX11_set 44 = .ok (.iload_n 2, 1) := by decide +kernel
theorem dX11_set_45 : decode cX11_set 45 = .ok (.bipush 16, 2) := by decide +kernel
theorem dX11_set_47 : decode cX11_set 47 = .ok (.if_icmp .ge 15, 3) := by decide +kernel
theorem dX11_set_50 : decode cX11_set 50 = .ok (.aload_n 0, 1) := by decide +kernel
theorem dX11_set_51 : decode cX11_set 51 = .ok (.getfield 33, 3) := by decide +kernel
theorem dX11_set_54 : decode cX11_set 54 = .ok (.iload_n 2, 1) := by decide +kernel
theorem dX11_set_55 : decode cX11_set 55 = .ok (.iload_n 3, 1) := by decide +kernel
theorem dX11_set_56 : decode cX11_set 56 = .ok (.invokevirtual 137, 3) := by decide +kernel
theorem dX11_set_59 : decode cX11_set 59 = .ok (.goto 4, 3) := by decide +kernel
theorem dX11_set_62 : decode cX11_set 62 = .ok (.iconst (-1), 1) := by decide +kernel
theorem dX11_set_63 : decode cX11_set 63 = .ok (.ireturn, 1) := by decide +kernel
theorem dX11_set_64 : decode cX11_set 64 = .ok (.aload_n 0, 1) := by decide +kernel
theorem dX11_set_65 : decode cX11_set 65 = .ok (.getfield 33, 3) := by decide +kernel
theorem dX11_set_68 : decode cX11_set 68 = .ok (.iload_n 3, 1) := by decide +kernel
theorem dX11_set_69 : decode cX11_set 69 = .ok (.invokevirtual 141, 3) := by decide +kernel
theorem dX11_set_72 : decode cX11_set 72 = .ok (.ireturn, 1) := by decide +kernel
theorem dX11_set_73 : decode cX11_set 73 = .ok (.aload_n 0, 1) := by decide +kernel
theorem dX11_set_74 : decode cX11_set 74 = .ok (.getfield 89, 3) := by decide +kernel
theorem dX11_set_77 : decode cX11_set 77 = .ok (.istore 4, 2) := by decide +kernel
theorem dX11_set_79 : decode cX11_set 79 = .ok (.aload_n 0, 1) := by decide +kernel
theorem dX11_set_80 : decode cX11_set 80 = .ok (.iload_n 3, 1) := by decide +kernel
theorem dX11_set_81 : decode cX11_set 81 = .ok (.putfield 89, 3) := by decide +kernel
theorem dX11_set_84 : decode cX11_set 84 = .ok (.iload 4, 2) := by decide +kernel
theorem dX11_set_86 : decode cX11_set 86 = .ok (.ireturn, 1) := by decide +kernel
theorem dX11_set_87 : decode cX11_set 87 = .ok (.aload_n 0, 1) := by decide +kernel
theorem dX11_set_88 : decode cX11_set 88 = .ok (.getfield 19, 3) := by decide +kernel
theorem dX11_set_91 : decode cX11_set 91 = .ok (.iload_n 2, 1) := by decide +kernel
theorem dX11_set_92 : decode cX11_set 92 = .ok (.invokevirtual 113, 3) := by decide +kernel
theorem dX11_set_95 : decode cX11_set 95 = .ok (.ifCond .eq 15, 3) := by decide +kernel
theorem dX11_set_98 : decode cX11_set 98 = .ok (.aload_n 0, 1) := by decide +kernel
theorem dX11_set_99 : decode cX11_set 99 = .ok (.getfield 19, 3) := by decide +kernel
theorem dX11_set_102 : decode cX11_set 102 = .ok (.iload_n 2, 1) := by decide +kernel
theorem dX11_set_103 : decode cX11_set 103 = .ok (.iload_n 3, 1) := by decide +kernel
theorem dX11_set_104 : decode cX11_set 104 = .ok (.invokevirtual 145, 3) := by decide +kernel
theorem dX11_set_107 : decode cX11_set 107 = .ok (.goto 4, 3) := by decide +kernel
theorem dX11_set_110 : decode cX11_set 110 = .ok (.iconst (-1), 1) := by decide +kernel
theorem dX11_set_111 : decode cX11_set 111 = .ok (.ireturn, 1) := by decide +kernel
theorem dX11_set_112 : decode cX11_set 112 = .ok (.iconst (-1), 1) := by decide +kernel
theorem dX11_set_113 : decode cX11_set 113 = .ok (.ireturn, 1) := by decide +kernel
theorem dX11_build_0 : decode cX11_build 0 = .ok (.iload_n 1, 1) := by decide +kernel
theorem dX11_build_1 : decode cX11_build 1 = .ok (.iconst 1, 1) := by decide +kernel
theorem dX11_build_2 : decode cX11_build 2 = .ok (.if_icmp .lt 9, 3) := by decide +kernel
theorem dX11_build_5 : decode cX11_build 5 = .ok (.iload_n 1, 1) := by decide +kernel
theorem dX11_build_6 : decode cX11_build 6 = .ok (.bipush 8, 2) := by decide +kernel
theorem dX11_build_8 : decode cX11_build 8 = .ok (.if_icmp .le 5, 3) := by decide +kernel
theorem dX11_build_11 : decode cX11_build 11 = .ok (.iconst (-1), 1) := by decide +kernel
theorem dX11_build_12 : decode cX11_build 12 = .ok (.ireturn, 1) := by decide +kernel
theorem dX11_build_13 : decode cX11_build 13 = .ok (.aload_n 0, 1) := by decide +kernel
theorem dX11_build_14 : decode cX11_build 14 = .ok (.getfield 40, 3) := by decide +kernel
theorem dX11_build_17 : decode cX11_build 17 = .ok (.aload_n 0, 1) := by decide +kernel
theorem dX11_build_18 : decode cX11_build 18 = .ok (.getfield 19, 3) := by decide +kernel
theorem dX11_build_21 : decode cX11_build 21 = .ok (.iload_n 1, 1) := by decide +kernel
theorem dX11_build_22 : decode cX11_build 22 = .ok (.invokevirtual 148, 3) := by decide +kernel
theorem dX11_build_25 : decode cX11_build 25 = .ok (.aload_n 0, 1) := by decide +kernel
theorem dX11_build_26 : decode cX11_build 26 = .ok (.getfield 40, 3) := by decide +kernel
theorem dX11_build_29 : decode cX11_build 29 = .ok (.invokevirtual 152, 3) := by decide +kernel
theorem dX11_build_32 : decode cX11_build 32 = .ok (.ireturn, 1) := by decide +kernel
theorem dX11_refit_0 : decode cX11_refit 0 = .ok (.aload_n 0, 1) := by decide +kernel
theorem dX11_refit_1 : decode cX11_refit 1 = .ok (.getfield 40, 3) := by decide +kernel
theorem dX11_refit_4 : decode cX11_refit 4 = .ok (.invokevirtual 155, 3) := by decide +kernel
theorem dX11_refit_7 : decode cX11_refit 7 = .ok (.ifCond .eq 17, 3) := by decide +kernel
theorem dX11_refit_10 : decode cX11_refit 10 = .ok (.aload_n 0, 1) := by decide +kernel
theorem dX11_refit_11 : decode cX11_refit 11 = .ok (.getfield 40, 3) := by decide +kernel
theorem dX11_refit_14 : decode cX11_refit 14 = .ok (.aload_n 0, 1) := by decide +kernel
theorem dX11_refit_15 : decode cX11_refit 15 = .ok (.getfield 19, 3) := by decide +kernel
theorem dX11_refit_18 : decode cX11_refit 18 = .ok (.invokevirtual 159, 3) := by decide +kernel
theorem dX11_refit_21 : decode cX11_refit 21 = .ok (.goto 4, 3) := by decide +kernel
theorem dX11_refit_24 : decode cX11_refit 24 = .ok (.iconst (-1), 1) := by decide +kernel
theorem dX11_refit_25 : decode cX11_refit 25 = .ok (.ireturn, 1) := by decide +kernel
theorem dX11_node_0 : decode cX11_node 0 = .ok (.aload_n 0, 1) := by decide +kernel
theorem dX11_node_1 : decode cX11_node 1 = .ok (.getfield 40, 3) := by decide +kernel
theorem dX11_node_4 : decode cX11_node 4 = .ok (.iload_n 1, 1) := by decide +kernel
theorem dX11_node_5 : decode cX11_node 5 = .ok (.invokevirtual 163, 3) := by decide +kernel
theorem dX11_node_8 : decode cX11_node 8 = .ok (.ifCond .eq 15, 3) := by decide +kernel
theorem dX11_node_11 : decode cX11_node 11 = .ok (.aload_n 0, 1) := by decide +kernel
theorem dX11_node_12 : decode cX11_node 12 = .ok (.getfield 40, 3) := by decide +kernel
theorem dX11_node_15 : decode cX11_node 15 = .ok (.iload_n 1, 1) := by decide +kernel
theorem dX11_node_16 : decode cX11_node 16 = .ok (.iload_n 2, 1) := by decide +kernel
theorem dX11_node_17 : decode cX11_node 17 = .ok (.invokevirtual 166, 3) := by decide +kernel
theorem dX11_node_20 : decode cX11_node 20 = .ok (.goto 4, 3) := by decide +kernel
theorem dX11_node_23 : decode cX11_node 23 = .ok (.iconst (-1), 1) := by decide +kernel
theorem dX11_node_24 : decode cX11_node 24 = .ok (.ireturn, 1) := by decide +kernel
theorem dX11_order_0 : decode cX11_order 0 = .ok (.aload_n 0, 1) := by decide +kernel
theorem dX11_order_1 : decode cX11_order 1 = .ok (.getfield 40, 3) := by decide +kernel
theorem dX11_order_4 : decode cX11_order 4 = .ok (.iload_n 1, 1) := by decide +kernel
theorem dX11_order_5 : decode cX11_order 5 = .ok (.invokevirtual 169, 3) := by decide +kernel
theorem dX11_order_8 : decode cX11_order 8 = .ok (.ifCond .eq 14, 3) := by decide +kernel
theorem dX11_order_11 : decode cX11_order 11 = .ok (.aload_n 0, 1) := by decide +kernel
theorem dX11_order_12 : decode cX11_order 12 = .ok (.getfield 40, 3) := by decide +kernel
theorem dX11_order_15 : decode cX11_order 15 = .ok (.iload_n 1, 1) := by decide +kernel
theorem dX11_order_16 : decode cX11_order 16 = .ok (.invokevirtual 172, 3) := by decide +kernel
theorem dX11_order_19 : decode cX11_order 19 = .ok (.goto 4, 3) := by decide +kernel
theorem dX11_order_22 : decode cX11_order 22 = .ok (.iconst (-1), 1) := by decide +kernel
theorem dX11_order_23 : decode cX11_order 23 = .ok (.ireturn, 1) := by decide +kernel
theorem dX11_hit_0 : decode cX11_hit 0 = .ok (.aload_n 0, 1) := by decide +kernel
theorem dX11_hit_1 : decode cX11_hit 1 = .ok (.getfield 26, 3) := by decide +kernel
theorem dX11_hit_4 : decode cX11_hit 4 = .ok (.iload_n 1, 1) := by decide +kernel
theorem dX11_hit_5 : decode cX11_hit 5 = .ok (.iload_n 2, 1) := by decide +kernel
theorem dX11_hit_6 : decode cX11_hit 6 = .ok (.invokevirtual 175, 3) := by decide +kernel
theorem dX11_hit_9 : decode cX11_hit 9 = .ok (.ifCond .ne 5, 3) := by decide +kernel
theorem dX11_hit_12 : decode cX11_hit 12 = .ok (.iconst (-1), 1) := by decide +kernel
theorem dX11_hit_13 : decode cX11_hit 13 = .ok (.ireturn, 1) := by decide +kernel
theorem dX11_hit_14 : decode cX11_hit 14 = .ok (.aload_n 0, 1) := by decide +kernel
theorem dX11_hit_15 : decode cX11_hit 15 = .ok (.iload_n 1, 1) := by decide +kernel
theorem dX11_hit_16 : decode cX11_hit 16 = .ok (.iload_n 2, 1) := by decide +kernel
theorem dX11_hit_17 : decode cX11_hit 17 = .ok (.aload_n 0, 1) := by decide +kernel
theorem dX11_hit_18 : decode cX11_hit 18 = .ok (.getfield 54, 3) := by decide +kernel
theorem dX11_hit_21 : decode cX11_hit 21 = .ok (.invokevirtual 178, 3) := by decide +kernel
theorem dX11_hit_24 : decode cX11_hit 24 = .ok (.aload_n 0, 1) := by decide +kernel
theorem dX11_hit_25 : decode cX11_hit 25 = .ok (.getfield 54, 3) := by decide +kernel
theorem dX11_hit_28 : decode cX11_hit 28 = .ok (.getfield 182, 3) := by decide +kernel
theorem dX11_hit_31 : decode cX11_hit 31 = .ok (.ireturn, 1) := by decide +kernel
theorem dX11_told_0 : decode cX11_told 0 = .ok (.aload_n 0, 1) := by decide +kernel
theorem dX11_told_1 : decode cX11_told 1 = .ok (.getfield 54, 3) := by decide +kernel
theorem dX11_told_4 : decode cX11_told 4 = .ok (.invokevirtual 185, 3) := by decide +kernel
theorem dX11_told_7 : decode cX11_told 7 = .ok (.ifCond .eq 14, 3) := by decide +kernel
theorem dX11_told_10 : decode cX11_told 10 = .ok (.aload_n 0, 1) := by decide +kernel
theorem dX11_told_11 : decode cX11_told 11 = .ok (.getfield 54, 3) := by decide +kernel
theorem dX11_told_14 : decode cX11_told 14 = .ok (.iload_n 1, 1) := by decide +kernel
theorem dX11_told_15 : decode cX11_told 15 = .ok (.invokevirtual 188, 3) := by decide +kernel
theorem dX11_told_18 : decode cX11_told 18 = .ok (.goto 6, 3) := by decide +kernel
theorem dX11_told_21 : decode cX11_told 21 = .ok (.ldc2_w 192, 3) := by decide +kernel
theorem dX11_told_24 : decode cX11_told 24 = .ok (.lreturn, 1) := by decide +kernel
theorem dX11_cross_0 : decode cX11_cross 0 = .ok (.aload_n 0, 1) := by decide +kernel
theorem dX11_cross_1 : decode cX11_cross 1 = .ok (.getfield 26, 3) := by decide +kernel
theorem dX11_cross_4 : decode cX11_cross 4 = .ok (.iload_n 1, 1) := by decide +kernel
theorem dX11_cross_5 : decode cX11_cross 5 = .ok (.iload_n 2, 1) := by decide +kernel
theorem dX11_cross_6 : decode cX11_cross 6 = .ok (.invokevirtual 175, 3) := by decide +kernel
theorem dX11_cross_9 : decode cX11_cross 9 = .ok (.ifCond .ne 5, 3) := by decide +kernel
theorem dX11_cross_12 : decode cX11_cross 12 = .ok (.iconst (-1), 1) := by decide +kernel
theorem dX11_cross_13 : decode cX11_cross 13 = .ok (.ireturn, 1) := by decide +kernel
theorem dX11_cross_14 : decode cX11_cross 14 = .ok (.aload_n 0, 1) := by decide +kernel
theorem dX11_cross_15 : decode cX11_cross 15 = .ok (.getfield 47, 3) := by decide +kernel
theorem dX11_cross_18 : decode cX11_cross 18 = .ok (.invokevirtual 194, 3) := by decide +kernel
theorem dX11_cross_21 : decode cX11_cross 21 = .ok (.aload_n 0, 1) := by decide +kernel
theorem dX11_cross_22 : decode cX11_cross 22 = .ok (.getfield 26, 3) := by decide +kernel
theorem dX11_cross_25 : decode cX11_cross 25 = .ok (.iload_n 1, 1) := by decide +kernel
theorem dX11_cross_26 : decode cX11_cross 26 = .ok (.iload_n 2, 1) := by decide +kernel
theorem dX11_cross_27 : decode cX11_cross 27 = .ok (.aload_n 0, 1) := by decide +kernel
theorem dX11_cross_28 : decode cX11_cross 28 = .ok (.getfield 64, 3) := by decide +kernel
theorem dX11_cross_31 : decode cX11_cross 31 = .ok (.invokevirtual 195, 3) := by decide +kernel
theorem dX11_cross_34 : decode cX11_cross 34 = .ok (.iconst 0, 1) := by decide +kernel
theorem dX11_cross_35 : decode cX11_cross 35 = .ok (.istore_n 3, 1) := by decide +kernel
theorem dX11_cross_36 : decode cX11_cross 36 = .ok (.iload_n 3, 1) := by decide +kernel
theorem dX11_cross_37 : decode cX11_cross 37 = .ok (.aload_n 0, 1) := by decide +kernel
theorem dX11_cross_38 : decode cX11_cross 38 = .ok (.getfield 19, 3) := by decide +kernel
theorem dX11_cross_41 : decode cX11_cross 41 = .ok (.invokevirtual 199, 3) := by decide +kernel
theorem dX11_cross_44 : decode cX11_cross 44 = .ok (.if_icmp .ge 46, 3) := by decide +kernel
theorem dX11_cross_47 : decode cX11_cross 47 = .ok (.aload_n 0, 1) := by decide +kernel
theorem dX11_cross_48 : decode cX11_cross 48 = .ok (.getfield 64, 3) := by decide +kernel
theorem dX11_cross_51 : decode cX11_cross 51 = .ok (.aload_n 0, 1) := by decide +kernel
theorem dX11_cross_52 : decode cX11_cross 52 = .ok (.getfield 19, 3) := by decide +kernel
theorem dX11_cross_55 : decode cX11_cross 55 = .ok (.iload_n 3, 1) := by decide +kernel
theorem dX11_cross_56 : decode cX11_cross 56 = .ok (.invokevirtual 200, 3) := by decide +kernel
theorem dX11_cross_59 : decode cX11_cross 59 = .ok (.ifCond .eq 25, 3) := by decide +kernel
theorem dX11_cross_62 : decode cX11_cross 62 = .ok (.aload_n 0, 1) := by decide +kernel
theorem dX11_cross_63 : decode cX11_cross 63 = .ok (.getfield 47, 3) := by decide +kernel
theorem dX11_cross_66 : decode cX11_cross 66 = .ok (.iload_n 3, 1) := by decide +kernel
theorem dX11_cross_67 : decode cX11_cross 67 = .ok (.aload_n 0, 1) := by decide +kernel
theorem dX11_cross_68 : decode cX11_cross 68 = .ok (.getfield 64, 3) := by decide +kernel
theorem dX11_cross_71 : decode cX11_cross 71 = .ok (.getfield 204, 3) := by decide +kernel
theorem dX11_cross_74 : decode cX11_cross 74 = .ok (.aload_n 0, 1) := by decide +kernel
theorem dX11_cross_75 : decode cX11_cross 75 = .ok (.getfield 64, 3) := by decide +kernel
theorem dX11_cross_78 : decode cX11_cross 78 = .ok (.getfield 208, 3) := by decide +kernel
theorem dX11_cross_81 : decode cX11_cross 81 = .ok (.invokevirtual 211, 3) := by decide +kernel
theorem dX11_cross_84 : decode cX11_cross 84 = .ok (.iinc 3 1, 3) := by decide +kernel
theorem dX11_cross_87 : decode cX11_cross 87 = .ok (.goto (-51), 3) := by decide +kernel
theorem dX11_cross_90 : decode cX11_cross 90 = .ok (.aload_n 0, 1) := by decide +kernel
theorem dX11_cross_91 : decode cX11_cross 91 = .ok (.getfield 47, 3) := by decide +kernel
theorem dX11_cross_94 : decode cX11_cross 94 = .ok (.invokevirtual 215, 3) := by decide +kernel
theorem dX11_cross_97 : decode cX11_cross 97 = .ok (.ireturn, 1) := by decide +kernel
theorem dX11_crossing_0 : decode cX11_crossing 0 = .ok (.aload_n 0, 1) := by decide +kernel
theorem dX11_crossing_1 : decode cX11_crossing 1 = .ok (.getfield 47, 3) := by decide +kernel
theorem dX11_crossing_4 : decode cX11_crossing 4 = .ok (.iload_n 1, 1) := by decide +kernel
theorem dX11_crossing_5 : decode cX11_crossing 5 = .ok (.invokevirtual 216, 3) := by decide +kernel
theorem dX11_crossing_8 : decode cX11_crossing 8 = .ok (.ifCond .eq 14, 3) := by decide +kernel
theorem dX11_crossing_11 : decode cX11_crossing 11 = .ok (.aload_n 0, 1) := by decide +kernel
theorem dX11_crossing_12 : decode cX11_crossing 12 = .ok (.getfield 47, 3) := by decide +kernel
theorem dX11_crossing_15 : decode cX11_crossing 15 = .ok (.iload_n 1, 1) := by decide +kernel
theorem dX11_crossing_16 : decode cX11_crossing 16 = .ok (.invokevirtual 217, 3) := by decide +kernel
theorem dX11_crossing_19 : decode cX11_crossing 19 = .ok (.goto 4, 3) := by decide +kernel
theorem dX11_crossing_22 : decode cX11_crossing 22 = .ok (.iconst (-1), 1) := by decide +kernel
theorem dX11_crossing_23 : decode cX11_crossing 23 = .ok (.ireturn, 1) := by decide +kernel
theorem dX11_meets_0 : decode cX11_meets 0 = .ok (.aload_n 0, 1) := by decide +kernel
theorem dX11_meets_1 : decode cX11_meets 1 = .ok (.getfield 26, 3) := by decide +kernel
theorem dX11_meets_4 : decode cX11_meets 4 = .ok (.iload_n 1, 1) := by decide +kernel
theorem dX11_meets_5 : decode cX11_meets 5 = .ok (.iload_n 2, 1) := by decide +kernel
theorem dX11_meets_6 : decode cX11_meets 6 = .ok (.invokevirtual 175, 3) := by decide +kernel
theorem dX11_meets_9 : decode cX11_meets 9 = .ok (.ifCond .eq 22, 3) := by decide +kernel
theorem dX11_meets_12 : decode cX11_meets 12 = .ok (.iload_n 3, 1) := by decide +kernel
theorem dX11_meets_13 : decode cX11_meets 13 = .ok (.ifCond .lt 18, 3) := by decide +kernel
theorem dX11_meets_16 : decode cX11_meets 16 = .ok (.iload_n 3, 1) := by decide +kernel
theorem dX11_meets_17 : decode cX11_meets 17 = .ok (.iconst 1, 1) := by decide +kernel
theorem dX11_meets_18 : decode cX11_meets 18 = .ok (.if_icmp .gt 13, 3) := by decide +kernel
theorem dX11_meets_21 : decode cX11_meets 21 = .ok (.aload_n 0, 1) := by decide +kernel
theorem dX11_meets_22 : decode cX11_meets 22 = .ok (.getfield 40, 3) := by decide +kernel
theorem dX11_meets_25 : decode cX11_meets 25 = .ok (.invokevirtual 155, 3) := by decide +kernel
theorem dX11_meets_28 : decode cX11_meets 28 = .ok (.ifCond .ne 5, 3) := by decide +kernel
theorem dX11_meets_31 : decode cX11_meets 31 = .ok (.iconst (-1), 1) := by decide +kernel
theorem dX11_meets_32 : decode cX11_meets 32 = .ok (.ireturn, 1) := by decide +kernel
theorem dX11_meets_33 : decode cX11_meets 33 = .ok (.aload_n 0, 1) := by decide +kernel
theorem dX11_meets_34 : decode cX11_meets 34 = .ok (.getfield 26, 3) := by decide +kernel
theorem dX11_meets_37 : decode cX11_meets 37 = .ok (.iload_n 1, 1) := by decide +kernel
theorem dX11_meets_38 : decode cX11_meets 38 = .ok (.iload_n 2, 1) := by decide +kernel
theorem dX11_meets_39 : decode cX11_meets 39 = .ok (.aload_n 0, 1) := by decide +kernel
theorem dX11_meets_40 : decode cX11_meets 40 = .ok (.getfield 64, 3) := by decide +kernel
theorem dX11_meets_43 : decode cX11_meets 43 = .ok (.invokevirtual 195, 3) := by decide +kernel
theorem dX11_meets_46 : decode cX11_meets 46 = .ok (.aload_n 0, 1) := by decide +kernel
theorem dX11_meets_47 : decode cX11_meets 47 = .ok (.getfield 40, 3) := by decide +kernel
theorem dX11_meets_50 : decode cX11_meets 50 = .ok (.aload_n 0, 1) := by decide +kernel
theorem dX11_meets_51 : decode cX11_meets 51 = .ok (.getfield 64, 3) := by decide +kernel
theorem dX11_meets_54 : decode cX11_meets 54 = .ok (.invokevirtual 218, 3) := by decide +kernel
theorem dX11_meets_57 : decode cX11_meets 57 = .ok (.iload_n 3, 1) := by decide +kernel
theorem dX11_meets_58 : decode cX11_meets 58 = .ok (.ifCond .ne 13, 3) := by decide +kernel
theorem dX11_meets_61 : decode cX11_meets 61 = .ok (.aload_n 0, 1) := by decide +kernel
theorem dX11_meets_62 : decode cX11_meets 62 = .ok (.getfield 40, 3) := by decide +kernel
theorem dX11_meets_65 : decode cX11_meets 65 = .ok (.invokevirtual 222, 3) := by decide +kernel
theorem dX11_meets_68 : decode cX11_meets 68 = .ok (.goto 10, 3) := by decide +kernel
theorem dX11_meets_71 : decode cX11_meets 71 = .ok (.aload_n 0, 1) := by decide +kernel
theorem dX11_meets_72 : decode cX11_meets 72 = .ok (.getfield 40, 3) := by decide +kernel
theorem dX11_meets_75 : decode cX11_meets 75 = .ok (.invokevirtual 225, 3) := by decide +kernel
theorem dX11_meets_78 : decode cX11_meets 78 = .ok (.ireturn, 1) := by decide +kernel
theorem dX11_lit_0 : decode cX11_lit 0 = .ok (.aload_n 0, 1) := by decide +kernel
theorem dX11_lit_1 : decode cX11_lit 1 = .ok (.getfield 26, 3) := by decide +kernel
theorem dX11_lit_4 : decode cX11_lit 4 = .ok (.iload_n 1, 1) := by decide +kernel
theorem dX11_lit_5 : decode cX11_lit 5 = .ok (.iload_n 2, 1) := by decide +kernel
theorem dX11_lit_6 : decode cX11_lit 6 = .ok (.invokevirtual 175, 3) := by decide +kernel
theorem dX11_lit_9 : decode cX11_lit 9 = .ok (.ifCond .eq 10, 3) := by decide +kernel
theorem dX11_lit_12 : decode cX11_lit 12 = .ok (.iload_n 3, 1) := by decide +kernel
theorem dX11_lit_13 : decode cX11_lit 13 = .ok (.invokestatic 132, 3) := by decide +kernel
theorem dX11_lit_16 : decode cX11_lit 16 = .ok (.ifCond .ne 5, 3) := by decide +kernel
theorem dX11_lit_19 : decode cX11_lit 19 = .ok (.iconst (-1), 1) := by decide +kernel
theorem dX11_lit_20 : decode cX11_lit 20 = .ok (.ireturn, 1) := by decide +kernel
theorem dX11_lit_21 : decode cX11_lit 21 = .ok (.aload_n 0, 1) := by decide +kernel
theorem dX11_lit_22 : decode cX11_lit 22 = .ok (.iload_n 1, 1) := by decide +kernel
theorem dX11_lit_23 : decode cX11_lit 23 = .ok (.iload_n 2, 1) := by decide +kernel
theorem dX11_lit_24 : decode cX11_lit 24 = .ok (.aload_n 0, 1) := by decide +kernel
theorem dX11_lit_25 : decode cX11_lit 25 = .ok (.getfield 58, 3) := by decide +kernel
theorem dX11_lit_28 : decode cX11_lit 28 = .ok (.invokevirtual 178, 3) := by decide +kernel
theorem dX11_lit_31 : decode cX11_lit 31 = .ok (.aload_n 0, 1) := by decide +kernel
theorem dX11_lit_32 : decode cX11_lit 32 = .ok (.getfield 58, 3) := by decide +kernel
theorem dX11_lit_35 : decode cX11_lit 35 = .ok (.invokevirtual 185, 3) := by decide +kernel
theorem dX11_lit_38 : decode cX11_lit 38 = .ok (.ifCond .eq 15, 3) := by decide +kernel
theorem dX11_lit_41 : decode cX11_lit 41 = .ok (.aload_n 0, 1) := by decide +kernel
theorem dX11_lit_42 : decode cX11_lit 42 = .ok (.aload_n 0, 1) := by decide +kernel
theorem dX11_lit_43 : decode cX11_lit 43 = .ok (.getfield 58, 3) := by decide +kernel
theorem dX11_lit_46 : decode cX11_lit 46 = .ok (.iload_n 3, 1) := by decide +kernel
theorem dX11_lit_47 : decode cX11_lit 47 = .ok (.invokevirtual 228, 3) := by decide +kernel
theorem dX11_lit_50 : decode cX11_lit 50 = .ok (.goto 5, 3) := by decide +kernel
theorem dX11_lit_53 : decode cX11_lit 53 = .ok (.bipush (-3), 2) := by decide +kernel
theorem dX11_lit_55 : decode cX11_lit 55 = .ok (.ireturn, 1) := by decide +kernel
theorem dX11_shadow_0 : decode cX11_shadow 0 = .ok (.aload_n 0, 1) := by decide +kernel
theorem dX11_shadow_1 : decode cX11_shadow 1 = .ok (.getfield 26, 3) := by decide +kernel
theorem dX11_shadow_4 : decode cX11_shadow 4 = .ok (.iload_n 1, 1) := by decide +kernel
theorem dX11_shadow_5 : decode cX11_shadow 5 = .ok (.iload_n 2, 1) := by decide +kernel
theorem dX11_shadow_6 : decode cX11_shadow 6 = .ok (.invokevirtual 175, 3) := by decide +kernel
theorem dX11_shadow_9 : decode cX11_shadow 9 = .ok (.ifCond .eq 10, 3) := by decide +kernel
theorem dX11_shadow_12 : decode cX11_shadow 12 = .ok (.iload_n 3, 1) := by decide +kernel
theorem dX11_shadow_13 : decode cX11_shadow 13 = .ok (.invokestatic 132, 3) := by decide +kernel
theorem dX11_shadow_16 : decode cX11_shadow 16 = .ok (.ifCond .ne 5, 3) := by decide +kernel
theorem dX11_shadow_19 : decode cX11_shadow 19 = .ok (.iconst (-1), 1) := by decide +kernel
theorem dX11_shadow_20 : decode cX11_shadow 20 = .ok (.ireturn, 1) := by decide +kernel
theorem dX11_shadow_21 : decode cX11_shadow 21 = .ok (.aload_n 0, 1) := by decide +kernel
theorem dX11_shadow_22 : decode cX11_shadow 22 = .ok (.iload_n 1, 1) := by decide +kernel
theorem dX11_shadow_23 : decode cX11_shadow 23 = .ok (.iload_n 2, 1) := by decide +kernel
theorem dX11_shadow_24 : decode cX11_shadow 24 = .ok (.aload_n 0, 1) := by decide +kernel
theorem dX11_shadow_25 : decode cX11_shadow 25 = .ok (.getfield 58, 3) := by decide +kernel
theorem dX11_shadow_28 : decode cX11_shadow 28 = .ok (.invokevirtual 178, 3) := by decide +kernel
theorem dX11_shadow_31 : decode cX11_shadow 31 = .ok (.aload_n 0, 1) := by decide +kernel
theorem dX11_shadow_32 : decode cX11_shadow 32 = .ok (.getfield 58, 3) := by decide +kernel
theorem dX11_shadow_35 : decode cX11_shadow 35 = .ok (.invokevirtual 185, 3) := by decide +kernel
theorem dX11_shadow_38 : decode cX11_shadow 38 = .ok (.ifCond .eq 15, 3) := by decide +kernel
theorem dX11_shadow_41 : decode cX11_shadow 41 = .ok (.aload_n 0, 1) := by decide +kernel
theorem dX11_shadow_42 : decode cX11_shadow 42 = .ok (.aload_n 0, 1) := by decide +kernel
theorem dX11_shadow_43 : decode cX11_shadow 43 = .ok (.getfield 58, 3) := by decide +kernel
theorem dX11_shadow_46 : decode cX11_shadow 46 = .ok (.iload_n 3, 1) := by decide +kernel
theorem dX11_shadow_47 : decode cX11_shadow 47 = .ok (.invokevirtual 232, 3) := by decide +kernel
theorem dX11_shadow_50 : decode cX11_shadow 50 = .ok (.ifCond .ne 6, 3) := by decide +kernel
theorem dX11_shadow_53 : decode cX11_shadow 53 = .ok (.bipush (-2), 2) := by decide +kernel
theorem dX11_shadow_55 : decode cX11_shadow 55 = .ok (.ireturn, 1) := by decide +kernel
theorem dX11_shadow_56 : decode cX11_shadow 56 = .ok (.aload_n 0, 1) := by decide +kernel
theorem dX11_shadow_57 : decode cX11_shadow 57 = .ok (.getfield 33, 3) := by decide +kernel
theorem dX11_shadow_60 : decode cX11_shadow 60 = .ok (.iload_n 3, 1) := by decide +kernel
theorem dX11_shadow_61 : decode cX11_shadow 61 = .ok (.aload_n 0, 1) := by decide +kernel
theorem dX11_shadow_62 : decode cX11_shadow 62 = .ok (.getfield 58, 3) := by decide +kernel
theorem dX11_shadow_65 : decode cX11_shadow 65 = .ok (.aload_n 0, 1) := by decide +kernel
theorem dX11_shadow_66 : decode cX11_shadow 66 = .ok (.getfield 68, 3) := by decide +kernel
theorem dX11_shadow_69 : decode cX11_shadow 69 = .ok (.invokevirtual 236, 3) := by decide +kernel
theorem dX11_shadow_72 : decode cX11_shadow 72 = .ok (.aload_n 0, 1) := by decide +kernel
theorem dX11_shadow_73 : decode cX11_shadow 73 = .ok (.aload_n 0, 1) := by decide +kernel
theorem dX11_shadow_74 : decode cX11_shadow 74 = .ok (.getfield 58, 3) := by decide +kernel
theorem dX11_shadow_77 : decode cX11_shadow 77 = .ok (.invokevirtual 239, 3) := by decide +kernel
theorem dX11_shadow_80 : decode cX11_shadow 80 = .ok (.ireturn, 1) := by decide +kernel
theorem dX11_pixel_0 : decode cX11_pixel 0 = .ok (.aload_n 0, 1) := by decide +kernel
theorem dX11_pixel_1 : decode cX11_pixel 1 = .ok (.getfield 26, 3) := by decide +kernel
theorem dX11_pixel_4 : decode cX11_pixel 4 = .ok (.iload_n 1, 1) := by decide +kernel
theorem dX11_pixel_5 : decode cX11_pixel 5 = .ok (.iload_n 2, 1) := by decide +kernel
theorem dX11_pixel_6 : decode cX11_pixel 6 = .ok (.invokevirtual 175, 3) := by decide +kernel
theorem dX11_pixel_9 : decode cX11_pixel 9 = .ok (.ifCond .eq 12, 3) := by decide +kernel
theorem dX11_pixel_12 : decode cX11_pixel 12 = .ok (.aload_n 0, 1) := by decide +kernel
theorem dX11_pixel_13 : decode cX11_pixel 13 = .ok (.iload_n 1, 1) := by decide +kernel
theorem dX11_pixel_14 : decode cX11_pixel 14 = .ok (.iload_n 2, 1) := by decide +kernel
theorem dX11_pixel_15 : decode cX11_pixel 15 = .ok (.invokevirtual 243, 3) := by decide +kernel
theorem dX11_pixel_18 : decode cX11_pixel 18 = .ok (.goto 4, 3) := by decide +kernel
theorem dX11_pixel_21 : decode cX11_pixel 21 = .ok (.iconst (-1), 1) := by decide +kernel
theorem dX11_pixel_22 : decode cX11_pixel 22 = .ok (.ireturn, 1) := by decide +kernel
theorem dX11_picture_0 : decode cX11_picture 0 = .ok (.aload_n 0, 1) := by decide +kernel
theorem dX11_picture_1 : decode cX11_picture 1 = .ok (.getfield 26, 3) := by decide +kernel
theorem dX11_picture_4 : decode cX11_picture 4 = .ok (.getfield 246, 3) := by decide +kernel
theorem dX11_picture_7 : decode cX11_picture 7 = .ok (.i2l, 1) := by decide +kernel
theorem dX11_picture_8 : decode cX11_picture 8 = .ok (.iload_n 1, 1) := by decide +kernel
theorem dX11_picture_9 : decode cX11_picture 9 = .ok (.i2l, 1) := by decide +kernel
theorem dX11_picture_10 : decode cX11_picture 10 = .ok (.iload_n 3, 1) := by decide +kernel
theorem dX11_picture_11 : decode cX11_picture 11 = .ok (.i2l, 1) := by decide +kernel
theorem dX11_picture_12 : decode cX11_picture 12 = .ok (.ladd, 1) := by decide +kernel
theorem dX11_picture_13 : decode cX11_picture 13 = .ok (.invokestatic 249, 3) := by decide +kernel
theorem dX11_picture_16 : decode cX11_picture 16 = .ok (.lstore 5, 2) := by decide +kernel
theorem dX11_picture_18 : decode cX11_picture 18 = .ok (.aload_n 0, 1) := by decide +kernel
theorem dX11_picture_19 : decode cX11_picture 19 = .ok (.getfield 26, 3) := by decide +kernel
theorem dX11_picture_22 : decode cX11_picture 22 = .ok (.getfield 255, 3) := by decide +kernel
theorem dX11_picture_25 : decode cX11_picture 25 = .ok (.i2l, 1) := by decide +kernel
theorem dX11_picture_26 : decode cX11_picture 26 = .ok (.iload_n 2, 1) := by decide +kernel
theorem dX11_picture_27 : decode cX11_picture 27 = .ok (.i2l, 1) := by decide +kernel
theorem dX11_picture_28 : decode cX11_picture 28 = .ok (.iload 4, 2) := by decide +kernel
theorem dX11_picture_30 : decode cX11_picture 30 = .ok (.i2l, 1) := by decide +kernel
theorem dX11_picture_31 : decode cX11_picture 31 = .ok (.ladd, 1) := by decide +kernel
theorem dX11_picture_32 : decode cX11_picture 32 = .ok (.invokestatic 249, 3) := by decide +kernel
theorem dX11_picture_35 : decode cX11_picture 35 = .ok (.lstore 7, 2) := by decide +kernel
theorem dX11_picture_37 : decode cX11_picture 37 = .ok (.iconst 1, 1) := by decide +kernel
theorem dX11_picture_38 : decode cX11_picture 38 = .ok (.istore 9, 2) := by decide +kernel
theorem dX11_picture_40 : decode cX11_picture 40 = .ok (.iload_n 2, 1) := by decide +kernel
theorem dX11_picture_41 : decode cX11_picture 41 = .ok (.iconst 0, 1) := by decide +kernel
theorem dX11_picture_42 : decode cX11_picture 42 = .ok (.invokestatic 258, 3) := by decide +kernel
theorem dX11_picture_45 : decode cX11_picture 45 = .ok (.istore 10, 2) := by decide +kernel
theorem dX11_picture_47 : decode cX11_picture 47 = .ok (.iload 10, 2) := by decide +kernel
theorem dX11_picture_49 : decode cX11_picture 49 = .ok (.i2l, 1) := by decide +kernel
theorem dX11_picture_50 : decode cX11_picture 50 = .ok (.lload 7, 2) := by decide +kernel
theorem dX11_picture_52 : decode cX11_picture 52 = .ok (.lcmp, 1) := by decide +kernel
theorem dX11_picture_53 : decode cX11_picture 53 = .ok (.ifCond .ge 47, 3) := by decide +kernel
theorem dX11_picture_56 : decode cX11_picture 56 = .ok (.iload_n 1, 1) := by decide +kernel
theorem dX11_picture_57 : decode cX11_picture 57 = .ok (.iconst 0, 1) := by decide +kernel
theorem dX11_picture_58 : decode cX11_picture 58 = .ok (.invokestatic 258, 3) := by decide +kernel
theorem dX11_picture_61 : decode cX11_picture 61 = .ok (.istore 11, 2) := by decide +kernel
theorem dX11_picture_63 : decode cX11_picture 63 = .ok (.iload 11, 2) := by decide +kernel
theorem dX11_picture_65 : decode cX11_picture 65 = .ok (.i2l, 1) := by decide +kernel
theorem dX11_picture_66 : decode cX11_picture 66 = .ok (.lload 5, 2) := by decide +kernel
theorem dX11_picture_68 : decode cX11_picture 68 = .ok (.lcmp, 1) := by decide +kernel
theorem dX11_picture_69 : decode cX11_picture 69 = .ok (.ifCond .ge 25, 3) := by decide +kernel
theorem dX11_picture_72 : decode cX11_picture 72 = .ok (.bipush 31, 2) := by decide +kernel
theorem dX11_picture_74 : decode cX11_picture 74 = .ok (.iload 9, 2) := by decide +kernel
theorem dX11_picture_76 : decode cX11_picture 76 = .ok (.imul, 1) := by decide +kernel
theorem dX11_picture_77 : decode cX11_picture 77 = .ok (.aload_n 0, 1) := by decide +kernel
theorem dX11_picture_78 : decode cX11_picture 78 = .ok (.iload 11, 2) := by decide +kernel
theorem dX11_picture_80 : decode cX11_picture 80 = .ok (.iload 10, 2) := by decide +kernel
theorem dX11_picture_82 : decode cX11_picture 82 = .ok (.invokevirtual 243, 3) := by decide +kernel
theorem dX11_picture_85 : decode cX11_picture 85 = .ok (.iadd, 1) := by decide +kernel
theorem dX11_picture_86 : decode cX11_picture 86 = .ok (.istore 9, 2) := by decide +kernel
theorem dX11_picture_88 : decode cX11_picture 88 = .ok (.iinc 11 1, 3) := by decide +kernel
theorem dX11_picture_91 : decode cX11_picture 91 = .ok (.goto (-28), 3) := by decide +kernel
theorem dX11_picture_94 : decode cX11_picture 94 = .ok (.iinc 10 1, 3) := by decide +kernel
theorem dX11_picture_97 : decode cX11_picture 97 = .ok (.goto (-50), 3) := by decide +kernel
theorem dX11_picture_100 : decode cX11_picture 100 = .ok (.iload 9, 2) := by decide +kernel
theorem dX11_picture_102 : decode cX11_picture 102 = .ok (.ireturn, 1) := by decide +kernel
theorem dX11_seen_0 : decode cX11_seen 0 = .ok (.iload_n 1, 1) := by decide +kernel
theorem dX11_seen_1 : decode cX11_seen 1 = .ok (.iconst (-1), 1) := by decide +kernel
theorem dX11_seen_2 : decode cX11_seen 2 = .ok (.if_icmp .ge 5, 3) := by decide +kernel
theorem dX11_seen_5 : decode cX11_seen 5 = .ok (.iconst (-1), 1) := by decide +kernel
theorem dX11_seen_6 : decode cX11_seen 6 = .ok (.ireturn, 1) := by decide +kernel
theorem dX11_seen_7 : decode cX11_seen 7 = .ok (.aload_n 0, 1) := by decide +kernel
theorem dX11_seen_8 : decode cX11_seen 8 = .ok (.invokevirtual 261, 3) := by decide +kernel
theorem dX11_seen_11 : decode cX11_seen 11 = .ok (.iconst 0, 1) := by decide +kernel
theorem dX11_seen_12 : decode cX11_seen 12 = .ok (.istore_n 2, 1) := by decide +kernel
theorem dX11_seen_13 : decode cX11_seen 13 = .ok (.iload_n 2, 1) := by decide +kernel
theorem dX11_seen_14 : decode cX11_seen 14 = .ok (.aload_n 0, 1) := by decide +kernel
theorem dX11_seen_15 : decode cX11_seen 15 = .ok (.getfield 26, 3) := by decide +kernel
theorem dX11_seen_18 : decode cX11_seen 18 = .ok (.getfield 255, 3) := by decide +kernel
theorem dX11_seen_21 : decode cX11_seen 21 = .ok (.if_icmp .ge 61, 3) := by decide +kernel
theorem dX11_seen_24 : decode cX11_seen 24 = .ok (.iconst 0, 1) := by decide +kernel
theorem dX11_seen_25 : decode cX11_seen 25 = .ok (.istore_n 3, 1) := by decide +kernel
theorem dX11_seen_26 : decode cX11_seen 26 = .ok (.iload_n 3, 1) := by decide +kernel
theorem dX11_seen_27 : decode cX11_seen 27 = .ok (.aload_n 0, 1) := by decide +kernel
theorem dX11_seen_28 : decode cX11_seen 28 = .ok (.getfield 26, 3) := by decide +kernel
theorem dX11_seen_31 : decode cX11_seen 31 = .ok (.getfield 246, 3) := by decide +kernel
theorem dX11_seen_34 : decode cX11_seen 34 = .ok (.if_icmp .ge 42, 3) := by decide +kernel
theorem dX11_seen_37 : decode cX11_seen 37 = .ok (.aload_n 0, 1) := by decide +kernel
theorem dX11_seen_38 : decode cX11_seen 38 = .ok (.iload_n 3, 1) := by decide +kernel
theorem dX11_seen_39 : decode cX11_seen 39 = .ok (.iload_n 2, 1) := by decide +kernel
theorem dX11_seen_40 : decode cX11_seen 40 = .ok (.aload_n 0, 1) := by decide +kernel
theorem dX11_seen_41 : decode cX11_seen 41 = .ok (.getfield 58, 3) := by decide +kernel
theorem dX11_seen_44 : decode cX11_seen 44 = .ok (.invokevirtual 178, 3) := by decide +kernel
theorem dX11_seen_47 : decode cX11_seen 47 = .ok (.aload_n 0, 1) := by decide +kernel
theorem dX11_seen_48 : decode cX11_seen 48 = .ok (.getfield 58, 3) := by decide +kernel
theorem dX11_seen_51 : decode cX11_seen 51 = .ok (.invokevirtual 185, 3) := by decide +kernel
theorem dX11_seen_54 : decode cX11_seen 54 = .ok (.ifCond .eq 16, 3) := by decide +kernel
theorem dX11_seen_57 : decode cX11_seen 57 = .ok (.aload_n 0, 1) := by decide +kernel
theorem dX11_seen_58 : decode cX11_seen 58 = .ok (.getfield 85, 3) := by decide +kernel
theorem dX11_seen_61 : decode cX11_seen 61 = .ok (.aload_n 0, 1) := by decide +kernel
theorem dX11_seen_62 : decode cX11_seen 62 = .ok (.getfield 58, 3) := by decide +kernel
theorem dX11_seen_65 : decode cX11_seen 65 = .ok (.getfield 182, 3) := by decide +kernel
theorem dX11_seen_68 : decode cX11_seen 68 = .ok (.iconst 1, 1) := by decide +kernel
theorem dX11_seen_69 : decode cX11_seen 69 = .ok (.bastore, 1) := by decide +kernel
theorem dX11_seen_70 : decode cX11_seen 70 = .ok (.iinc 3 1, 3) := by decide +kernel
theorem dX11_seen_73 : decode cX11_seen 73 = .ok (.goto (-47), 3) := by decide +kernel
theorem dX11_seen_76 : decode cX11_seen 76 = .ok (.iinc 2 1, 3) := by decide +kernel
theorem dX11_seen_79 : decode cX11_seen 79 = .ok (.goto (-66), 3) := by decide +kernel
theorem dX11_seen_82 : decode cX11_seen 82 = .ok (.aload_n 0, 1) := by decide +kernel
theorem dX11_seen_83 : decode cX11_seen 83 = .ok (.iload_n 1, 1) := by decide +kernel
theorem dX11_seen_84 : decode cX11_seen 84 = .ok (.invokevirtual 264, 3) := by decide +kernel
theorem dX11_seen_87 : decode cX11_seen 87 = .ok (.ireturn, 1) := by decide +kernel
theorem dX11_facing_0 : decode cX11_facing 0 = .ok (.aload_n 0, 1) := by decide +kernel
theorem dX11_facing_1 : decode cX11_facing 1 = .ok (.getfield 19, 3) := by decide +kernel
theorem dX11_facing_4 : decode cX11_facing 4 = .ok (.iload_n 1, 1) := by decide +kernel
theorem dX11_facing_5 : decode cX11_facing 5 = .ok (.invokevirtual 113, 3) := by decide +kernel
theorem dX11_facing_8 : decode cX11_facing 8 = .ok (.ifCond .eq 14, 3) := by decide +kernel
theorem dX11_facing_11 : decode cX11_facing 11 = .ok (.aload_n 0, 1) := by decide +kernel
theorem dX11_facing_12 : decode cX11_facing 12 = .ok (.iload_n 1, 1) := by decide +kernel
theorem dX11_facing_13 : decode cX11_facing 13 = .ok (.invokevirtual 267, 3) := by decide +kernel
theorem dX11_facing_16 : decode cX11_facing 16 = .ok (.invokestatic 270, 3) := by decide +kernel
theorem dX11_facing_19 : decode cX11_facing 19 = .ok (.goto 5, 3) := by decide +kernel
theorem dX11_facing_22 : decode cX11_facing 22 = .ok (.bipush (-2), 2) := by decide +kernel
theorem dX11_facing_24 : decode cX11_facing 24 = .ok (.ireturn, 1) := by decide +kernel
theorem dX11_touched_0 : decode cX11_touched 0 = .ok (.iload_n 1, 1) := by decide +kernel
theorem dX11_touched_1 : decode cX11_touched 1 = .ok (.iconst (-1), 1) := by decide +kernel
theorem dX11_touched_2 : decode cX11_touched 2 = .ok (.if_icmp .lt 14, 3) := by decide +kernel
theorem dX11_touched_5 : decode cX11_touched 5 = .ok (.aload_n 0, 1) := by decide +kernel
theorem dX11_touched_6 : decode cX11_touched 6 = .ok (.getfield 12, 3) := by decide +kernel
theorem dX11_touched_9 : decode cX11_touched 9 = .ok (.invokevirtual 97, 3) := by decide +kernel
theorem dX11_touched_12 : decode cX11_touched 12 = .ok (.iconst 2, 1) := by decide +kernel
theorem dX11_touched_13 : decode cX11_touched 13 = .ok (.if_icmp .ge 5, 3) := by decide +kernel
theorem dX11_touched_16 : decode cX11_touched 16 = .ok (.iconst (-1), 1) := by decide +kernel
theorem dX11_touched_17 : decode cX11_touched 17 = .ok (.ireturn, 1) := by decide +kernel
theorem dX11_touched_18 : decode cX11_touched 18 = .ok (.aload_n 0, 1) := by decide +kernel
theorem dX11_touched_19 : decode cX11_touched 19 = .ok (.getfield 81, 3) := by decide +kernel
theorem dX11_touched_22 : decode cX11_touched 22 = .ok (.aload_n 0, 1) := by decide +kernel
theorem dX11_touched_23 : decode cX11_touched 23 = .ok (.getfield 12, 3) := by decide +kernel
theorem dX11_touched_26 : decode cX11_touched 26 = .ok (.invokevirtual 274, 3) := by decide +kernel
theorem dX11_touched_29 : decode cX11_touched 29 = .ok (.iconst 0, 1) := by decide +kernel
theorem dX11_touched_30 : decode cX11_touched 30 = .ok (.istore_n 2, 1) := by decide +kernel
theorem dX11_touched_31 : decode cX11_touched 31 = .ok (.iload_n 2, 1) := by decide +kernel
theorem dX11_touched_32 : decode cX11_touched 32 = .ok (.aload_n 0, 1) := by decide +kernel
theorem dX11_touched_33 : decode cX11_touched 33 = .ok (.getfield 19, 3) := by decide +kernel
theorem dX11_touched_36 : decode cX11_touched 36 = .ok (.invokevirtual 199, 3) := by decide +kernel
theorem dX11_touched_39 : decode cX11_touched 39 = .ok (.if_icmp .ge 27, 3) := by decide +kernel
theorem dX11_touched_42 : decode cX11_touched 42 = .ok (.aload_n 0, 1) := by decide +kernel
theorem dX11_touched_43 : decode cX11_touched 43 = .ok (.getfield 85, 3) := by decide +kernel
theorem dX11_touched_46 : decode cX11_touched 46 = .ok (.iload_n 2, 1) := by decide +kernel
theorem dX11_touched_47 : decode cX11_touched 47 = .ok (.aload_n 0, 1) := by decide +kernel
theorem dX11_touched_48 : decode cX11_touched 48 = .ok (.getfield 81, 3) := by decide +kernel
theorem dX11_touched_51 : decode cX11_touched 51 = .ok (.aload_n 0, 1) := by decide +kernel
theorem dX11_touched_52 : decode cX11_touched 52 = .ok (.getfield 19, 3) := by decide +kernel
theorem dX11_touched_55 : decode cX11_touched 55 = .ok (.iload_n 2, 1) := by decide +kernel
theorem dX11_touched_56 : decode cX11_touched 56 = .ok (.invokevirtual 277, 3) := by decide +kernel
theorem dX11_touched_59 : decode cX11_touched 59 = .ok (.bastore, 1) := by decide +kernel
theorem dX11_touched_60 : decode cX11_touched 60 = .ok (.iinc 2 1, 3) := by decide +kernel
theorem dX11_touched_63 : decode cX11_touched 63 = .ok (.goto (-32), 3) := by decide +kernel
theorem dX11_touched_66 : decode cX11_touched 66 = .ok (.aload_n 0, 1) := by decide +kernel
theorem dX11_touched_67 : decode cX11_touched 67 = .ok (.iload_n 1, 1) := by decide +kernel
theorem dX11_touched_68 : decode cX11_touched 68 = .ok (.invokevirtual 264, 3) := by decide +kernel
theorem dX11_touched_71 : decode cX11_touched 71 = .ok (.ireturn, 1) := by decide +kernel
theorem dX11_shared_0 : decode cX11_shared 0 = .ok (.aload_n 0, 1) := by decide +kernel
theorem dX11_shared_1 : decode cX11_shared 1 = .ok (.getfield 19, 3) := by decide +kernel
theorem dX11_shared_4 : decode cX11_shared 4 = .ok (.iload_n 1, 1) := by decide +kernel
theorem dX11_shared_5 : decode cX11_shared 5 = .ok (.invokevirtual 113, 3) := by decide +kernel
theorem dX11_shared_8 : decode cX11_shared 8 = .ok (.ifCond .eq 19, 3) := by decide +kernel
theorem dX11_shared_11 : decode cX11_shared 11 = .ok (.aload_n 0, 1) := by decide +kernel
theorem dX11_shared_12 : decode cX11_shared 12 = .ok (.getfield 19, 3) := by decide +kernel
theorem dX11_shared_15 : decode cX11_shared 15 = .ok (.iload_n 2, 1) := by decide +kernel
theorem dX11_shared_16 : decode cX11_shared 16 = .ok (.invokevirtual 113, 3) := by decide +kernel
theorem dX11_shared_19 : decode cX11_shared 19 = .ok (.ifCond .eq 8, 3) := by decide +kernel
theorem dX11_shared_22 : decode cX11_shared 22 = .ok (.iload_n 1, 1) := by decide +kernel
theorem dX11_shared_23 : decode cX11_shared 23 = .ok (.iload_n 2, 1) := by decide +kernel
theorem dX11_shared_24 : decode cX11_shared 24 = .ok (.if_icmp .ne 5, 3) := by decide +kernel
theorem dX11_shared_27 : decode cX11_shared 27 = .ok (.iconst (-1), 1) := by decide +kernel
theorem dX11_shared_28 : decode cX11_shared 28 = .ok (.ireturn, 1) := by decide +kernel
theorem dX11_shared_29 : decode cX11_shared 29 = .ok (.aload_n 0, 1) := by decide +kernel
theorem dX11_shared_30 : decode cX11_shared 30 = .ok (.getfield 19, 3) := by decide +kernel
theorem dX11_shared_33 : decode cX11_shared 33 = .ok (.iload_n 1, 1) := by decide +kernel
theorem dX11_shared_34 : decode cX11_shared 34 = .ok (.iload_n 2, 1) := by decide +kernel
theorem dX11_shared_35 : decode cX11_shared 35 = .ok (.invokevirtual 280, 3) := by decide +kernel
theorem dX11_shared_38 : decode cX11_shared 38 = .ok (.ireturn, 1) := by decide +kernel
theorem dX11_count_0 : decode cX11_count 0 = .ok (.iload_n 1, 1) := by decide +kernel
theorem dX11_count_1 : decode cX11_count 1 = .ok (.tableswitch 111 0 7 #[47, 55, 63, 71, 79, 87, 95, 103], 47) := by decide +kernel
theorem dX11_count_48 : decode cX11_count 48 = .ok (.aload_n 0, 1) := by decide +kernel
theorem dX11_count_49 : decode cX11_count 49 = .ok (.getfield 19, 3) := by decide +kernel
theorem dX11_count_52 : decode cX11_count 52 = .ok (.invokevirtual 199, 3) := by decide +kernel
theorem dX11_count_55 : decode cX11_count 55 = .ok (.ireturn, 1) := by decide +kernel
theorem dX11_count_56 : decode cX11_count 56 = .ok (.aload_n 0, 1) := by decide +kernel
theorem dX11_count_57 : decode cX11_count 57 = .ok (.getfield 12, 3) := by decide +kernel
theorem dX11_count_60 : decode cX11_count 60 = .ok (.invokevirtual 97, 3) := by decide +kernel
theorem dX11_count_63 : decode cX11_count 63 = .ok (.ireturn, 1) := by decide +kernel
theorem dX11_count_64 : decode cX11_count 64 = .ok (.aload_n 0, 1) := by decide +kernel
theorem dX11_count_65 : decode cX11_count 65 = .ok (.getfield 40, 3) := by decide +kernel
theorem dX11_count_68 : decode cX11_count 68 = .ok (.invokevirtual 152, 3) := by decide +kernel
theorem dX11_count_71 : decode cX11_count 71 = .ok (.ireturn, 1) := by decide +kernel
theorem dX11_count_72 : decode cX11_count 72 = .ok (.aload_n 0, 1) := by decide +kernel
theorem dX11_count_73 : decode cX11_count 73 = .ok (.getfield 26, 3) := by decide +kernel
theorem dX11_count_76 : decode cX11_count 76 = .ok (.getfield 246, 3) := by decide +kernel
theorem dX11_count_79 : decode cX11_count 79 = .ok (.ireturn, 1) := by decide +kernel
theorem dX11_count_80 : decode cX11_count 80 = .ok (.aload_n 0, 1) := by decide +kernel
theorem dX11_count_81 : decode cX11_count 81 = .ok (.getfield 26, 3) := by decide +kernel
theorem dX11_count_84 : decode cX11_count 84 = .ok (.getfield 255, 3) := by decide +kernel
theorem dX11_count_87 : decode cX11_count 87 = .ok (.ireturn, 1) := by decide +kernel
theorem dX11_count_88 : decode cX11_count 88 = .ok (.aload_n 0, 1) := by decide +kernel
theorem dX11_count_89 : decode cX11_count 89 = .ok (.getfield 33, 3) := by decide +kernel
theorem dX11_count_92 : decode cX11_count 92 = .ok (.invokevirtual 283, 3) := by decide +kernel
theorem dX11_count_95 : decode cX11_count 95 = .ok (.ireturn, 1) := by decide +kernel
theorem dX11_count_96 : decode cX11_count 96 = .ok (.aload_n 0, 1) := by decide +kernel
theorem dX11_count_97 : decode cX11_count 97 = .ok (.getfield 40, 3) := by decide +kernel
theorem dX11_count_100 : decode cX11_count 100 = .ok (.invokevirtual 286, 3) := by decide +kernel
theorem dX11_count_103 : decode cX11_count 103 = .ok (.ireturn, 1) := by decide +kernel
theorem dX11_count_104 : decode cX11_count 104 = .ok (.aload_n 0, 1) := by decide +kernel
theorem dX11_count_105 : decode cX11_count 105 = .ok (.getfield 47, 3) := by decide +kernel
theorem dX11_count_108 : decode cX11_count 108 = .ok (.invokevirtual 215, 3) := by decide +kernel
theorem dX11_count_111 : decode cX11_count 111 = .ok (.ireturn, 1) := by decide +kernel
theorem dX11_count_112 : decode cX11_count 112 = .ok (.iconst (-1), 1) := by decide +kernel
theorem dX11_count_113 : decode cX11_count 113 = .ok (.ireturn, 1) := by decide +kernel
theorem dX11_isByte_0 : decode cX11_isByte 0 = .ok (.iload_n 0, 1) := by decide +kernel
theorem dX11_isByte_1 : decode cX11_isByte 1 = .ok (.ifCond .lt 14, 3) := by decide +kernel
theorem dX11_isByte_4 : decode cX11_isByte 4 = .ok (.iload_n 0, 1) := by decide +kernel
theorem dX11_isByte_5 : decode cX11_isByte 5 = .ok (.sipush 255, 3) := by decide +kernel
theorem dX11_isByte_8 : decode cX11_isByte 8 = .ok (.if_icmp .gt 7, 3) := by decide +kernel
theorem dX11_isByte_11 : decode cX11_isByte 11 = .ok (.iconst 1, 1) := by decide +kernel
theorem dX11_isByte_12 : decode cX11_isByte 12 = .ok (.goto 4, 3) := by decide +kernel
theorem dX11_isByte_15 : decode cX11_isByte 15 = .ok (.iconst 0, 1) := by decide +kernel
theorem dX11_isByte_16 : decode cX11_isByte 16 = .ok (.ireturn, 1) := by decide +kernel
theorem dX11_sign_0 : decode cX11_sign 0 = .ok (.lload_n 0, 1) := by decide +kernel
theorem dX11_sign_1 : decode cX11_sign 1 = .ok (.lconst 0, 1) := by decide +kernel
theorem dX11_sign_2 : decode cX11_sign 2 = .ok (.lcmp, 1) := by decide +kernel
theorem dX11_sign_3 : decode cX11_sign 3 = .ok (.ifCond .ne 5, 3) := by decide +kernel
theorem dX11_sign_6 : decode cX11_sign 6 = .ok (.iconst 0, 1) := by decide +kernel
theorem dX11_sign_7 : decode cX11_sign 7 = .ok (.ireturn, 1) := by decide +kernel
theorem dX11_sign_8 : decode cX11_sign 8 = .ok (.lload_n 0, 1) := by decide +kernel
theorem dX11_sign_9 : decode cX11_sign 9 = .ok (.lconst 0, 1) := by decide +kernel
theorem dX11_sign_10 : decode cX11_sign 10 = .ok (.lcmp, 1) := by decide +kernel
theorem dX11_sign_11 : decode cX11_sign 11 = .ok (.ifCond .le 7, 3) := by decide +kernel
theorem dX11_sign_14 : decode cX11_sign 14 = .ok (.iconst 1, 1) := by decide +kernel
theorem dX11_sign_15 : decode cX11_sign 15 = .ok (.goto 4, 3) := by decide +kernel
theorem dX11_sign_18 : decode cX11_sign 18 = .ok (.iconst (-1), 1) := by decide +kernel
theorem dX11_sign_19 : decode cX11_sign 19 = .ok (.ireturn, 1) := by decide +kernel
theorem dX11_look_0 : decode cX11_look 0 = .ok (.aload_n 0, 1) := by decide +kernel
theorem dX11_look_1 : decode cX11_look 1 = .ok (.getfield 26, 3) := by decide +kernel
theorem dX11_look_4 : decode cX11_look 4 = .ok (.iload_n 1, 1) := by decide +kernel
theorem dX11_look_5 : decode cX11_look 5 = .ok (.iload_n 2, 1) := by decide +kernel
theorem dX11_look_6 : decode cX11_look 6 = .ok (.aload_n 0, 1) := by decide +kernel
theorem dX11_look_7 : decode cX11_look 7 = .ok (.getfield 64, 3) := by decide +kernel
theorem dX11_look_10 : decode cX11_look 10 = .ok (.invokevirtual 195, 3) := by decide +kernel
theorem dX11_look_13 : decode cX11_look 13 = .ok (.aload_n 3, 1) := by decide +kernel
theorem dX11_look_14 : decode cX11_look 14 = .ok (.invokevirtual 289, 3) := by decide +kernel
theorem dX11_look_17 : decode cX11_look 17 = .ok (.iconst 0, 1) := by decide +kernel
theorem dX11_look_18 : decode cX11_look 18 = .ok (.istore 4, 2) := by decide +kernel
theorem dX11_look_20 : decode cX11_look 20 = .ok (.iload 4, 2) := by decide +kernel
theorem dX11_look_22 : decode cX11_look 22 = .ok (.aload_n 0, 1) := by decide +kernel
theorem dX11_look_23 : decode cX11_look 23 = .ok (.getfield 19, 3) := by decide +kernel
theorem dX11_look_26 : decode cX11_look 26 = .ok (.invokevirtual 199, 3) := by decide +kernel
theorem dX11_look_29 : decode cX11_look 29 = .ok (.if_icmp .ge 46, 3) := by decide +kernel
theorem dX11_look_32 : decode cX11_look 32 = .ok (.aload_n 0, 1) := by decide +kernel
theorem dX11_look_33 : decode cX11_look 33 = .ok (.getfield 64, 3) := by decide +kernel
theorem dX11_look_36 : decode cX11_look 36 = .ok (.aload_n 0, 1) := by decide +kernel
theorem dX11_look_37 : decode cX11_look 37 = .ok (.getfield 19, 3) := by decide +kernel
theorem dX11_look_40 : decode cX11_look 40 = .ok (.iload 4, 2) := by decide +kernel
theorem dX11_look_42 : decode cX11_look 42 = .ok (.invokevirtual 200, 3) := by decide +kernel
theorem dX11_look_45 : decode cX11_look 45 = .ok (.ifCond .eq 24, 3) := by decide +kernel
theorem dX11_look_48 : decode cX11_look 48 = .ok (.aload_n 3, 1) := by decide +kernel
theorem dX11_look_49 : decode cX11_look 49 = .ok (.aload_n 0, 1) := by decide +kernel
theorem dX11_look_50 : decode cX11_look 50 = .ok (.getfield 64, 3) := by decide +kernel
theorem dX11_look_53 : decode cX11_look 53 = .ok (.invokevirtual 290, 3) := by decide +kernel
theorem dX11_look_56 : decode cX11_look 56 = .ok (.ifCond .eq 13, 3) := by decide +kernel
theorem dX11_look_59 : decode cX11_look 59 = .ok (.aload_n 3, 1) := by decide +kernel
theorem dX11_look_60 : decode cX11_look 60 = .ok (.aload_n 0, 1) := by decide +kernel
theorem dX11_look_61 : decode cX11_look 61 = .ok (.getfield 64, 3) := by decide +kernel
theorem dX11_look_64 : decode cX11_look 64 = .ok (.iload 4, 2) := by decide +kernel
theorem dX11_look_66 : decode cX11_look 66 = .ok (.invokevirtual 294, 3) := by decide +kernel
theorem dX11_look_69 : decode cX11_look 69 = .ok (.iinc 4 1, 3) := by decide +kernel
theorem dX11_look_72 : decode cX11_look 72 = .ok (.goto (-52), 3) := by decide +kernel
theorem dX11_look_75 : decode cX11_look 75 = .ok (.return_, 1) := by decide +kernel
theorem dX11_eyeSide_0 : decode cX11_eyeSide 0 = .ok (.aload_n 0, 1) := by decide +kernel
theorem dX11_eyeSide_1 : decode cX11_eyeSide 1 = .ok (.getfield 19, 3) := by decide +kernel
theorem dX11_eyeSide_4 : decode cX11_eyeSide 4 = .ok (.iload_n 1, 1) := by decide +kernel
theorem dX11_eyeSide_5 : decode cX11_eyeSide 5 = .ok (.aload_n 0, 1) := by decide +kernel
theorem dX11_eyeSide_6 : decode cX11_eyeSide 6 = .ok (.getfield 26, 3) := by decide +kernel
theorem dX11_eyeSide_9 : decode cX11_eyeSide 9 = .ok (.getfield 298, 3) := by decide +kernel
theorem dX11_eyeSide_12 : decode cX11_eyeSide 12 = .ok (.iconst 0, 1) := by decide +kernel
theorem dX11_eyeSide_13 : decode cX11_eyeSide 13 = .ok (.iaload, 1) := by decide +kernel
theorem dX11_eyeSide_14 : decode cX11_eyeSide 14 = .ok (.i2l, 1) := by decide +kernel
theorem dX11_eyeSide_15 : decode cX11_eyeSide 15 = .ok (.aload_n 0, 1) := by decide +kernel
theorem dX11_eyeSide_16 : decode cX11_eyeSide 16 = .ok (.getfield 26, 3) := by decide +kernel
theorem dX11_eyeSide_19 : decode cX11_eyeSide 19 = .ok (.getfield 298, 3) := by decide +kernel
theorem dX11_eyeSide_22 : decode cX11_eyeSide 22 = .ok (.iconst 1, 1) := by decide +kernel
theorem dX11_eyeSide_23 : decode cX11_eyeSide 23 = .ok (.iaload, 1) := by decide +kernel
theorem dX11_eyeSide_24 : decode cX11_eyeSide 24 = .ok (.i2l, 1) := by decide +kernel
theorem dX11_eyeSide_25 : decode cX11_eyeSide 25 = .ok (.aload_n 0, 1) := by decide +kernel
theorem dX11_eyeSide_26 : decode cX11_eyeSide 26 = .ok (.getfield 26, 3) := by decide +kernel
theorem dX11_eyeSide_29 : decode cX11_eyeSide 29 = .ok (.getfield 298, 3) := by decide +kernel
theorem dX11_eyeSide_32 : decode cX11_eyeSide 32 = .ok (.iconst 2, 1) := by decide +kernel
theorem dX11_eyeSide_33 : decode cX11_eyeSide 33 = .ok (.iaload, 1) := by decide +kernel
theorem dX11_eyeSide_34 : decode cX11_eyeSide 34 = .ok (.i2l, 1) := by decide +kernel
theorem dX11_eyeSide_35 : decode cX11_eyeSide 35 = .ok (.invokevirtual 302, 3) := by decide +kernel
theorem dX11_eyeSide_38 : decode cX11_eyeSide 38 = .ok (.lreturn, 1) := by decide +kernel
theorem dX11_lampSide_0 : decode cX11_lampSide 0 = .ok (.aload_n 0, 1) := by decide +kernel
theorem dX11_lampSide_1 : decode cX11_lampSide 1 = .ok (.getfield 19, 3) := by decide +kernel
theorem dX11_lampSide_4 : decode cX11_lampSide 4 = .ok (.iload_n 1, 1) := by decide +kernel
theorem dX11_lampSide_5 : decode cX11_lampSide 5 = .ok (.aload_n 0, 1) := by decide +kernel
theorem dX11_lampSide_6 : decode cX11_lampSide 6 = .ok (.getfield 33, 3) := by decide +kernel
theorem dX11_lampSide_9 : decode cX11_lampSide 9 = .ok (.iload_n 2, 1) := by decide +kernel
theorem dX11_lampSide_10 : decode cX11_lampSide 10 = .ok (.iconst 0, 1) := by decide +kernel
theorem dX11_lampSide_11 : decode cX11_lampSide 11 = .ok (.invokevirtual 306, 3) := by decide +kernel
theorem dX11_lampSide_14 : decode cX11_lampSide 14 = .ok (.i2l, 1) := by decide +kernel
theorem dX11_lampSide_15 : decode cX11_lampSide 15 = .ok (.aload_n 0, 1) := by decide +kernel
theorem dX11_lampSide_16 : decode cX11_lampSide 16 = .ok (.getfield 33, 3) := by decide +kernel
theorem dX11_lampSide_19 : decode cX11_lampSide 19 = .ok (.iload_n 2, 1) := by decide +kernel
theorem dX11_lampSide_20 : decode cX11_lampSide 20 = .ok (.iconst 1, 1) := by decide +kernel
theorem dX11_lampSide_21 : decode cX11_lampSide 21 = .ok (.invokevirtual 306, 3) := by decide +kernel
theorem dX11_lampSide_24 : decode cX11_lampSide 24 = .ok (.i2l, 1) := by decide +kernel
theorem dX11_lampSide_25 : decode cX11_lampSide 25 = .ok (.aload_n 0, 1) := by decide +kernel
theorem dX11_lampSide_26 : decode cX11_lampSide 26 = .ok (.getfield 33, 3) := by decide +kernel
theorem dX11_lampSide_29 : decode cX11_lampSide 29 = .ok (.iload_n 2, 1) := by decide +kernel
theorem dX11_lampSide_30 : decode cX11_lampSide 30 = .ok (.iconst 2, 1) := by decide +kernel
theorem dX11_lampSide_31 : decode cX11_lampSide 31 = .ok (.invokevirtual 306, 3) := by decide +kernel
theorem dX11_lampSide_34 : decode cX11_lampSide 34 = .ok (.i2l, 1) := by decide +kernel
theorem dX11_lampSide_35 : decode cX11_lampSide 35 = .ok (.invokevirtual 302, 3) := by decide +kernel
theorem dX11_lampSide_38 : decode cX11_lampSide 38 = .ok (.lreturn, 1) := by decide +kernel
theorem dX11_isOnEyeSide_0 : decode cX11_isOnEyeSide 0 = .ok (.aload_n 0, 1) := by decide +kernel
theorem dX11_isOnEyeSide_1 : decode cX11_isOnEyeSide 1 = .ok (.aload_n 1, 1) := by decide +kernel
theorem dX11_isOnEyeSide_2 : decode cX11_isOnEyeSide 2 = .ok (.getfield 182, 3) := by decide +kernel
theorem dX11_isOnEyeSide_5 : decode cX11_isOnEyeSide 5 = .ok (.invokevirtual 267, 3) := by decide +kernel
theorem dX11_isOnEyeSide_8 : decode cX11_isOnEyeSide 8 = .ok (.invokestatic 270, 3) := by decide +kernel
theorem dX11_isOnEyeSide_11 : decode cX11_isOnEyeSide 11 = .ok (.istore_n 3, 1) := by decide +kernel
theorem dX11_isOnEyeSide_12 : decode cX11_isOnEyeSide 12 = .ok (.iload_n 3, 1) := by decide +kernel
theorem dX11_isOnEyeSide_13 : decode cX11_isOnEyeSide 13 = .ok (.ifCond .eq 23, 3) := by decide +kernel
theorem dX11_isOnEyeSide_16 : decode cX11_isOnEyeSide 16 = .ok (.iload_n 3, 1) := by decide +kernel
theorem dX11_isOnEyeSide_17 : decode cX11_isOnEyeSide 17 = .ok (.aload_n 0, 1) := by decide +kernel
theorem dX11_isOnEyeSide_18 : decode cX11_isOnEyeSide 18 = .ok (.aload_n 1, 1) := by decide +kernel
theorem dX11_isOnEyeSide_19 : decode cX11_isOnEyeSide 19 = .ok (.getfield 182, 3) := by decide +kernel
theorem dX11_isOnEyeSide_22 : decode cX11_isOnEyeSide 22 = .ok (.iload_n 2, 1) := by decide +kernel
theorem dX11_isOnEyeSide_23 : decode cX11_isOnEyeSide 23 = .ok (.invokevirtual 309, 3) := by decide +kernel
theorem dX11_isOnEyeSide_26 : decode cX11_isOnEyeSide 26 = .ok (.invokestatic 270, 3) := by decide +kernel
theorem dX11_isOnEyeSide_29 : decode cX11_isOnEyeSide 29 = .ok (.if_icmp .ne 7, 3) := by decide +kernel
theorem dX11_isOnEyeSide_32 : decode cX11_isOnEyeSide 32 = .ok (.iconst 1, 1) := by decide +kernel
theorem dX11_isOnEyeSide_33 : decode cX11_isOnEyeSide 33 = .ok (.goto 4, 3) := by decide +kernel
theorem dX11_isOnEyeSide_36 : decode cX11_isOnEyeSide 36 = .ok (.iconst 0, 1) := by decide +kernel
theorem dX11_isOnEyeSide_37 : decode cX11_isOnEyeSide 37 = .ok (.ireturn, 1) := by decide +kernel
theorem dX11_levelOf_0 : decode cX11_levelOf 0 = .ok (.aload_n 0, 1) := by decide +kernel
theorem dX11_levelOf_1 : decode cX11_levelOf 1 = .ok (.aload_n 1, 1) := by decide +kernel
theorem dX11_levelOf_2 : decode cX11_levelOf 2 = .ok (.iload_n 2, 1) := by decide +kernel
theorem dX11_levelOf_3 : decode cX11_levelOf 3 = .ok (.invokevirtual 232, 3) := by decide +kernel
theorem dX11_levelOf_6 : decode cX11_levelOf 6 = .ok (.ifCond .ne 6, 3) := by decide +kernel
theorem dX11_levelOf_9 : decode cX11_levelOf 9 = .ok (.bipush (-2), 2) := by decide +kernel
theorem dX11_levelOf_11 : decode cX11_levelOf 11 = .ok (.ireturn, 1) := by decide +kernel
theorem dX11_levelOf_12 : decode cX11_levelOf 12 = .ok (.aload_n 0, 1) := by decide +kernel
theorem dX11_levelOf_13 : decode cX11_levelOf 13 = .ok (.getfield 33, 3) := by decide +kernel
theorem dX11_levelOf_16 : decode cX11_levelOf 16 = .ok (.iload_n 2, 1) := by decide +kernel
theorem dX11_levelOf_17 : decode cX11_levelOf 17 = .ok (.aload_n 1, 1) := by decide +kernel
theorem dX11_levelOf_18 : decode cX11_levelOf 18 = .ok (.aload_n 0, 1) := by decide +kernel
theorem dX11_levelOf_19 : decode cX11_levelOf 19 = .ok (.getfield 68, 3) := by decide +kernel
theorem dX11_levelOf_22 : decode cX11_levelOf 22 = .ok (.invokevirtual 236, 3) := by decide +kernel
theorem dX11_levelOf_25 : decode cX11_levelOf 25 = .ok (.aload_n 0, 1) := by decide +kernel
theorem dX11_levelOf_26 : decode cX11_levelOf 26 = .ok (.aload_n 1, 1) := by decide +kernel
theorem dX11_levelOf_27 : decode cX11_levelOf 27 = .ok (.invokevirtual 239, 3) := by decide +kernel
theorem dX11_levelOf_30 : decode cX11_levelOf 30 = .ok (.bipush (-2), 2) := by decide +kernel
theorem dX11_levelOf_32 : decode cX11_levelOf 32 = .ok (.if_icmp .eq 6, 3) := by decide +kernel
theorem dX11_levelOf_35 : decode cX11_levelOf 35 = .ok (.bipush (-2), 2) := by decide +kernel
theorem dX11_levelOf_37 : decode cX11_levelOf 37 = .ok (.ireturn, 1) := by decide +kernel
theorem dX11_levelOf_38 : decode cX11_levelOf 38 = .ok (.aload_n 0, 1) := by decide +kernel
theorem dX11_levelOf_39 : decode cX11_levelOf 39 = .ok (.aload_n 1, 1) := by decide +kernel
theorem dX11_levelOf_40 : decode cX11_levelOf 40 = .ok (.getfield 182, 3) := by decide +kernel
