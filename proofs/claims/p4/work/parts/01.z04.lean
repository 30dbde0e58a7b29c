theorem dX11_size_0 : decode cX11_size 0 = .ok (.iload_n 0, 1) := by decide +kernel
theorem dX11_size_1 : decode cX11_size 1 = .ok (.ifCond .ge 8, 3) := by decide +kernel
theorem dX11_size_4 : decode cX11_size 4 = .ok (.iload_n 0, 1) := by decide +kernel
theorem dX11_size_5 : decode cX11_size 5 = .ok (.ineg, 1) := by decide +kernel
theorem dX11_size_6 : decode cX11_size 6 = .ok (.goto 4, 3) := by decide +kernel
theorem dX11_size_9 : decode cX11_size 9 = .ok (.iload_n 0, 1) := by decide +kernel
theorem dX11_size_10 : decode cX11_size 10 = .ok (.ireturn, 1) := by decide +kernel
theorem dX11_isSower_0 : decode cX11_isSower 0 = .ok (.iload_n 0, 1) := by decide +kernel
theorem dX11_isSower_1 : decode cX11_isSower 1 = .ok (.i2l, 1) := by decide +kernel
theorem dX11_isSower_2 : decode cX11_isSower 2 = .ok (.lconst 0, 1) := by decide +kernel
theorem dX11_isSower_3 : decode cX11_isSower 3 = .ok (.ldc2_w 50, 3) := by decide +kernel
theorem dX11_isSower_6 : decode cX11_isSower 6 = .ok (.invokestatic 52, 3) := by decide +kernel
theorem dX11_isSower_9 : decode cX11_isSower 9 = .ok (.ireturn, 1) := by decide +kernel
theorem dX11_isCell_0 : decode cX11_isCell 0 = .ok (.iload_n 0, 1) := by decide +kernel
theorem dX11_isCell_1 : decode cX11_isCell 1 = .ok (.i2l, 1) := by decide +kernel
theorem dX11_isCell_2 : decode cX11_isCell 2 = .ok (.lconst 0, 1) := by decide +kernel
theorem dX11_isCell_3 : decode cX11_isCell 3 = .ok (.ldc2_w 56, 3) := by decide +kernel
theorem dX11_isCell_6 : decode cX11_isCell 6 = .ok (.invokestatic 52, 3) := by decide +kernel
theorem dX11_isCell_9 : decode cX11_isCell 9 = .ok (.ireturn, 1) := by decide +kernel
theorem dX11_isKind_0 : decode cX11_isKind 0 = .ok (.iload_n 0, 1) := by decide +kernel
theorem dX11_isKind_1 : decode cX11_isKind 1 = .ok (.i2l, 1) := by decide +kernel
theorem dX11_isKind_2 : decode cX11_isKind 2 = .ok (.lconst 0, 1) := by decide +kernel
theorem dX11_isKind_3 : decode cX11_isKind 3 = .ok (.ldc2_w 50, 3) := by decide +kernel
theorem dX11_isKind_6 : decode cX11_isKind 6 = .ok (.invokestatic 52, 3) := by decide +kernel
theorem dX11_isKind_9 : decode cX11_isKind 9 = .ok (.ireturn, 1) := by decide +kernel
theorem dX11_stepX_0 : decode cX11_stepX 0 = .ok (.iload_n 0, 1) := by decide +kernel
theorem dX11_stepX_1 : decode cX11_stepX 1 = .ok (.i2l, 1) := by decide +kernel
theorem dX11_stepX_2 : decode cX11_stepX 2 = .ok (.lconst 1, 1) := by decide +kernel
theorem dX11_stepX_3 : decode cX11_stepX 3 = .ok (.ldc2_w 50, 3) := by decide +kernel
theorem dX11_stepX_6 : decode cX11_stepX 6 = .ok (.invokestatic 52, 3) := by decide +kernel
theorem dX11_stepX_9 : decode cX11_stepX 9 = .ok (.ifCond .eq 7, 3) := by decide +kernel
theorem dX11_stepX_12 : decode cX11_stepX 12 = .ok (.iconst 1, 1) := by decide +kernel
theorem dX11_stepX_13 : decode cX11_stepX 13 = .ok (.goto 22, 3) := by decide +kernel
theorem dX11_stepX_16 : decode cX11_stepX 16 = .ok (.iload_n 0, 1) := by decide +kernel
theorem dX11_stepX_17 : decode cX11_stepX 17 = .ok (.i2l, 1) := by decide +kernel
theorem dX11_stepX_18 : decode cX11_stepX 18 = .ok (.ldc2_w 58, 3) := by decide +kernel
theorem dX11_stepX_21 : decode cX11_stepX 21 = .ok (.ldc2_w 60, 3) := by decide +kernel
theorem dX11_stepX_24 : decode cX11_stepX 24 = .ok (.invokestatic 52, 3) := by decide +kernel
theorem dX11_stepX_27 : decode cX11_stepX 27 = .ok (.ifCond .eq 7, 3) := by decide +kernel
theorem dX11_stepX_30 : decode cX11_stepX 30 = .ok (.iconst (-1), 1) := by decide +kernel
theorem dX11_stepX_31 : decode cX11_stepX 31 = .ok (.goto 4, 3) := by decide +kernel
theorem dX11_stepX_34 : decode cX11_stepX 34 = .ok (.iconst 0, 1) := by decide +kernel
theorem dX11_stepX_35 : decode cX11_stepX 35 = .ok (.ireturn, 1) := by decide +kernel
theorem dX11_stepY_0 : decode cX11_stepY 0 = .ok (.iload_n 0, 1) := by decide +kernel
theorem dX11_stepY_1 : decode cX11_stepY 1 = .ok (.i2l, 1) := by decide +kernel
theorem dX11_stepY_2 : decode cX11_stepY 2 = .ok (.ldc2_w 50, 3) := by decide +kernel
theorem dX11_stepY_5 : decode cX11_stepY 5 = .ok (.ldc2_w 58, 3) := by decide +kernel
theorem dX11_stepY_8 : decode cX11_stepY 8 = .ok (.invokestatic 52, 3) := by decide +kernel
theorem dX11_stepY_11 : decode cX11_stepY 11 = .ok (.ifCond .eq 7, 3) := by decide +kernel
theorem dX11_stepY_14 : decode cX11_stepY 14 = .ok (.iconst 1, 1) := by decide +kernel
theorem dX11_stepY_15 : decode cX11_stepY 15 = .ok (.goto 19, 3) := by decide +kernel
theorem dX11_stepY_18 : decode cX11_stepY 18 = .ok (.iload_n 0, 1) := by decide +kernel
theorem dX11_stepY_19 : decode cX11_stepY 19 = .ok (.iconst 2, 1) := by decide +kernel
theorem dX11_stepY_20 : decode cX11_stepY 20 = .ok (.if_icmp .lt 9, 3) := by decide +kernel
theorem dX11_stepY_23 : decode cX11_stepY 23 = .ok (.iload_n 0, 1) := by decide +kernel
theorem dX11_stepY_24 : decode cX11_stepY 24 = .ok (.bipush 7, 2) := by decide +kernel
theorem dX11_stepY_26 : decode cX11_stepY 26 = .ok (.if_icmp .ne 7, 3) := by decide +kernel
theorem dX11_stepY_29 : decode cX11_stepY 29 = .ok (.iconst (-1), 1) := by decide +kernel
theorem dX11_stepY_30 : decode cX11_stepY 30 = .ok (.goto 4, 3) := by decide +kernel
theorem dX11_stepY_33 : decode cX11_stepY 33 = .ok (.iconst 0, 1) := by decide +kernel
theorem dX11_stepY_34 : decode cX11_stepY 34 = .ok (.ireturn, 1) := by decide +kernel
theorem dX11_far_0 : decode cX11_far 0 = .ok (.iload_n 0, 1) := by decide +kernel
theorem dX11_far_1 : decode cX11_far 1 = .ok (.bipush 8, 2) := by decide +kernel
theorem dX11_far_3 : decode cX11_far 3 = .ok (.irem, 1) := by decide +kernel
theorem dX11_far_4 : decode cX11_far 4 = .ok (.iload_n 1, 1) := by decide +kernel
theorem dX11_far_5 : decode cX11_far 5 = .ok (.bipush 8, 2) := by decide +kernel
theorem dX11_far_7 : decode cX11_far 7 = .ok (.irem, 1) := by decide +kernel
theorem dX11_far_8 : decode cX11_far 8 = .ok (.isub, 1) := by decide +kernel
theorem dX11_far_9 : decode cX11_far 9 = .ok (.invokestatic 62, 3) := by decide +kernel
theorem dX11_far_12 : decode cX11_far 12 = .ok (.istore_n 2, 1) := by decide +kernel
theorem dX11_far_13 : decode cX11_far 13 = .ok (.iload_n 0, 1) := by decide +kernel
theorem dX11_far_14 : decode cX11_far 14 = .ok (.bipush 8, 2) := by decide +kernel
theorem dX11_far_16 : decode cX11_far 16 = .ok (.idiv, 1) := by decide +kernel
theorem dX11_far_17 : decode cX11_far 17 = .ok (.iload_n 1, 1) := by decide +kernel
theorem dX11_far_18 : decode cX11_far 18 = .ok (.bipush 8, 2) := by decide +kernel
theorem dX11_far_20 : decode cX11_far 20 = .ok (.idiv, 1) := by decide +kernel
theorem dX11_far_21 : decode cX11_far 21 = .ok (.isub, 1) := by decide +kernel
theorem dX11_far_22 : decode cX11_far 22 = .ok (.invokestatic 62, 3) := by decide +kernel
theorem dX11_far_25 : decode cX11_far 25 = .ok (.istore_n 3, 1) := by decide +kernel
theorem dX11_far_26 : decode cX11_far 26 = .ok (.iload_n 2, 1) := by decide +kernel
theorem dX11_far_27 : decode cX11_far 27 = .ok (.iload_n 3, 1) := by decide +kernel
theorem dX11_far_28 : decode cX11_far 28 = .ok (.if_icmp .le 7, 3) := by decide +kernel
theorem dX11_far_31 : decode cX11_far 31 = .ok (.iload_n 2, 1) := by decide +kernel
theorem dX11_far_32 : decode cX11_far 32 = .ok (.goto 4, 3) := by decide +kernel
theorem dX11_far_35 : decode cX11_far 35 = .ok (.iload_n 3, 1) := by decide +kernel
theorem dX11_far_36 : decode cX11_far 36 = .ok (.ireturn, 1) := by decide +kernel
theorem dX11_beside_0 : decode cX11_beside 0 = .ok (.iload_n 0, 1) := by decide +kernel
theorem dX11_beside_1 : decode cX11_beside 1 = .ok (.bipush 8, 2) := by decide +kernel
theorem dX11_beside_3 : decode cX11_beside 3 = .ok (.irem, 1) := by decide +kernel
theorem dX11_beside_4 : decode cX11_beside 4 = .ok (.iload_n 1, 1) := by decide +kernel
theorem dX11_beside_5 : decode cX11_beside 5 = .ok (.invokestatic 66, 3) := by decide +kernel
theorem dX11_beside_8 : decode cX11_beside 8 = .ok (.iadd, 1) := by decide +kernel
theorem dX11_beside_9 : decode cX11_beside 9 = .ok (.istore_n 2, 1) := by decide +kernel
theorem dX11_beside_10 : decode cX11_beside 10 = .ok (.iload_n 0, 1) := by decide +kernel
theorem dX11_beside_11 : decode cX11_beside 11 = .ok (.bipush 8, 2) := by decide +kernel
theorem dX11_beside_13 : decode cX11_beside 13 = .ok (.idiv, 1) := by decide +kernel
theorem dX11_beside_14 : decode cX11_beside 14 = .ok (.iload_n 1, 1) := by decide +kernel
theorem dX11_beside_15 : decode cX11_beside 15 = .ok (.invokestatic 69, 3) := by decide +kernel
theorem dX11_beside_18 : decode cX11_beside 18 = .ok (.iadd, 1) := by decide +kernel
theorem dX11_beside_19 : decode cX11_beside 19 = .ok (.istore_n 3, 1) := by decide +kernel
theorem dX11_beside_20 : decode cX11_beside 20 = .ok (.iload_n 2, 1) := by decide +kernel
theorem dX11_beside_21 : decode cX11_beside 21 = .ok (.i2l, 1) := by decide +kernel
theorem dX11_beside_22 : decode cX11_beside 22 = .ok (.lconst 0, 1) := by decide +kernel
theorem dX11_beside_23 : decode cX11_beside 23 = .ok (.ldc2_w 60, 3) := by decide +kernel
theorem dX11_beside_26 : decode cX11_beside 26 = .ok (.invokestatic 52, 3) := by decide +kernel
theorem dX11_beside_29 : decode cX11_beside 29 = .ok (.ifCond .eq 24, 3) := by decide +kernel
theorem dX11_beside_32 : decode cX11_beside 32 = .ok (.iload_n 3, 1) := by decide +kernel
theorem dX11_beside_33 : decode cX11_beside 33 = .ok (.i2l, 1) := by decide +kernel
theorem dX11_beside_34 : decode cX11_beside 34 = .ok (.lconst 0, 1) := by decide +kernel
theorem dX11_beside_35 : decode cX11_beside 35 = .ok (.ldc2_w 60, 3) := by decide +kernel
theorem dX11_beside_38 : decode cX11_beside 38 = .ok (.invokestatic 52, 3) := by decide +kernel
theorem dX11_beside_41 : decode cX11_beside 41 = .ok (.ifCond .eq 12, 3) := by decide +kernel
theorem dX11_beside_44 : decode cX11_beside 44 = .ok (.iload_n 2, 1) := by decide +kernel
theorem dX11_beside_45 : decode cX11_beside 45 = .ok (.bipush 8, 2) := by decide +kernel
theorem dX11_beside_47 : decode cX11_beside 47 = .ok (.iload_n 3, 1) := by decide +kernel
theorem dX11_beside_48 : decode cX11_beside 48 = .ok (.imul, 1) := by decide +kernel
theorem dX11_beside_49 : decode cX11_beside 49 = .ok (.iadd, 1) := by decide +kernel
theorem dX11_beside_50 : decode cX11_beside 50 = .ok (.goto 5, 3) := by decide +kernel
theorem dX11_beside_53 : decode cX11_beside 53 = .ok (.bipush (-6), 2) := by decide +kernel
theorem dX11_beside_55 : decode cX11_beside 55 = .ok (.ireturn, 1) := by decide +kernel
theorem dX11_of_0 : decode cX11_of 0 = .ok (.aload_n 0, 1) := by decide +kernel
theorem dX11_of_1 : decode cX11_of 1 = .ok (.getfield 7, 3) := by decide +kernel
theorem dX11_of_4 : decode cX11_of 4 = .ok (.bipush 8, 2) := by decide +kernel
theorem dX11_of_6 : decode cX11_of 6 = .ok (.iload_n 1, 1) := by decide +kernel
theorem dX11_of_7 : decode cX11_of 7 = .ok (.imul, 1) := by decide +kernel
theorem dX11_of_8 : decode cX11_of 8 = .ok (.iload_n 2, 1) := by decide +kernel
theorem dX11_of_9 : decode cX11_of 9 = .ok (.iadd, 1) := by decide +kernel
theorem dX11_of_10 : decode cX11_of 10 = .ok (.iaload, 1) := by decide +kernel
theorem dX11_of_11 : decode cX11_of 11 = .ok (.ireturn, 1) := by decide +kernel
theorem dX11_set_0 : decode cX11_set 0 = .ok (.iload_n 1, 1) := by decide +kernel
theorem dX11_set_1 : decode cX11_set 1 = .ok (.invokestatic 72, 3) := by decide +kernel
theorem dX11_set_4 : decode cX11_set 4 = .ok (.ifCond .ne 5, 3) := by decide +kernel
theorem dX11_set_7 : decode cX11_set 7 = .ok (.iconst (-1), 1) := by decide +kernel
theorem dX11_set_8 : decode cX11_set 8 = .ok (.ireturn, 1) := by decide +kernel
theorem dX11_set_9 : decode cX11_set 9 = .ok (.iload_n 2, 1) := by decide +kernel
theorem dX11_set_10 : decode cX11_set 10 = .ok (.ifCond .ne 8, 3) := by decide +kernel
theorem dX11_set_13 : decode cX11_set 13 = .ok (.bipush 63, 2) := by decide +kernel
theorem dX11_set_15 : decode cX11_set 15 = .ok (.goto 43, 3) := by decide +kernel
theorem dX11_set_18 : decode cX11_set 18 = .ok (.iload_n 2, 1) := by decide +kernel
theorem dX11_set_19 : decode cX11_set 19 = .ok (.iconst 1, 1) := by decide +kernel
theorem dX11_set_20 : decode cX11_set 20 = .ok (.if_icmp .ne 8, 3) := by decide +kernel
theorem dX11_set_23 : decode cX11_set 23 = .ok (.bipush 7, 2) := by decide +kernel
theorem dX11_set_25 : decode cX11_set 25 = .ok (.goto 33, 3) := by decide +kernel
theorem dX11_set_28 : decode cX11_set 28 = .ok (.iload_n 2, 1) := by decide +kernel
theorem dX11_set_29 : decode cX11_set 29 = .ok (.iconst 2, 1) := by decide +kernel
theorem dX11_set_30 : decode cX11_set 30 = .ok (.if_icmp .ne 7, 3) := by decide +kernel
theorem dX11_set_33 : decode cX11_set 33 = .ok (.iconst 3, 1) := by decide +kernel
theorem dX11_set_34 : decode cX11_set 34 = .ok (.goto 24, 3) := by decide +kernel
theorem dX11_set_37 : decode cX11_set 37 = .ok (.iload_n 2, 1) := by decide +kernel
theorem dX11_set_38 : decode cX11_set 38 = .ok (.iconst 3, 1) := by decide +kernel
theorem dX11_set_39 : decode cX11_set 39 = .ok (.if_icmp .ne 8, 3) := by decide +kernel
theorem dX11_set_42 : decode cX11_set 42 = .ok (.bipush 99, 2) := by decide +kernel
theorem dX11_set_44 : decode cX11_set 44 = .ok (.goto 14, 3) := by decide +kernel
theorem dX11_set_47 : decode cX11_set 47 = .ok (.iload_n 2, 1) := by decide +kernel
theorem dX11_set_48 : decode cX11_set 48 = .ok (.iconst 4, 1) := by decide +kernel
theorem dX11_set_49 : decode cX11_set 49 = .ok (.if_icmp .ne 7, 3) := by decide +kernel
theorem dX11_set_52 : decode cX11_set 52 = .ok (.iconst 4, 1) := by decide +kernel
theorem dX11_set_53 : decode cX11_set 53 = .ok (.goto 5, 3) := by decide +kernel
theorem dX11_set_56 : decode cX11_set 56 = .ok (.bipush 9, 2) := by decide +kernel
theorem dX11_set_58 : decode cX11_set 58 = .ok (.istore 4, 2) := by decide +kernel
theorem dX11_set_60 : decode cX11_set 60 = .ok (.iload_n 2, 1) := by decide +kernel
theorem dX11_set_61 : decode cX11_set 61 = .ok (.i2l, 1) := by decide +kernel
theorem dX11_set_62 : decode cX11_set 62 = .ok (.lconst 0, 1) := by decide +kernel
theorem dX11_set_63 : decode cX11_set 63 = .ok (.ldc2_w 58, 3) := by decide +kernel
theorem dX11_set_66 : decode cX11_set 66 = .ok (.invokestatic 52, 3) := by decide +kernel
theorem dX11_set_69 : decode cX11_set 69 = .ok (.ifCond .eq 15, 3) := by decide +kernel
theorem dX11_set_72 : decode cX11_set 72 = .ok (.iload_n 3, 1) := by decide +kernel
theorem dX11_set_73 : decode cX11_set 73 = .ok (.i2l, 1) := by decide +kernel
theorem dX11_set_74 : decode cX11_set 74 = .ok (.lconst 0, 1) := by decide +kernel
theorem dX11_set_75 : decode cX11_set 75 = .ok (.iload 4, 2) := by decide +kernel
theorem dX11_set_77 : decode cX11_set 77 = .ok (.i2l, 1) := by decide +kernel
theorem dX11_set_78 : decode cX11_set 78 = .ok (.invokestatic 52, 3) := by decide +kernel
theorem dX11_set_81 : decode cX11_set 81 = .ok (.ifCond .ne 6, 3) := by decide +kernel
theorem dX11_set_84 : decode cX11_set 84 = .ok (.bipush (-2), 2) := by decide +kernel
theorem dX11_set_86 : decode cX11_set 86 = .ok (.ireturn, 1) := by decide +kernel
theorem dX11_set_87 : decode cX11_set 87 = .ok (.aload_n 0, 1) := by decide +kernel
theorem dX11_set_88 : decode cX11_set 88 = .ok (.iload_n 1, 1) := by decide +kernel
theorem dX11_set_89 : decode cX11_set 89 = .ok (.iload_n 2, 1) := by decide +kernel
theorem dX11_set_90 : decode cX11_set 90 = .ok (.invokevirtual 76, 3) := by decide +kernel
theorem dX11_set_93 : decode cX11_set 93 = .ok (.istore 5, 2) := by decide +kernel
theorem dX11_set_95 : decode cX11_set 95 = .ok (.aload_n 0, 1) := by decide +kernel
theorem dX11_set_96 : decode cX11_set 96 = .ok (.getfield 7, 3) := by decide +kernel
theorem dX11_set_99 : decode cX11_set 99 = .ok (.bipush 8, 2) := by decide +kernel
theorem dX11_set_101 : decode cX11_set 101 = .ok (.iload_n 1, 1) := by decide +kernel
theorem dX11_set_102 : decode cX11_set 102 = .ok (.imul, 1) := by decide +kernel
theorem dX11_set_103 : decode cX11_set 103 = .ok (.iload_n 2, 1) := by decide +kernel
theorem dX11_set_104 : decode cX11_set 104 = .ok (.iadd, 1) := by decide +kernel
theorem dX11_set_105 : decode cX11_set 105 = .ok (.iload_n 3, 1) := by decide +kernel
theorem dX11_set_106 : decode cX11_set 106 = .ok (.iastore, 1) := by decide +kernel
theorem dX11_set_107 : decode cX11_set 107 = .ok (.iload 5, 2) := by decide +kernel
theorem dX11_set_109 : decode cX11_set 109 = .ok (.ireturn, 1) := by decide +kernel
theorem dX11_post_0 : decode cX11_post 0 = .ok (.iload_n 1, 1) := by decide +kernel
theorem dX11_post_1 : decode cX11_post 1 = .ok (.invokestatic 80, 3) := by decide +kernel
theorem dX11_post_4 : decode cX11_post 4 = .ok (.ifCond .ne 6, 3) := by decide +kernel
theorem dX11_post_7 : decode cX11_post 7 = .ok (.bipush (-2), 2) := by decide +kernel
theorem dX11_post_9 : decode cX11_post 9 = .ok (.ireturn, 1) := by decide +kernel
theorem dX11_post_10 : decode cX11_post 10 = .ok (.iconst 0, 1) := by decide +kernel
theorem dX11_post_11 : decode cX11_post 11 = .ok (.istore_n 2, 1) := by decide +kernel
theorem dX11_post_12 : decode cX11_post 12 = .ok (.iload_n 2, 1) := by decide +kernel
theorem dX11_post_13 : decode cX11_post 13 = .ok (.aload_n 0, 1) := by decide +kernel
theorem dX11_post_14 : decode cX11_post 14 = .ok (.getfield 83, 3) := by decide +kernel
theorem dX11_post_17 : decode cX11_post 17 = .ok (.if_icmp .ge 22, 3) := by decide +kernel
theorem dX11_post_20 : decode cX11_post 20 = .ok (.aload_n 0, 1) := by decide +kernel
theorem dX11_post_21 : decode cX11_post 21 = .ok (.getfield 16, 3) := by decide +kernel
theorem dX11_post_24 : decode cX11_post 24 = .ok (.iload_n 2, 1) := by decide +kernel
theorem dX11_post_25 : decode cX11_post 25 = .ok (.iaload, 1) := by decide +kernel
theorem dX11_post_26 : decode cX11_post 26 = .ok (.iload_n 1, 1) := by decide +kernel
theorem dX11_post_27 : decode cX11_post 27 = .ok (.if_icmp .ne 6, 3) := by decide +kernel
theorem dX11_post_30 : decode cX11_post 30 = .ok (.bipush (-5), 2) := by decide +kernel
theorem dX11_post_32 : decode cX11_post 32 = .ok (.ireturn, 1) := by decide +kernel
theorem dX11_post_33 : decode cX11_post 33 = .ok (.iinc 2 1, 3) := by decide +kernel
theorem dX11_post_36 : decode cX11_post 36 = .ok (.goto (-24), 3) := by decide +kernel
theorem dX11_post_39 : decode cX11_post 39 = .ok (.aload_n 0, 1) := by decide +kernel
theorem dX11_post_40 : decode cX11_post 40 = .ok (.getfield 83, 3) := by decide +kernel
theorem dX11_post_43 : decode cX11_post 43 = .ok (.iconst 4, 1) := by decide +kernel
theorem dX11_post_44 : decode cX11_post 44 = .ok (.if_icmp .ne 6, 3) := by decide +kernel
theorem dX11_post_47 : decode cX11_post 47 = .ok (.bipush (-4), 2) := by decide +kernel
theorem dX11_post_49 : decode cX11_post 49 = .ok (.ireturn, 1) := by decide +kernel
theorem dX11_post_50 : decode cX11_post 50 = .ok (.aload_n 0, 1) := by decide +kernel
theorem dX11_post_51 : decode cX11_post 51 = .ok (.getfield 16, 3) := by decide +kernel
theorem dX11_post_54 : decode cX11_post 54 = .ok (.aload_n 0, 1) := by decide +kernel
theorem dX11_post_55 : decode cX11_post 55 = .ok (.getfield 83, 3) := by decide +kernel
theorem dX11_post_58 : decode cX11_post 58 = .ok (.iload_n 1, 1) := by decide +kernel
theorem dX11_post_59 : decode cX11_post 59 = .ok (.iastore, 1) := by decide +kernel
theorem dX11_post_60 : decode cX11_post 60 = .ok (.aload_n 0, 1) := by decide +kernel
theorem dX11_post_61 : decode cX11_post 61 = .ok (.dup, 1) := by decide +kernel
theorem dX11_post_62 : decode cX11_post 62 = .ok (.getfield 83, 3) := by decide +kernel
theorem dX11_post_65 : decode cX11_post 65 = .ok (.iconst 1, 1) := by decide +kernel
theorem dX11_post_66 : decode cX11_post 66 = .ok (.iadd, 1) := by decide +kernel
theorem dX11_post_67 : decode cX11_post 67 = .ok (.putfield 83, 3) := by decide +kernel
theorem dX11_post_70 : decode cX11_post 70 = .ok (.aload_n 0, 1) := by decide +kernel
theorem dX11_post_71 : decode cX11_post 71 = .ok (.getfield 83, 3) := by decide +kernel
theorem dX11_post_74 : decode cX11_post 74 = .ok (.ireturn, 1) := by decide +kernel
theorem dX11_clear_0 : decode cX11_clear 0 = .ok (.aload_n 0, 1) := by decide +kernel
theorem dX11_clear_1 : decode cX11_clear 1 = .ok (.getfield 83, 3) := by decide +kernel
theorem dX11_clear_4 : decode cX11_clear 4 = .ok (.istore_n 1, 1) := by decide +kernel
theorem dX11_clear_5 : decode cX11_clear 5 = .ok (.aload_n 0, 1) := by decide +kernel
theorem dX11_clear_6 : decode cX11_clear 6 = .ok (.iconst 0, 1) := by decide +kernel
theorem dX11_clear_7 : decode cX11_clear 7 = .ok (.putfield 83, 3) := by decide +kernel
theorem dX11_clear_10 : decode cX11_clear 10 = .ok (.iload_n 1, 1) := by decide +kernel
theorem dX11_clear_11 : decode cX11_clear 11 = .ok (.ireturn, 1) := by decide +kernel
theorem dX11_say_0 : decode cX11_say 0 = .ok (.iload_n 1, 1) := by decide +kernel
theorem dX11_say_1 : decode cX11_say 1 = .ok (.i2l, 1) := by decide +kernel
theorem dX11_say_2 : decode cX11_say 2 = .ok (.ldc2_w 87, 3) := by decide +kernel
theorem dX11_say_5 : decode cX11_say 5 = .ok (.ldc2_w 89, 3) := by decide +kernel
theorem dX11_say_8 : decode cX11_say 8 = .ok (.invokestatic 52, 3) := by decide +kernel
theorem dX11_say_11 : decode cX11_say 11 = .ok (.ifCond .ne 6, 3) := by decide +kernel
theorem dX11_say_14 : decode cX11_say 14 = .ok (.bipush (-2), 2) := by decide +kernel
theorem dX11_say_16 : decode cX11_say 16 = .ok (.ireturn, 1) := by decide +kernel
theorem dX11_say_17 : decode cX11_say 17 = .ok (.aload_n 0, 1) := by decide +kernel
theorem dX11_say_18 : decode cX11_say 18 = .ok (.getfield 91, 3) := by decide +kernel
theorem dX11_say_21 : decode cX11_say 21 = .ok (.bipush 40, 2) := by decide +kernel
theorem dX11_say_23 : decode cX11_say 23 = .ok (.if_icmp .ne 6, 3) := by decide +kernel
theorem dX11_say_26 : decode cX11_say 26 = .ok (.bipush (-4), 2) := by decide +kernel
theorem dX11_say_28 : decode cX11_say 28 = .ok (.ireturn, 1) := by decide +kernel
theorem dX11_say_29 : decode cX11_say 29 = .ok (.aload_n 0, 1) := by decide +kernel
theorem dX11_say_30 : decode cX11_say 30 = .ok (.getfield 25, 3) := by decide +kernel
theorem dX11_say_33 : decode cX11_say 33 = .ok (.aload_n 0, 1) := by decide +kernel
theorem dX11_say_34 : decode cX11_say 34 = .ok (.getfield 91, 3) := by decide +kernel
theorem dX11_say_37 : decode cX11_say 37 = .ok (.iload_n 1, 1) := by decide +kernel
theorem dX11_say_38 : decode cX11_say 38 = .ok (.iastore, 1) := by decide +kernel
theorem dX11_say_39 : decode cX11_say 39 = .ok (.aload_n 0, 1) := by decide +kernel
theorem dX11_say_40 : decode cX11_say 40 = .ok (.dup, 1) := by decide +kernel
theorem dX11_say_41 : decode cX11_say 41 = .ok (.getfield 91, 3) := by decide +kernel
theorem dX11_say_44 : decode cX11_say 44 = .ok (.iconst 1, 1) := by decide +kernel
theorem dX11_say_45 : decode cX11_say 45 = .ok (.iadd, 1) := by decide +kernel
theorem dX11_say_46 : decode cX11_say 46 = .ok (.putfield 91, 3) := by decide +kernel
theorem dX11_say_49 : decode cX11_say 49 = .ok (.aload_n 0, 1) := by decide +kernel
theorem dX11_say_50 : decode cX11_say 50 = .ok (.getfield 91, 3) := by decide +kernel
theorem dX11_say_53 : decode cX11_say 53 = .ok (.ireturn, 1) := by decide +kernel
theorem dX11_wipe_0 : decode cX11_wipe 0 = .ok (.aload_n 0, 1) := by decide +kernel
theorem dX11_wipe_1 : decode cX11_wipe 1 = .ok (.getfield 91, 3) := by decide +kernel
theorem dX11_wipe_4 : decode cX11_wipe 4 = .ok (.istore_n 1, 1) := by decide +kernel
theorem dX11_wipe_5 : decode cX11_wipe 5 = .ok (.aload_n 0, 1) := by decide +kernel
theorem dX11_wipe_6 : decode cX11_wipe 6 = .ok (.iconst 0, 1) := by decide +kernel
theorem dX11_wipe_7 : decode cX11_wipe 7 = .ok (.putfield 91, 3) := by decide +kernel
theorem dX11_wipe_10 : decode cX11_wipe 10 = .ok (.iload_n 1, 1) := by decide +kernel
theorem dX11_wipe_11 : decode cX11_wipe 11 = .ok (.ireturn, 1) := by decide +kernel
theorem dX11_isLetter_0 : decode cX11_isLetter 0 = .ok (.iload_n 0, 1) := by decide +kernel
theorem dX11_isLetter_1 : decode cX11_isLetter 1 = .ok (.i2l, 1) := by decide +kernel
theorem dX11_isLetter_2 : decode cX11_isLetter 2 = .ok (.ldc2_w 94, 3) := by decide +kernel
theorem dX11_isLetter_5 : decode cX11_isLetter 5 = .ok (.ldc2_w 96, 3) := by decide +kernel
theorem dX11_isLetter_8 : decode cX11_isLetter 8 = .ok (.invokestatic 52, 3) := by decide +kernel
theorem dX11_isLetter_11 : decode cX11_isLetter 11 = .ok (.ireturn, 1) := by decide +kernel
theorem dX11_isTurn_0 : decode cX11_isTurn 0 = .ok (.iload_n 0, 1) := by decide +kernel
theorem dX11_isTurn_1 : decode cX11_isTurn 1 = .ok (.bipush 114, 2) := by decide +kernel
theorem dX11_isTurn_3 : decode cX11_isTurn 3 = .ok (.if_icmp .eq 15, 3) := by decide +kernel
theorem dX11_isTurn_6 : decode cX11_isTurn 6 = .ok (.iload_n 0, 1) := by decide +kernel
theorem dX11_isTurn_7 : decode cX11_isTurn 7 = .ok (.bipush 108, 2) := by decide +kernel
theorem dX11_isTurn_9 : decode cX11_isTurn 9 = .ok (.if_icmp .eq 9, 3) := by decide +kernel
theorem dX11_isTurn_12 : decode cX11_isTurn 12 = .ok (.iload_n 0, 1) := by decide +kernel
theorem dX11_isTurn_13 : decode cX11_isTurn 13 = .ok (.bipush 98, 2) := by decide +kernel
theorem dX11_isTurn_15 : decode cX11_isTurn 15 = .ok (.if_icmp .ne 7, 3) := by decide +kernel
theorem dX11_isTurn_18 : decode cX11_isTurn 18 = .ok (.iconst 1, 1) := by decide +kernel
theorem dX11_isTurn_19 : decode cX11_isTurn 19 = .ok (.goto 4, 3) := by decide +kernel
theorem dX11_isTurn_22 : decode cX11_isTurn 22 = .ok (.iconst 0, 1) := by decide +kernel
theorem dX11_isTurn_23 : decode cX11_isTurn 23 = .ok (.ireturn, 1) := by decide +kernel
theorem dX11_isGoing_0 : decode cX11_isGoing 0 = .ok (.iload_n 0, 1) := by decide +kernel
theorem dX11_isGoing_1 : decode cX11_isGoing 1 = .ok (.bipush 102, 2) := by decide +kernel
theorem dX11_isGoing_3 : decode cX11_isGoing 3 = .ok (.if_icmp .eq 9, 3) := by decide +kernel
theorem dX11_isGoing_6 : decode cX11_isGoing 6 = .ok (.iload_n 0, 1) := by decide +kernel
theorem dX11_isGoing_7 : decode cX11_isGoing 7 = .ok (.bipush 119, 2) := by decide +kernel
theorem dX11_isGoing_9 : decode cX11_isGoing 9 = .ok (.if_icmp .ne 7, 3) := by decide +kernel
theorem dX11_isGoing_12 : decode cX11_isGoing 12 = .ok (.iconst 1, 1) := by decide +kernel
theorem dX11_isGoing_13 : decode cX11_isGoing 13 = .ok (.goto 4, 3) := by decide +kernel
theorem dX11_isGoing_16 : decode cX11_isGoing 16 = .ok (.iconst 0, 1) := by decide +kernel
theorem dX11_isGoing_17 : decode cX11_isGoing 17 = .ok (.ireturn, 1) := by decide +kernel
theorem dX11_fault_0 : decode cX11_fault 0 = .ok (.iconst 0, 1) := by decide +kernel
theorem dX11_fault_1 : decode cX11_fault 1 = .ok (.istore_n 1, 1) := by decide +kernel
theorem dX11_fault_2 : decode cX11_fault 2 = .ok (.iconst 0, 1) := by decide +kernel
theorem dX11_fault_3 : decode cX11_fault 3 = .ok (.istore_n 2, 1) := by decide +kernel
theorem dX11_fault_4 : decode cX11_fault 4 = .ok (.iconst 0, 1) := by decide +kernel
theorem dX11_fault_5 : decode cX11_fault 5 = .ok (.istore_n 3, 1) := by decide +kernel
theorem dX11_fault_6 : decode cX11_fault 6 = .ok (.iload_n 3, 1) := by decide +kernel
theorem dX11_fault_7 : decode cX11_fault 7 = .ok (.aload_n 0, 1) := by decide +kernel
theorem dX11_fault_8 : decode cX11_fault 8 = .ok (.getfield 91, 3) := by decide +kernel
theorem dX11_fault_11 : decode cX11_fault 11 = .ok (.if_icmp .ge 114, 3) := by decide +kernel
theorem dX11_fault_14 : decode cX11_fault 14 = .ok (.aload_n 0, 1) := by decide +kernel
theorem dX11_fault_15 : decode cX11_fault 15 = .ok (.getfield 25, 3) := by decide +kernel
theorem dX11_fault_18 : decode cX11_fault 18 = .ok (.iload_n 3, 1) := by decide +kernel
theorem dX11_fault_19 : decode cX11_fault 19 = .ok (.iaload, 1) := by decide +kernel
theorem dX11_fault_20 : decode cX11_fault 20 = .ok (.istore 4, 2) := by decide +kernel
theorem dX11_fault_22 : decode cX11_fault 22 = .ok (.iload_n 2, 1) := by decide +kernel
theorem dX11_fault_23 : decode cX11_fault 23 = .ok (.ifCond .eq 18, 3) := by decide +kernel
theorem dX11_fault_26 : decode cX11_fault 26 = .ok (.iload 4, 2) := by decide +kernel
theorem dX11_fault_28 : decode cX11_fault 28 = .ok (.i2l, 1) := by decide +kernel
theorem dX11_fault_29 : decode cX11_fault 29 = .ok (.ldc2_w 98, 3) := by decide +kernel
theorem dX11_fault_32 : decode cX11_fault 32 = .ok (.ldc2_w 100, 3) := by decide +kernel
theorem dX11_fault_35 : decode cX11_fault 35 = .ok (.invokestatic 52, 3) := by decide +kernel
theorem dX11_fault_38 : decode cX11_fault 38 = .ok (.goto 36, 3) := by decide +kernel
theorem dX11_fault_41 : decode cX11_fault 41 = .ok (.iload 4, 2) := by decide +kernel
theorem dX11_fault_43 : decode cX11_fault 43 = .ok (.invokestatic 102, 3) := by decide +kernel
theorem dX11_fault_46 : decode cX11_fault 46 = .ok (.ifCond .ne 23, 3) := by decide +kernel
theorem dX11_fault_49 : decode cX11_fault 49 = .ok (.iload_n 1, 1) := by decide +kernel
theorem dX11_fault_50 : decode cX11_fault 50 = .ok (.ifCond .eq 23, 3) := by decide +kernel
theorem dX11_fault_53 : decode cX11_fault 53 = .ok (.iload 4, 2) := by decide +kernel
theorem dX11_fault_55 : decode cX11_fault 55 = .ok (.invokestatic 105, 3) := by decide +kernel
theorem dX11_fault_58 : decode cX11_fault 58 = .ok (.ifCond .ne 11, 3) := by decide +kernel
theorem dX11_fault_61 : decode cX11_fault 61 = .ok (.iload 4, 2) := by decide +kernel
theorem dX11_fault_63 : decode cX11_fault 63 = .ok (.invokestatic 108, 3) := by decide +kernel
theorem dX11_fault_66 : decode cX11_fault 66 = .ok (.ifCond .eq 7, 3) := by decide +kernel
theorem dX11_fault_69 : decode cX11_fault 69 = .ok (.iconst 1, 1) := by decide +kernel
theorem dX11_fault_70 : decode cX11_fault 70 = .ok (.goto 4, 3) := by decide +kernel
theorem dX11_fault_73 : decode cX11_fault 73 = .ok (.iconst 0, 1) := by decide +kernel
theorem dX11_fault_74 : decode cX11_fault 74 = .ok (.istore 5, 2) := by decide +kernel
theorem dX11_fault_76 : decode cX11_fault 76 = .ok (.iload 5, 2) := by decide +kernel
theorem dX11_fault_78 : decode cX11_fault 78 = .ok (.ifCond .ne 5, 3) := by decide +kernel
theorem dX11_fault_81 : decode cX11_fault 81 = .ok (.iload_n 3, 1) := by decide +kernel
theorem dX11_fault_82 : decode cX11_fault 82 = .ok (.ireturn, 1) := by decide +kernel
theorem dX11_fault_83 : decode cX11_fault 83 = .ok (.iload_n 1, 1) := by decide +kernel
theorem dX11_fault_84 : decode cX11_fault 84 = .ok (.ifCond .ne 11, 3) := by decide +kernel
theorem dX11_fault_87 : decode cX11_fault 87 = .ok (.iload 4, 2) := by decide +kernel
theorem dX11_fault_89 : decode cX11_fault 89 = .ok (.invokestatic 102, 3) := by decide +kernel
theorem dX11_fault_92 : decode cX11_fault 92 = .ok (.ifCond .eq 7, 3) := by decide +kernel
theorem dX11_fault_95 : decode cX11_fault 95 = .ok (.iconst 1, 1) := by decide +kernel
theorem dX11_fault_96 : decode cX11_fault 96 = .ok (.goto 4, 3) := by decide +kernel
theorem dX11_fault_99 : decode cX11_fault 99 = .ok (.iconst 0, 1) := by decide +kernel
theorem dX11_fault_100 : decode cX11_fault 100 = .ok (.istore_n 1, 1) := by decide +kernel
theorem dX11_fault_101 : decode cX11_fault 101 = .ok (.iload_n 2, 1) := by decide +kernel
theorem dX11_fault_102 : decode cX11_fault 102 = .ok (.ifCond .ne 15, 3) := by decide +kernel
theorem dX11_fault_105 : decode cX11_fault 105 = .ok (.iload 4, 2) := by decide +kernel
theorem dX11_fault_107 : decode cX11_fault 107 = .ok (.invokestatic 108, 3) := by decide +kernel
theorem dX11_fault_110 : decode cX11_fault 110 = .ok (.ifCond .eq 7, 3) := by decide +kernel
theorem dX11_fault_113 : decode cX11_fault 113 = .ok (.iconst 1, 1) := by decide +kernel
theorem dX11_fault_114 : decode cX11_fault 114 = .ok (.goto 4, 3) := by decide +kernel
theorem dX11_fault_117 : decode cX11_fault 117 = .ok (.iconst 0, 1) := by decide +kernel
theorem dX11_fault_118 : decode cX11_fault 118 = .ok (.istore_n 2, 1) := by decide +kernel
theorem dX11_fault_119 : decode cX11_fault 119 = .ok (.iinc 3 1, 3) := by decide +kernel
theorem dX11_fault_122 : decode cX11_fault 122 = .ok (.goto (-116), 3) := by decide +kernel
theorem dX11_fault_125 : decode cX11_fault 125 = .ok (.iload_n 2, 1) := by decide +kernel
theorem dX11_fault_126 : decode cX11_fault 126 = .ok (.ifCond .eq 10, 3) := by decide +kernel
theorem dX11_fault_129 : decode cX11_fault 129 = .ok (.aload_n 0, 1) := by decide +kernel
theorem dX11_fault_130 : decode cX11_fault 130 = .ok (.getfield 91, 3) := by decide +kernel
theorem dX11_fault_133 : decode cX11_fault 133 = .ok (.goto 5, 3) := by decide +kernel
theorem dX11_fault_136 : decode cX11_fault 136 = .ok (.bipush (-6), 2) := by decide +kernel
theorem dX11_fault_138 : decode cX11_fault 138 = .ok (.ireturn, 1) := by decide +kernel
theorem dX11_partsOf_0 : decode cX11_partsOf 0 = .ok (.iconst 0, 1) := by decide +kernel
theorem dX11_partsOf_1 : decode cX11_partsOf 1 = .ok (.istore_n 1, 1) := by decide +kernel
theorem dX11_partsOf_2 : decode cX11_partsOf 2 = .ok (.iconst 0, 1) := by decide +kernel
theorem dX11_partsOf_3 : decode cX11_partsOf 3 = .ok (.istore_n 2, 1) := by decide +kernel
theorem dX11_partsOf_4 : decode cX11_partsOf 4 = .ok (.iload_n 2, 1) := by decide +kernel
theorem dX11_partsOf_5 : decode cX11_partsOf 5 = .ok (.aload_n 0, 1) := by decide +kernel
theorem dX11_partsOf_6 : decode cX11_partsOf 6 = .ok (.getfield 91, 3) := by decide +kernel
theorem dX11_partsOf_9 : decode cX11_partsOf 9 = .ok (.if_icmp .ge 36, 3) := by decide +kernel
theorem dX11_partsOf_12 : decode cX11_partsOf 12 = .ok (.iload_n 1, 1) := by decide +kernel
theorem dX11_partsOf_13 : decode cX11_partsOf 13 = .ok (.aload_n 0, 1) := by decide +kernel
theorem dX11_partsOf_14 : decode cX11_partsOf 14 = .ok (.getfield 25, 3) := by decide +kernel
theorem dX11_partsOf_17 : decode cX11_partsOf 17 = .ok (.iload_n 2, 1) := by decide +kernel
theorem dX11_partsOf_18 : decode cX11_partsOf 18 = .ok (.iaload, 1) := by decide +kernel
theorem dX11_partsOf_19 : decode cX11_partsOf 19 = .ok (.i2l, 1) := by decide +kernel
theorem dX11_partsOf_20 : decode cX11_partsOf 20 = .ok (.ldc2_w 98, 3) := by decide +kernel
theorem dX11_partsOf_23 : decode cX11_partsOf 23 = .ok (.ldc2_w 100, 3) := by decide +kernel
theorem dX11_partsOf_26 : decode cX11_partsOf 26 = .ok (.invokestatic 52, 3) := by decide +kernel
theorem dX11_partsOf_29 : decode cX11_partsOf 29 = .ok (.ifCond .eq 7, 3) := by decide +kernel
theorem dX11_partsOf_32 : decode cX11_partsOf 32 = .ok (.iconst 0, 1) := by decide +kernel
theorem dX11_partsOf_33 : decode cX11_partsOf 33 = .ok (.goto 4, 3) := by decide +kernel
theorem dX11_partsOf_36 : decode cX11_partsOf 36 = .ok (.iconst 1, 1) := by decide +kernel
theorem dX11_partsOf_37 : decode cX11_partsOf 37 = .ok (.iadd, 1) := by decide +kernel
theorem dX11_partsOf_38 : decode cX11_partsOf 38 = .ok (.istore_n 1, 1) := by decide +kernel
theorem dX11_partsOf_39 : decode cX11_partsOf 39 = .ok (.iinc 2 1, 3) := by decide +kernel
theorem dX11_partsOf_42 : decode cX11_partsOf 42 = .ok (.goto (-38), 3) := by decide +kernel
theorem dX11_partsOf_45 : decode cX11_partsOf 45 = .ok (.iload_n 1, 1) := by decide +kernel
theorem dX11_partsOf_46 : decode cX11_partsOf 46 = .ok (.ireturn, 1) := by decide +kernel
theorem dX11_lay_0 : decode cX11_lay 0 = .ok (.iconst 0, 1) := by decide +kernel
theorem dX11_lay_1 : decode cX11_lay 1 = .ok (.istore_n 1, 1) := by decide +kernel
theorem dX11_lay_2 : decode cX11_lay 2 = .ok (.iload_n 1, 1) := by decide +kernel
theorem dX11_lay_3 : decode cX11_lay 3 = .ok (.bipush 32, 2) := by decide +kernel
theorem dX11_lay_5 : decode cX11_lay 5 = .ok (.if_icmp .ge 21, 3) := by decide +kernel
theorem dX11_lay_8 : decode cX11_lay 8 = .ok (.aload_n 0, 1) := by decide +kernel
theorem dX11_lay_9 : decode cX11_lay 9 = .ok (.getfield 28, 3) := by decide +kernel
theorem dX11_lay_12 : decode cX11_lay 12 = .ok (.iload_n 1, 1) := by decide +kernel
theorem dX11_lay_13 : decode cX11_lay 13 = .ok (.aload_n 0, 1) := by decide +kernel
theorem dX11_lay_14 : decode cX11_lay 14 = .ok (.getfield 7, 3) := by decide +kernel
theorem dX11_lay_17 : decode cX11_lay 17 = .ok (.iload_n 1, 1) := by decide +kernel
theorem dX11_lay_18 : decode cX11_lay 18 = .ok (.iaload, 1) := by decide +kernel
theorem dX11_lay_19 : decode cX11_lay 19 = .ok (.iastore, 1) := by decide +kernel
theorem dX11_lay_20 : decode cX11_lay 20 = .ok (.iinc 1 1, 3) := by decide +kernel
theorem dX11_lay_23 : decode cX11_lay 23 = .ok (.goto (-21), 3) := by decide +kernel
theorem dX11_lay_26 : decode cX11_lay 26 = .ok (.iconst 0, 1) := by decide +kernel
theorem dX11_lay_27 : decode cX11_lay 27 = .ok (.istore_n 1, 1) := by decide +kernel
theorem dX11_lay_28 : decode cX11_lay 28 = .ok (.iload_n 1, 1) := by decide +kernel
theorem dX11_lay_29 : decode cX11_lay 29 = .ok (.sipush 256, 3) := by decide +kernel
theorem dX11_lay_32 : decode cX11_lay 32 = .ok (.if_icmp .ge 21, 3) := by decide +kernel
theorem dX11_lay_35 : decode cX11_lay 35 = .ok (.aload_n 0, 1) := by decide +kernel
theorem dX11_lay_36 : decode cX11_lay 36 = .ok (.getfield 31, 3) := by decide +kernel
theorem dX11_lay_39 : decode cX11_lay 39 = .ok (.iload_n 1, 1) := by decide +kernel
theorem dX11_lay_40 : decode cX11_lay 40 = .ok (.aload_n 0, 1) := by decide +kernel
theorem dX11_lay_41 : decode cX11_lay 41 = .ok (.getfield 13, 3) := by decide +kernel
theorem dX11_lay_44 : decode cX11_lay 44 = .ok (.iload_n 1, 1) := by decide +kernel
theorem dX11_lay_45 : decode cX11_lay 45 = .ok (.iaload, 1) := by decide +kernel
theorem dX11_lay_46 : decode cX11_lay 46 = .ok (.iastore, 1) := by decide +kernel
theorem dX11_lay_47 : decode cX11_lay 47 = .ok (.iinc 1 1, 3) := by decide +kernel
theorem dX11_lay_50 : decode cX11_lay 50 = .ok (.goto (-22), 3) := by decide +kernel
theorem dX11_lay_53 : decode cX11_lay 53 = .ok (.iconst 0, 1) := by decide +kernel
theorem dX11_lay_54 : decode cX11_lay 54 = .ok (.istore_n 1, 1) := by decide +kernel
theorem dX11_lay_55 : decode cX11_lay 55 = .ok (.iload_n 1, 1) := by decide +kernel
theorem dX11_lay_56 : decode cX11_lay 56 = .ok (.iconst 4, 1) := by decide +kernel
theorem dX11_lay_57 : decode cX11_lay 57 = .ok (.if_icmp .ge 21, 3) := by decide +kernel
theorem dX11_lay_60 : decode cX11_lay 60 = .ok (.aload_n 0, 1) := by decide +kernel
theorem dX11_lay_61 : decode cX11_lay 61 = .ok (.getfield 34, 3) := by decide +kernel
theorem dX11_lay_64 : decode cX11_lay 64 = .ok (.iload_n 1, 1) := by decide +kernel
theorem dX11_lay_65 : decode cX11_lay 65 = .ok (.aload_n 0, 1) := by decide +kernel
theorem dX11_lay_66 : decode cX11_lay 66 = .ok (.getfield 16, 3) := by decide +kernel
theorem dX11_lay_69 : decode cX11_lay 69 = .ok (.iload_n 1, 1) := by decide +kernel
theorem dX11_lay_70 : decode cX11_lay 70 = .ok (.iaload, 1) := by decide +kernel
theorem dX11_lay_71 : decode cX11_lay 71 = .ok (.iastore, 1) := by decide +kernel
theorem dX11_lay_72 : decode cX11_lay 72 = .ok (.iinc 1 1, 3) := by decide +kernel
theorem dX11_lay_75 : decode cX11_lay 75 = .ok (.goto (-20), 3) := by decide +kernel
theorem dX11_lay_78 : decode cX11_lay 78 = .ok (.aload_n 0, 1) := by decide +kernel
theorem dX11_lay_79 : decode cX11_lay 79 = .ok (.aload_n 0, 1) := by decide +kernel
theorem dX11_lay_80 : decode cX11_lay 80 = .ok (.getfield 83, 3) := by decide +kernel
theorem dX11_lay_83 : decode cX11_lay 83 = .ok (.putfield 111, 3) := by decide +kernel
theorem dX11_lay_86 : decode cX11_lay 86 = .ok (.return_, 1) := by decide +kernel
theorem dX11_turn_0 : decode cX11_turn 0 = .ok (.aload_n 0, 1) := by decide +kernel
theorem dX11_turn_1 : decode cX11_turn 1 = .ok (.getfield 28, 3) := by decide +kernel
theorem dX11_turn_4 : decode cX11_turn 4 = .ok (.iload_n 1, 1) := by decide +kernel
theorem dX11_turn_5 : decode cX11_turn 5 = .ok (.iconst 1, 1) := by decide +kernel
theorem dX11_turn_6 : decode cX11_turn 6 = .ok (.iadd, 1) := by decide +kernel
theorem dX11_turn_7 : decode cX11_turn 7 = .ok (.iaload, 1) := by decide +kernel
theorem dX11_turn_8 : decode cX11_turn 8 = .ok (.iload_n 2, 1) := by decide +kernel
theorem dX11_turn_9 : decode cX11_turn 9 = .ok (.iadd, 1) := by decide +kernel
theorem dX11_turn_10 : decode cX11_turn 10 = .ok (.aload_n 0, 1) := by decide +kernel
theorem dX11_turn_11 : decode cX11_turn 11 = .ok (.getfield 28, 3) := by decide +kernel
theorem dX11_turn_14 : decode cX11_turn 14 = .ok (.iload_n 1, 1) := by decide +kernel
theorem dX11_turn_15 : decode cX11_turn 15 = .ok (.iconst 4, 1) := by decide +kernel
theorem dX11_turn_16 : decode cX11_turn 16 = .ok (.iadd, 1) := by decide +kernel
theorem dX11_turn_17 : decode cX11_turn 17 = .ok (.iaload, 1) := by decide +kernel
theorem dX11_turn_18 : decode cX11_turn 18 = .ok (.iadd, 1) := by decide +kernel
theorem dX11_turn_19 : decode cX11_turn 19 = .ok (.iconst 2, 1) := by decide +kernel
theorem dX11_turn_20 : decode cX11_turn 20 = .ok (.isub, 1) := by decide +kernel
theorem dX11_turn_21 : decode cX11_turn 21 = .ok (.istore_n 3, 1) := by decide +kernel
theorem dX11_turn_22 : decode cX11_turn 22 = .ok (.aload_n 0, 1) := by decide +kernel
theorem dX11_turn_23 : decode cX11_turn 23 = .ok (.getfield 28, 3) := by decide +kernel
theorem dX11_turn_26 : decode cX11_turn 26 = .ok (.iload_n 1, 1) := by decide +kernel
theorem dX11_turn_27 : decode cX11_turn 27 = .ok (.iconst 1, 1) := by decide +kernel
theorem dX11_turn_28 : decode cX11_turn 28 = .ok (.iadd, 1) := by decide +kernel
theorem dX11_turn_29 : decode cX11_turn 29 = .ok (.iload_n 3, 1) := by decide +kernel
theorem dX11_turn_30 : decode cX11_turn 30 = .ok (.bipush 16, 2) := by decide +kernel
theorem dX11_turn_32 : decode cX11_turn 32 = .ok (.iadd, 1) := by decide +kernel
theorem dX11_turn_33 : decode cX11_turn 33 = .ok (.bipush 8, 2) := by decide +kernel
theorem dX11_turn_35 : decode cX11_turn 35 = .ok (.irem, 1) := by decide +kernel
theorem dX11_turn_36 : decode cX11_turn 36 = .ok (.iastore, 1) := by decide +kernel
theorem dX11_turn_37 : decode cX11_turn 37 = .ok (.return_, 1) := by decide +kernel
theorem dX11_nearest_0 : decode cX11_nearest 0 = .ok (.bipush (-6), 2) := by decide +kernel
theorem dX11_nearest_2 : decode cX11_nearest 2 = .ok (.istore_n 2, 1) := by decide +kernel
theorem dX11_nearest_3 : decode cX11_nearest 3 = .ok (.iconst 0, 1) := by decide +kernel
theorem dX11_nearest_4 : decode cX11_nearest 4 = .ok (.istore_n 3, 1) := by decide +kernel
theorem dX11_nearest_5 : decode cX11_nearest 5 = .ok (.iload_n 3, 1) := by decide +kernel
theorem dX11_nearest_6 : decode cX11_nearest 6 = .ok (.aload_n 0, 1) := by decide +kernel
theorem dX11_nearest_7 : decode cX11_nearest 7 = .ok (.getfield 111, 3) := by decide +kernel
theorem dX11_nearest_10 : decode cX11_nearest 10 = .ok (.if_icmp .ge 73, 3) := by decide +kernel
theorem dX11_nearest_13 : decode cX11_nearest 13 = .ok (.aload_n 0, 1) := by decide +kernel
theorem dX11_nearest_14 : decode cX11_nearest 14 = .ok (.getfield 28, 3) := by decide +kernel
theorem dX11_nearest_17 : decode cX11_nearest 17 = .ok (.iload_n 1, 1) := by decide +kernel
theorem dX11_nearest_18 : decode cX11_nearest 18 = .ok (.iconst 0, 1) := by decide +kernel
theorem dX11_nearest_19 : decode cX11_nearest 19 = .ok (.iadd, 1) := by decide +kernel
theorem dX11_nearest_20 : decode cX11_nearest 20 = .ok (.iaload, 1) := by decide +kernel
theorem dX11_nearest_21 : decode cX11_nearest 21 = .ok (.aload_n 0, 1) := by decide +kernel
theorem dX11_nearest_22 : decode cX11_nearest 22 = .ok (.getfield 34, 3) := by decide +kernel
theorem dX11_nearest_25 : decode cX11_nearest 25 = .ok (.iload_n 3, 1) := by decide +kernel
theorem dX11_nearest_26 : decode cX11_nearest 26 = .ok (.iaload, 1) := by decide +kernel
theorem dX11_nearest_27 : decode cX11_nearest 27 = .ok (.invokestatic 114, 3) := by decide +kernel
theorem dX11_nearest_30 : decode cX11_nearest 30 = .ok (.istore 4, 2) := by decide +kernel
theorem dX11_nearest_32 : decode cX11_nearest 32 = .ok (.iload 4, 2) := by decide +kernel
theorem dX11_nearest_34 : decode cX11_nearest 34 = .ok (.aload_n 0, 1) := by decide +kernel
theorem dX11_nearest_35 : decode cX11_nearest 35 = .ok (.getfield 28, 3) := by decide +kernel
theorem dX11_nearest_38 : decode cX11_nearest 38 = .ok (.iload_n 1, 1) := by decide +kernel
theorem dX11_nearest_39 : decode cX11_nearest 39 = .ok (.iconst 5, 1) := by decide +kernel
theorem dX11_nearest_40 : decode cX11_nearest 40 = .ok (.iadd, 1) := by decide +kernel
theorem dX11_nearest_41 : decode cX11_nearest 41 = .ok (.iaload, 1) := by decide +kernel
theorem dX11_nearest_42 : decode cX11_nearest 42 = .ok (.if_icmp .gt 33, 3) := by decide +kernel
theorem dX11_nearest_45 : decode cX11_nearest 45 = .ok (.iload_n 2, 1) := by decide +kernel
theorem dX11_nearest_46 : decode cX11_nearest 46 = .ok (.ifCond .lt 25, 3) := by decide +kernel
theorem dX11_nearest_49 : decode cX11_nearest 49 = .ok (.iload 4, 2) := by decide +kernel
theorem dX11_nearest_51 : decode cX11_nearest 51 = .ok (.aload_n 0, 1) := by decide +kernel
theorem dX11_nearest_52 : decode cX11_nearest 52 = .ok (.getfield 28, 3) := by decide +kernel
theorem dX11_nearest_55 : decode cX11_nearest 55 = .ok (.iload_n 1, 1) := by decide +kernel
theorem dX11_nearest_56 : decode cX11_nearest 56 = .ok (.iconst 0, 1) := by decide +kernel
theorem dX11_nearest_57 : decode cX11_nearest 57 = .ok (.iadd, 1) := by decide +kernel
theorem dX11_nearest_58 : decode cX11_nearest 58 = .ok (.iaload, 1) := by decide +kernel
theorem dX11_nearest_59 : decode cX11_nearest 59 = .ok (.aload_n 0, 1) := by decide +kernel
theorem dX11_nearest_60 : decode cX11_nearest 60 = .ok (.getfield 34, 3) := by decide +kernel
theorem dX11_nearest_63 : decode cX11_nearest 63 = .ok (.iload_n 2, 1) := by decide +kernel
theorem dX11_nearest_64 : decode cX11_nearest 64 = .ok (.iaload, 1) := by decide +kernel
theorem dX11_nearest_65 : decode cX11_nearest 65 = .ok (.invokestatic 114, 3) := by decide +kernel
theorem dX11_nearest_68 : decode cX11_nearest 68 = .ok (.if_icmp .ge 7, 3) := by decide +kernel
theorem dX11_nearest_71 : decode cX11_nearest 71 = .ok (.iload_n 3, 1) := by decide +kernel
theorem dX11_nearest_72 : decode cX11_nearest 72 = .ok (.goto 4, 3) := by decide +kernel
theorem dX11_nearest_75 : decode cX11_nearest 75 = .ok (.iload_n 2, 1) := by decide +kernel
theorem dX11_nearest_76 : decode cX11_nearest 76 = .ok (.istore_n 2, 1) := by decide +kernel
theorem dX11_nearest_77 : decode cX11_nearest 77 = .ok (.iinc 3 1, 3) := by decide +kernel
theorem dX11_nearest_80 : decode cX11_nearest 80 = .ok (.goto (-75), 3) := by decide +kernel
theorem dX11_nearest_83 : decode cX11_nearest 83 = .ok (.iload_n 2, 1) := by decide +kernel
theorem dX11_nearest_84 : decode cX11_nearest 84 = .ok (.ireturn, 1) := by decide +kernel
theorem dX11_turnToPost_0 : decode cX11_turnToPost 0 = .ok (.aload_n 0, 1) := by decide +kernel
theorem dX11_turnToPost_1 : decode cX11_turnToPost 1 = .ok (.iload_n 1, 1) := by decide +kernel
theorem dX11_turnToPost_2 : decode cX11_turnToPost 2 = .ok (.invokevirtual 117, 3) := by decide +kernel
theorem dX11_turnToPost_5 : decode cX11_turnToPost 5 = .ok (.istore_n 2, 1) := by decide +kernel
theorem dX11_turnToPost_6 : decode cX11_turnToPost 6 = .ok (.aload_n 0, 1) := by decide +kernel
theorem dX11_turnToPost_7 : decode cX11_turnToPost 7 = .ok (.getfield 28, 3) := by decide +kernel
theorem dX11_turnToPost_10 : decode cX11_turnToPost 10 = .ok (.iload_n 1, 1) := by decide +kernel
theorem dX11_turnToPost_11 : decode cX11_turnToPost 11 = .ok (.iconst 0, 1) := by decide +kernel
theorem dX11_turnToPost_12 : decode cX11_turnToPost 12 = .ok (.iadd, 1) := by decide +kernel
theorem dX11_turnToPost_13 : decode cX11_turnToPost 13 = .ok (.iaload, 1) := by decide +kernel
theorem dX11_turnToPost_14 : decode cX11_turnToPost 14 = .ok (.istore_n 3, 1) := by decide +kernel
theorem dX11_turnToPost_15 : decode cX11_turnToPost 15 = .ok (.iload_n 2, 1) := by decide +kernel
theorem dX11_turnToPost_16 : decode cX11_turnToPost 16 = .ok (.ifCond .lt 13, 3) := by decide +kernel
theorem dX11_turnToPost_19 : decode cX11_turnToPost 19 = .ok (.aload_n 0, 1) := by decide +kernel
theorem dX11_turnToPost_20 : decode cX11_turnToPost 20 = .ok (.getfield 34, 3) := by decide +kernel
theorem dX11_turnToPost_23 : decode cX11_turnToPost 23 = .ok (.iload_n 2, 1) := by decide +kernel
theorem dX11_turnToPost_24 : decode cX11_turnToPost 24 = .ok (.iaload, 1) := by decide +kernel
theorem dX11_turnToPost_25 : decode cX11_turnToPost 25 = .ok (.iload_n 3, 1) := by decide +kernel
theorem dX11_turnToPost_26 : decode cX11_turnToPost 26 = .ok (.if_icmp .ne 4, 3) := by decide +kernel
theorem dX11_turnToPost_29 : decode cX11_turnToPost 29 = .ok (.return_, 1) := by decide +kernel
theorem dX11_turnToPost_30 : decode cX11_turnToPost 30 = .ok (.aload_n 0, 1) := by decide +kernel
theorem dX11_turnToPost_31 : decode cX11_turnToPost 31 = .ok (.getfield 34, 3) := by decide +kernel
theorem dX11_turnToPost_34 : decode cX11_turnToPost 34 = .ok (.iload_n 2, 1) := by decide +kernel
theorem dX11_turnToPost_35 : decode cX11_turnToPost 35 = .ok (.iaload, 1) := by decide +kernel
theorem dX11_turnToPost_36 : decode cX11_turnToPost 36 = .ok (.bipush 8, 2) := by decide +kernel
theorem dX11_turnToPost_38 : decode cX11_turnToPost 38 = .ok (.irem, 1) := by decide +kernel
theorem dX11_turnToPost_39 : decode cX11_turnToPost 39 = .ok (.iload_n 3, 1) := by decide +kernel
theorem dX11_turnToPost_40 : decode cX11_turnToPost 40 = .ok (.bipush 8, 2) := by decide +kernel
theorem dX11_turnToPost_42 : decode cX11_turnToPost 42 = .ok (.irem, 1) := by decide +kernel
theorem dX11_turnToPost_43 : decode cX11_turnToPost 43 = .ok (.isub, 1) := by decide +kernel
theorem dX11_turnToPost_44 : decode cX11_turnToPost 44 = .ok (.istore 4, 2) := by decide +kernel
theorem dX11_turnToPost_46 : decode cX11_turnToPost 46 = .ok (.aload_n 0, 1) := by decide +kernel
theorem dX11_turnToPost_47 : decode cX11_turnToPost 47 = .ok (.getfield 34, 3) := by decide +kernel
theorem dX11_turnToPost_50 : decode cX11_turnToPost 50 = .ok (.iload_n 2, 1) := by decide +kernel
theorem dX11_turnToPost_51 : decode cX11_turnToPost 51 = .ok (.iaload, 1) := by decide +kernel
theorem dX11_turnToPost_52 : decode cX11_turnToPost 52 = .ok (.bipush 8, 2) := by decide +kernel
theorem dX11_turnToPost_54 : decode cX11_turnToPost 54 = .ok (.idiv, 1) := by decide +kernel
theorem dX11_turnToPost_55 : decode cX11_turnToPost 55 = .ok (.iload_n 3, 1) := by decide +kernel
theorem dX11_turnToPost_56 : decode cX11_turnToPost 56 = .ok (.bipush 8, 2) := by decide +kernel
theorem dX11_turnToPost_58 : decode cX11_turnToPost 58 = .ok (.idiv, 1) := by decide +kernel
theorem dX11_turnToPost_59 : decode cX11_turnToPost 59 = .ok (.isub, 1) := by decide +kernel
theorem dX11_turnToPost_60 : decode cX11_turnToPost 60 = .ok (.istore 5, 2) := by decide +kernel
theorem dX11_turnToPost_62 : decode cX11_turnToPost 62 = .ok (.iconst 0, 1) := by decide +kernel
theorem dX11_turnToPost_63 : decode cX11_turnToPost 63 = .ok (.istore 6, 2) := by decide +kernel
theorem dX11_turnToPost_65 : decode cX11_turnToPost 65 = .ok (.iconst 0, 1) := by decide +kernel
theorem dX11_turnToPost_66 : decode cX11_turnToPost 66 = .ok (.istore 7, 2) := by decide +kernel
theorem dX11_turnToPost_68 : decode cX11_turnToPost 68 = .ok (.iconst 0, 1) := by decide +kernel
theorem dX11_turnToPost_69 : decode cX11_turnToPost 69 = .ok (.istore 8, 2) := by decide +kernel
theorem dX11_turnToPost_71 : decode cX11_turnToPost 71 = .ok (.iload 8, 2) := by decide +kernel
theorem dX11_turnToPost_73 : decode cX11_turnToPost 73 = .ok (.bipush 8, 2) := by decide +kernel
theorem dX11_turnToPost_75 : decode cX11_turnToPost 75 = .ok (.if_icmp .ge 63, 3) := by decide +kernel
theorem dX11_turnToPost_78 : decode cX11_turnToPost 78 = .ok (.iload 8, 2) := by decide +kernel
theorem dX11_turnToPost_80 : decode cX11_turnToPost 80 = .ok (.invokestatic 66, 3) := by decide +kernel
theorem dX11_turnToPost_83 : decode cX11_turnToPost 83 = .ok (.iload 4, 2) := by decide +kernel
theorem dX11_turnToPost_85 : decode cX11_turnToPost 85 = .ok (.imul, 1) := by decide +kernel
theorem dX11_turnToPost_86 : decode cX11_turnToPost 86 = .ok (.iload 8, 2) := by decide +kernel
theorem dX11_turnToPost_88 : decode cX11_turnToPost 88 = .ok (.invokestatic 69, 3) := by decide +kernel
theorem dX11_turnToPost_91 : decode cX11_turnToPost 91 = .ok (.iload 5, 2) := by decide +kernel
theorem dX11_turnToPost_93 : decode cX11_turnToPost 93 = .ok (.imul, 1) := by decide +kernel
theorem dX11_turnToPost_94 : decode cX11_turnToPost 94 = .ok (.iadd, 1) := by decide +kernel
theorem dX11_turnToPost_95 : decode cX11_turnToPost 95 = .ok (.iload 8, 2) := by decide +kernel
theorem dX11_turnToPost_97 : decode cX11_turnToPost 97 = .ok (.iconst 2, 1) := by decide +kernel
theorem dX11_turnToPost_98 : decode cX11_turnToPost 98 = .ok (.irem, 1) := by decide +kernel
theorem dX11_turnToPost_99 : decode cX11_turnToPost 99 = .ok (.ifCond .ne 8, 3) := by decide +kernel
theorem dX11_turnToPost_102 : decode cX11_turnToPost 102 = .ok (.bipush 10, 2) := by decide +kernel
theorem dX11_turnToPost_104 : decode cX11_turnToPost 104 = .ok (.goto 5, 3) := by decide +kernel
theorem dX11_turnToPost_107 : decode cX11_turnToPost 107 = .ok (.bipush 7, 2) := by decide +kernel
theorem dX11_turnToPost_109 : decode cX11_turnToPost 109 = .ok (.imul, 1) := by decide +kernel
theorem dX11_turnToPost_110 : decode cX11_turnToPost 110 = .ok (.istore 9, 2) := by decide +kernel
theorem dX11_turnToPost_112 : decode cX11_turnToPost 112 = .ok (.iload 8, 2) := by decide +kernel
theorem dX11_turnToPost_114 : decode cX11_turnToPost 114 = .ok (.ifCond .eq 10, 3) := by decide +kernel
theorem dX11_turnToPost_117 : decode cX11_turnToPost 117 = .ok (.iload 9, 2) := by decide +kernel
theorem dX11_turnToPost_119 : decode cX11_turnToPost 119 = .ok (.iload 7, 2) := by decide +kernel
theorem dX11_turnToPost_121 : decode cX11_turnToPost 121 = .ok (.if_icmp .le 11, 3) := by decide +kernel
theorem dX11_turnToPost_124 : decode cX11_turnToPost 124 = .ok (.iload 8, 2) := by decide +kernel
theorem dX11_turnToPost_126 : decode cX11_turnToPost 126 = .ok (.istore 6, 2) := by decide +kernel
theorem dX11_turnToPost_128 : decode cX11_turnToPost 128 = .ok (.iload 9, 2) := by decide +kernel
theorem dX11_turnToPost_130 : decode cX11_turnToPost 130 = .ok (.istore 7, 2) := by decide +kernel
theorem dX11_turnToPost_132 : decode cX11_turnToPost 132 = .ok (.iinc 8 1, 3) := by decide +kernel
theorem dX11_turnToPost_135 : decode cX11_turnToPost 135 = .ok (.goto (-64), 3) := by decide +kernel
theorem dX11_turnToPost_138 : decode cX11_turnToPost 138 = .ok (.aload_n 0, 1) := by decide +kernel
theorem dX11_turnToPost_139 : decode cX11_turnToPost 139 = .ok (.getfield 28, 3) := by decide +kernel
theorem dX11_turnToPost_142 : decode cX11_turnToPost 142 = .ok (.iload_n 1, 1) := by decide +kernel
theorem dX11_turnToPost_143 : decode cX11_turnToPost 143 = .ok (.iconst 1, 1) := by decide +kernel
theorem dX11_turnToPost_144 : decode cX11_turnToPost 144 = .ok (.iadd, 1) := by decide +kernel
theorem dX11_turnToPost_145 : decode cX11_turnToPost 145 = .ok (.iload 6, 2) := by decide +kernel
theorem dX11_turnToPost_147 : decode cX11_turnToPost 147 = .ok (.iastore, 1) := by decide +kernel
theorem dX11_turnToPost_148 : decode cX11_turnToPost 148 = .ok (.aload_n 0, 1) := by decide +kernel
theorem dX11_turnToPost_149 : decode cX11_turnToPost 149 = .ok (.iload_n 1, 1) := by decide +kernel
theorem dX11_turnToPost_150 : decode cX11_turnToPost 150 = .ok (.iconst 0, 1) := by decide +kernel
theorem dX11_turnToPost_151 : decode cX11_turnToPost 151 = .ok (.invokevirtual 120, 3) := by decide +kernel
theorem dX11_turnToPost_154 : decode cX11_turnToPost 154 = .ok (.return_, 1) := by decide +kernel
theorem dX11_go_0 : decode cX11_go 0 = .ok (.iconst 0, 1) := by decide +kernel
theorem dX11_go_1 : decode cX11_go 1 = .ok (.istore 4, 2) := by decide +kernel
theorem dX11_go_3 : decode cX11_go 3 = .ok (.iload 4, 2) := by decide +kernel
theorem dX11_go_5 : decode cX11_go 5 = .ok (.iload_n 2, 1) := by decide +kernel
theorem dX11_go_6 : decode cX11_go 6 = .ok (.if_icmp .ge 124, 3) := by decide +kernel
theorem dX11_go_9 : decode cX11_go 9 = .ok (.aload_n 0, 1) := by decide +kernel
theorem dX11_go_10 : decode cX11_go 10 = .ok (.getfield 28, 3) := by decide +kernel
theorem dX11_go_13 : decode cX11_go 13 = .ok (.iload_n 1, 1) := by decide +kernel
theorem dX11_go_14 : decode cX11_go 14 = .ok (.iconst 0, 1) := by decide +kernel
theorem dX11_go_15 : decode cX11_go 15 = .ok (.iadd, 1) := by decide +kernel
theorem dX11_go_16 : decode cX11_go 16 = .ok (.iaload, 1) := by decide +kernel
theorem dX11_go_17 : decode cX11_go 17 = .ok (.aload_n 0, 1) := by decide +kernel
theorem dX11_go_18 : decode cX11_go 18 = .ok (.getfield 28, 3) := by decide +kernel
theorem dX11_go_21 : decode cX11_go 21 = .ok (.iload_n 1, 1) := by decide +kernel
theorem dX11_go_22 : decode cX11_go 22 = .ok (.iconst 1, 1) := by decide +kernel
theorem dX11_go_23 : decode cX11_go 23 = .ok (.iadd, 1) := by decide +kernel
theorem dX11_go_24 : decode cX11_go 24 = .ok (.iaload, 1) := by decide +kernel
theorem dX11_go_25 : decode cX11_go 25 = .ok (.invokestatic 124, 3) := by decide +kernel
theorem dX11_go_28 : decode cX11_go 28 = .ok (.istore 5, 2) := by decide +kernel
theorem dX11_go_30 : decode cX11_go 30 = .ok (.iload 5, 2) := by decide +kernel
theorem dX11_go_32 : decode cX11_go 32 = .ok (.ifCond .ge 20, 3) := by decide +kernel
theorem dX11_go_35 : decode cX11_go 35 = .ok (.aload_n 0, 1) := by decide +kernel
theorem dX11_go_36 : decode cX11_go 36 = .ok (.getfield 28, 3) := by decide +kernel
theorem dX11_go_39 : decode cX11_go 39 = .ok (.iload_n 1, 1) := by decide +kernel
theorem dX11_go_40 : decode cX11_go 40 = .ok (.bipush 7, 2) := by decide +kernel
theorem dX11_go_42 : decode cX11_go 42 = .ok (.iadd, 1) := by decide +kernel
theorem dX11_go_43 : decode cX11_go 43 = .ok (.dup2, 1) := by decide +kernel
theorem dX11_go_44 : decode cX11_go 44 = .ok (.iaload, 1) := by decide +kernel
theorem dX11_go_45 : decode cX11_go 45 = .ok (.iload_n 2, 1) := by decide +kernel
theorem dX11_go_46 : decode cX11_go 46 = .ok (.iload 4, 2) := by decide +kernel
theorem dX11_go_48 : decode cX11_go 48 = .ok (.isub, 1) := by decide +kernel
theorem dX11_go_49 : decode cX11_go 49 = .ok (.iadd, 1) := by decide +kernel
theorem dX11_go_50 : decode cX11_go 50 = .ok (.iastore, 1) := by decide +kernel
theorem dX11_go_51 : decode cX11_go 51 = .ok (.return_, 1) := by decide +kernel
theorem dX11_go_52 : decode cX11_go 52 = .ok (.aload_n 0, 1) := by decide +kernel
theorem dX11_go_53 : decode cX11_go 53 = .ok (.getfield 28, 3) := by decide +kernel
theorem dX11_go_56 : decode cX11_go 56 = .ok (.iload_n 1, 1) := by decide +kernel
theorem dX11_go_57 : decode cX11_go 57 = .ok (.iconst 0, 1) := by decide +kernel
theorem dX11_go_58 : decode cX11_go 58 = .ok (.iadd, 1) := by decide +kernel
theorem dX11_go_59 : decode cX11_go 59 = .ok (.iload 5, 2) := by decide +kernel
theorem dX11_go_61 : decode cX11_go 61 = .ok (.iastore, 1) := by decide +kernel
theorem dX11_go_62 : decode cX11_go 62 = .ok (.aload_n 0, 1) := by decide +kernel
theorem dX11_go_63 : decode cX11_go 63 = .ok (.getfield 28, 3) := by decide +kernel
theorem dX11_go_66 : decode cX11_go 66 = .ok (.iload_n 1, 1) := by decide +kernel
theorem dX11_go_67 : decode cX11_go 67 = .ok (.bipush 6, 2) := by decide +kernel
theorem dX11_go_69 : decode cX11_go 69 = .ok (.iadd, 1) := by decide +kernel
theorem dX11_go_70 : decode cX11_go 70 = .ok (.dup2, 1) := by decide +kernel
theorem dX11_go_71 : decode cX11_go 71 = .ok (.iaload, 1) := by decide +kernel
theorem dX11_go_72 : decode cX11_go 72 = .ok (.iconst 1, 1) := by decide +kernel
theorem dX11_go_73 : decode cX11_go 73 = .ok (.iadd, 1) := by decide +kernel
theorem dX11_go_74 : decode cX11_go 74 = .ok (.iastore, 1) := by decide +kernel
theorem dX11_go_75 : decode cX11_go 75 = .ok (.iload_n 3, 1) := by decide +kernel
theorem dX11_go_76 : decode cX11_go 76 = .ok (.ifCond .eq 48, 3) := by decide +kernel
theorem dX11_go_79 : decode cX11_go 79 = .ok (.aload_n 0, 1) := by decide +kernel
theorem dX11_go_80 : decode cX11_go 80 = .ok (.getfield 28, 3) := by decide +kernel
theorem dX11_go_83 : decode cX11_go 83 = .ok (.iload_n 1, 1) := by decide +kernel
theorem dX11_go_84 : decode cX11_go 84 = .ok (.iconst 3, 1) := by decide +kernel
theorem dX11_go_85 : decode cX11_go 85 = .ok (.iadd, 1) := by decide +kernel
theorem dX11_go_86 : decode cX11_go 86 = .ok (.iaload, 1) := by decide +kernel
theorem dX11_go_87 : decode cX11_go 87 = .ok (.ifCond .le 37, 3) := by decide +kernel
theorem dX11_go_90 : decode cX11_go 90 = .ok (.aload_n 0, 1) := by decide +kernel
theorem dX11_go_91 : decode cX11_go 91 = .ok (.getfield 28, 3) := by decide +kernel
theorem dX11_go_94 : decode cX11_go 94 = .ok (.iload_n 1, 1) := by decide +kernel
theorem dX11_go_95 : decode cX11_go 95 = .ok (.iconst 3, 1) := by decide +kernel
theorem dX11_go_96 : decode cX11_go 96 = .ok (.iadd, 1) := by decide +kernel
theorem dX11_go_97 : decode cX11_go 97 = .ok (.dup2, 1) := by decide +kernel
theorem dX11_go_98 : decode cX11_go 98 = .ok (.iaload, 1) := by decide +kernel
theorem dX11_go_99 : decode cX11_go 99 = .ok (.iconst 1, 1) := by decide +kernel
theorem dX11_go_100 : decode cX11_go 100 = .ok (.isub, 1) := by decide +kernel
theorem dX11_go_101 : decode cX11_go 101 = .ok (.iastore, 1) := by decide +kernel
theorem dX11_go_102 : decode cX11_go 102 = .ok (.aload_n 0, 1) := by decide +kernel
theorem dX11_go_103 : decode cX11_go 103 = .ok (.getfield 31, 3) := by decide +kernel
theorem dX11_go_106 : decode cX11_go 106 = .ok (.iconst 4, 1) := by decide +kernel
theorem dX11_go_107 : decode cX11_go 107 = .ok (.iload 5, 2) := by decide +kernel
theorem dX11_go_109 : decode cX11_go 109 = .ok (.imul, 1) := by decide +kernel
theorem dX11_go_110 : decode cX11_go 110 = .ok (.aload_n 0, 1) := by decide +kernel
theorem dX11_go_111 : decode cX11_go 111 = .ok (.getfield 28, 3) := by decide +kernel
theorem dX11_go_114 : decode cX11_go 114 = .ok (.iload_n 1, 1) := by decide +kernel
theorem dX11_go_115 : decode cX11_go 115 = .ok (.iconst 2, 1) := by decide +kernel
theorem dX11_go_116 : decode cX11_go 116 = .ok (.iadd, 1) := by decide +kernel
theorem dX11_go_117 : decode cX11_go 117 = .ok (.iaload, 1) := by decide +kernel
theorem dX11_go_118 : decode cX11_go 118 = .ok (.iadd, 1) := by decide +kernel
theorem dX11_go_119 : decode cX11_go 119 = .ok (.dup2, 1) := by decide +kernel
theorem dX11_go_120 : decode cX11_go 120 = .ok (.iaload, 1) := by decide +kernel
theorem dX11_go_121 : decode cX11_go 121 = .ok (.iconst 1, 1) := by decide +kernel
theorem dX11_go_122 : decode cX11_go 122 = .ok (.iadd, 1) := by decide +kernel
theorem dX11_go_123 : decode cX11_go 123 = .ok (.iastore, 1) := by decide +kernel
theorem dX11_go_124 : decode cX11_go 124 = .ok (.iinc 4 1, 3) := by decide +kernel
theorem dX11_go_127 : decode cX11_go 127 = .ok (.goto (-124), 3) := by decide +kernel
theorem dX11_go_130 : decode cX11_go 130 = .ok (.return_, 1) := by decide +kernel
theorem dX11_goNight_0 : decode cX11_goNight 0 = .ok (.iconst 0, 1) := by decide +kernel
theorem dX11_goNight_1 : decode cX11_goNight 1 = .ok (.istore_n 2, 1) := by decide +kernel
theorem dX11_goNight_2 : decode cX11_goNight 2 = .ok (.iconst 0, 1) := by decide +kernel
theorem dX11_goNight_3 : decode cX11_goNight 3 = .ok (.istore_n 3, 1) := by decide +kernel
theorem dX11_goNight_4 : decode cX11_goNight 4 = .ok (.iconst 0, 1) := by decide +kernel
theorem dX11_goNight_5 : decode cX11_goNight 5 = .ok (.istore 4, 2) := by decide +kernel
theorem dX11_goNight_7 : decode cX11_goNight 7 = .ok (.iload 4, 2) := by decide +kernel
theorem dX11_goNight_9 : decode cX11_goNight 9 = .ok (.aload_n 0, 1) := by decide +kernel
theorem dX11_goNight_10 : decode cX11_goNight 10 = .ok (.getfield 91, 3) := by decide +kernel
theorem dX11_goNight_13 : decode cX11_goNight 13 = .ok (.if_icmp .ge 133, 3) := by decide +kernel
theorem dX11_goNight_16 : decode cX11_goNight 16 = .ok (.iload_n 3, 1) := by decide +kernel
theorem dX11_goNight_17 : decode cX11_goNight 17 = .ok (.iload_n 1, 1) := by decide +kernel
theorem dX11_goNight_18 : decode cX11_goNight 18 = .ok (.if_icmp .ge 128, 3) := by decide +kernel
theorem dX11_goNight_21 : decode cX11_goNight 21 = .ok (.aload_n 0, 1) := by decide +kernel
theorem dX11_goNight_22 : decode cX11_goNight 22 = .ok (.getfield 25, 3) := by decide +kernel
theorem dX11_goNight_25 : decode cX11_goNight 25 = .ok (.iload 4, 2) := by decide +kernel
theorem dX11_goNight_27 : decode cX11_goNight 27 = .ok (.iaload, 1) := by decide +kernel
theorem dX11_goNight_28 : decode cX11_goNight 28 = .ok (.istore 5, 2) := by decide +kernel
theorem dX11_goNight_30 : decode cX11_goNight 30 = .ok (.iload 5, 2) := by decide +kernel
theorem dX11_goNight_32 : decode cX11_goNight 32 = .ok (.invokestatic 102, 3) := by decide +kernel
theorem dX11_goNight_35 : decode cX11_goNight 35 = .ok (.ifCond .eq 15, 3) := by decide +kernel
theorem dX11_goNight_38 : decode cX11_goNight 38 = .ok (.bipush 8, 2) := by decide +kernel
theorem dX11_goNight_40 : decode cX11_goNight 40 = .ok (.iload 5, 2) := by decide +kernel
theorem dX11_goNight_42 : decode cX11_goNight 42 = .ok (.bipush 65, 2) := by decide +kernel
theorem dX11_goNight_44 : decode cX11_goNight 44 = .ok (.isub, 1) := by decide +kernel
theorem dX11_goNight_45 : decode cX11_goNight 45 = .ok (.imul, 1) := by decide +kernel
theorem dX11_goNight_46 : decode cX11_goNight 46 = .ok (.istore_n 2, 1) := by decide +kernel
theorem dX11_goNight_47 : decode cX11_goNight 47 = .ok (.goto 90, 3) := by decide +kernel
theorem dX11_goNight_50 : decode cX11_goNight 50 = .ok (.iload 5, 2) := by decide +kernel
theorem dX11_goNight_52 : decode cX11_goNight 52 = .ok (.bipush 114, 2) := by decide +kernel
theorem dX11_goNight_54 : decode cX11_goNight 54 = .ok (.if_icmp .ne 12, 3) := by decide +kernel
theorem dX11_goNight_57 : decode cX11_goNight 57 = .ok (.aload_n 0, 1) := by decide +kernel
theorem dX11_goNight_58 : decode cX11_goNight 58 = .ok (.iload_n 2, 1) := by decide +kernel
theorem dX11_goNight_59 : decode cX11_goNight 59 = .ok (.iconst 1, 1) := by decide +kernel
theorem dX11_goNight_60 : decode cX11_goNight 60 = .ok (.invokevirtual 120, 3) := by decide +kernel
theorem dX11_goNight_63 : decode cX11_goNight 63 = .ok (.goto 74, 3) := by decide +kernel
theorem dX11_goNight_66 : decode cX11_goNight 66 = .ok (.iload 5, 2) := by decide +kernel
theorem dX11_goNight_68 : decode cX11_goNight 68 = .ok (.bipush 108, 2) := by decide +kernel
theorem dX11_goNight_70 : decode cX11_goNight 70 = .ok (.if_icmp .ne 12, 3) := by decide +kernel
theorem dX11_goNight_73 : decode cX11_goNight 73 = .ok (.aload_n 0, 1) := by decide +kernel
theorem dX11_goNight_74 : decode cX11_goNight 74 = .ok (.iload_n 2, 1) := by decide +kernel
theorem dX11_goNight_75 : decode cX11_goNight 75 = .ok (.iconst (-1), 1) := by decide +kernel
theorem dX11_goNight_76 : decode cX11_goNight 76 = .ok (.invokevirtual 120, 3) := by decide +kernel
theorem dX11_goNight_79 : decode cX11_goNight 79 = .ok (.goto 58, 3) := by decide +kernel
theorem dX11_goNight_82 : decode cX11_goNight 82 = .ok (.iload 5, 2) := by decide +kernel
theorem dX11_goNight_84 : decode cX11_goNight 84 = .ok (.bipush 98, 2) := by decide +kernel
theorem dX11_goNight_86 : decode cX11_goNight 86 = .ok (.if_icmp .ne 11, 3) := by decide +kernel
theorem dX11_goNight_89 : decode cX11_goNight 89 = .ok (.aload_n 0, 1) := by decide +kernel
theorem dX11_goNight_90 : decode cX11_goNight 90 = .ok (.iload_n 2, 1) := by decide +kernel
theorem dX11_goNight_91 : decode cX11_goNight 91 = .ok (.invokevirtual 127, 3) := by decide +kernel
theorem dX11_goNight_94 : decode cX11_goNight 94 = .ok (.goto 43, 3) := by decide +kernel
theorem dX11_goNight_97 : decode cX11_goNight 97 = .ok (.iload 5, 2) := by decide +kernel
theorem dX11_goNight_99 : decode cX11_goNight 99 = .ok (.invokestatic 108, 3) := by decide +kernel
theorem dX11_goNight_102 : decode cX11_goNight 102 = .ok (.ifCond .eq 35, 3) := by decide +kernel
theorem dX11_goNight_105 : decode cX11_goNight 105 = .ok (.aload_n 0, 1) := by decide +kernel
theorem dX11_goNight_106 : decode cX11_goNight 106 = .ok (.iload_n 2, 1) := by decide +kernel
theorem dX11_goNight_107 : decode cX11_goNight 107 = .ok (.aload_n 0, 1) := by decide +kernel
theorem dX11_goNight_108 : decode cX11_goNight 108 = .ok (.getfield 25, 3) := by decide +kernel
theorem dX11_goNight_111 : decode cX11_goNight 111 = .ok (.iload 4, 2) := by decide +kernel
theorem dX11_goNight_113 : decode cX11_goNight 113 = .ok (.iconst 1, 1) := by decide +kernel
theorem dX11_goNight_114 : decode cX11_goNight 114 = .ok (.iadd, 1) := by decide +kernel
theorem dX11_goNight_115 : decode cX11_goNight 115 = .ok (.iaload, 1) := by decide +kernel
theorem dX11_goNight_116 : decode cX11_goNight 116 = .ok (.bipush 48, 2) := by decide +kernel
theorem dX11_goNight_118 : decode cX11_goNight 118 = .ok (.isub, 1) := by decide +kernel
theorem dX11_goNight_119 : decode cX11_goNight 119 = .ok (.iload 5, 2) := by decide +kernel
theorem dX11_goNight_121 : decode cX11_goNight 121 = .ok (.bipush 102, 2) := by decide +kernel
theorem dX11_goNight_123 : decode cX11_goNight 123 = .ok (.if_icmp .ne 7, 3) := by decide +kernel
theorem dX11_goNight_126 : decode cX11_goNight 126 = .ok (.iconst 1, 1) := by decide +kernel
theorem dX11_goNight_127 : decode cX11_goNight 127 = .ok (.goto 4, 3) := by decide +kernel
theorem dX11_goNight_130 : decode cX11_goNight 130 = .ok (.iconst 0, 1) := by decide +kernel
theorem dX11_goNight_131 : decode cX11_goNight 131 = .ok (.invokevirtual 131, 3) := by decide +kernel
theorem dX11_goNight_134 : decode cX11_goNight 134 = .ok (.iinc 4 1, 3) := by decide +kernel
theorem dX11_goNight_137 : decode cX11_goNight 137 = .ok (.iinc 3 1, 3) := by decide +kernel
theorem dX11_goNight_140 : decode cX11_goNight 140 = .ok (.iinc 4 1, 3) := by decide +kernel
theorem dX11_goNight_143 : decode cX11_goNight 143 = .ok (.goto (-136), 3) := by decide +kernel
theorem dX11_goNight_146 : decode cX11_goNight 146 = .ok (.return_, 1) := by decide +kernel
theorem dX11_night_0 : decode cX11_night 0 = .ok (.aload_n 0, 1) := by decide +kernel
theorem dX11_night_1 : decode cX11_night 1 = .ok (.invokevirtual 135, 3) := by decide +kernel
theorem dX11_night_4 : decode cX11_night 4 = .ok (.ifCond .lt 6, 3) := by decide +kernel
theorem dX11_night_7 : decode cX11_night 7 = .ok (.bipush (-5), 2) := by decide +kernel
theorem dX11_night_9 : decode cX11_night 9 = .ok (.ireturn, 1) := by decide +kernel
theorem dX11_night_10 : decode cX11_night 10 = .ok (.aload_n 0, 1) := by decide +kernel
theorem dX11_night_11 : decode cX11_night 11 = .ok (.invokevirtual 139, 3) := by decide +kernel
theorem dX11_night_14 : decode cX11_night 14 = .ok (.aload_n 0, 1) := by decide +kernel
theorem dX11_night_15 : decode cX11_night 15 = .ok (.invokevirtual 142, 3) := by decide +kernel
theorem dX11_night_18 : decode cX11_night 18 = .ok (.istore_n 1, 1) := by decide +kernel
theorem dX11_night_19 : decode cX11_night 19 = .ok (.aload_n 0, 1) := by decide +kernel
theorem dX11_night_20 : decode cX11_night 20 = .ok (.iload_n 1, 1) := by decide +kernel
theorem dX11_night_21 : decode cX11_night 21 = .ok (.invokevirtual 145, 3) := by decide +kernel
theorem dX11_night_24 : decode cX11_night 24 = .ok (.iconst 0, 1) := by decide +kernel
theorem dX11_night_25 : decode cX11_night 25 = .ok (.istore_n 2, 1) := by decide +kernel
theorem dX11_night_26 : decode cX11_night 26 = .ok (.iload_n 2, 1) := by decide +kernel
theorem dX11_night_27 : decode cX11_night 27 = .ok (.bipush 32, 2) := by decide +kernel
theorem dX11_night_29 : decode cX11_night 29 = .ok (.if_icmp .ge 21, 3) := by decide +kernel
theorem dX11_night_32 : decode cX11_night 32 = .ok (.aload_n 0, 1) := by decide +kernel
theorem dX11_night_33 : decode cX11_night 33 = .ok (.getfield 7, 3) := by decide +kernel
theorem dX11_night_36 : decode cX11_night 36 = .ok (.iload_n 2, 1) := by decide +kernel
theorem dX11_night_37 : decode cX11_night 37 = .ok (.aload_n 0, 1) := by decide +kernel
theorem dX11_night_38 : decode cX11_night 38 = .ok (.getfield 28, 3) := by decide +kernel
theorem dX11_night_41 : decode cX11_night 41 = .ok (.iload_n 2, 1) := by decide +kernel
theorem dX11_night_42 : decode cX11_night 42 = .ok (.iaload, 1) := by decide +kernel
theorem dX11_night_43 : decode cX11_night 43 = .ok (.iastore, 1) := by decide +kernel
theorem dX11_night_44 : decode cX11_night 44 = .ok (.iinc 2 1, 3) := by decide +kernel
theorem dX11_night_47 : decode cX11_night 47 = .ok (.goto (-21), 3) := by decide +kernel
theorem dX11_night_50 : decode cX11_night 50 = .ok (.iconst 0, 1) := by decide +kernel
theorem dX11_night_51 : decode cX11_night 51 = .ok (.istore_n 2, 1) := by decide +kernel
theorem dX11_night_52 : decode cX11_night 52 = .ok (.iload_n 2, 1) := by decide +kernel
theorem dX11_night_53 : decode cX11_night 53 = .ok (.sipush 256, 3) := by decide +kernel
theorem dX11_night_56 : decode cX11_night 56 = .ok (.if_icmp .ge 21, 3) := by decide +kernel
theorem dX11_night_59 : decode cX11_night 59 = .ok (.aload_n 0, 1) := by decide +kernel
theorem dX11_night_60 : decode cX11_night 60 = .ok (.getfield 13, 3) := by decide +kernel
theorem dX11_night_63 : decode cX11_night 63 = .ok (.iload_n 2, 1) := by decide +kernel
theorem dX11_night_64 : decode cX11_night 64 = .ok (.aload_n 0, 1) := by decide +kernel
theorem dX11_night_65 : decode cX11_night 65 = .ok (.getfield 31, 3) := by decide +kernel
theorem dX11_night_68 : decode cX11_night 68 = .ok (.iload_n 2, 1) := by decide +kernel
theorem dX11_night_69 : decode cX11_night 69 = .ok (.iaload, 1) := by decide +kernel
theorem dX11_night_70 : decode cX11_night 70 = .ok (.iastore, 1) := by decide +kernel
theorem dX11_night_71 : decode cX11_night 71 = .ok (.iinc 2 1, 3) := by decide +kernel
theorem dX11_night_74 : decode cX11_night 74 = .ok (.goto (-22), 3) := by decide +kernel
theorem dX11_night_77 : decode cX11_night 77 = .ok (.aload_n 0, 1) := by decide +kernel
theorem dX11_night_78 : decode cX11_night 78 = .ok (.iconst 0, 1) := by decide +kernel
theorem dX11_night_79 : decode cX11_night 79 = .ok (.putfield 91, 3) := by decide +kernel
theorem dX11_night_82 : decode cX11_night 82 = .ok (.iload_n 1, 1) := by decide +kernel
theorem dX11_night_83 : decode cX11_night 83 = .ok (.ireturn, 1) := by decide +kernel
theorem dX11_about_0 : decode cX11_about 0 = .ok (.iload_n 1, 1) := by decide +kernel
theorem dX11_about_1 : decode cX11_about 1 = .ok (.invokestatic 72, 3) := by decide +kernel
theorem dX11_about_4 : decode cX11_about 4 = .ok (.ifCond .ne 5, 3) := by decide +kernel
theorem dX11_about_7 : decode cX11_about 7 = .ok (.iconst (-1), 1) := by decide +kernel
theorem dX11_about_8 : decode cX11_about 8 = .ok (.ireturn, 1) := by decide +kernel
theorem dX11_about_9 : decode cX11_about 9 = .ok (.iload_n 2, 1) := by decide +kernel
theorem dX11_about_10 : decode cX11_about 10 = .ok (.i2l, 1) := by decide +kernel
theorem dX11_about_11 : decode cX11_about 11 = .ok (.lconst 0, 1) := by decide +kernel
theorem dX11_about_12 : decode cX11_about 12 = .ok (.ldc2_w 60, 3) := by decide +kernel
theorem dX11_about_15 : decode cX11_about 15 = .ok (.invokestatic 52, 3) := by decide +kernel
theorem dX11_about_18 : decode cX11_about 18 = .ok (.ifCond .eq 12, 3) := by decide +kernel
theorem dX11_about_21 : decode cX11_about 21 = .ok (.aload_n 0, 1) := by decide +kernel
theorem dX11_about_22 : decode cX11_about 22 = .ok (.iload_n 1, 1) := by decide +kernel
theorem dX11_about_23 : decode cX11_about 23 = .ok (.iload_n 2, 1) := by decide +kernel
theorem dX11_about_24 : decode cX11_about 24 = .ok (.invokevirtual 76, 3) := by decide +kernel
theorem dX11_about_27 : decode cX11_about 27 = .ok (.goto 5, 3) := by decide +kernel
theorem dX11_about_30 : decode cX11_about 30 = .ok (.bipush (-2), 2) := by decide +kernel
theorem dX11_about_32 : decode cX11_about 32 = .ok (.ireturn, 1) := by decide +kernel
theorem dX11_grainsIn_0 : decode cX11_grainsIn 0 = .ok (.iconst 0, 1) := by decide +kernel
theorem dX11_grainsIn_1 : decode cX11_grainsIn 1 = .ok (.istore_n 2, 1) := by decide +kernel
theorem dX11_grainsIn_2 : decode cX11_grainsIn 2 = .ok (.iconst 0, 1) := by decide +kernel
theorem dX11_grainsIn_3 : decode cX11_grainsIn 3 = .ok (.istore_n 3, 1) := by decide +kernel
theorem dX11_grainsIn_4 : decode cX11_grainsIn 4 = .ok (.iload_n 3, 1) := by decide +kernel
theorem dX11_grainsIn_5 : decode cX11_grainsIn 5 = .ok (.iconst 4, 1) := by decide +kernel
theorem dX11_grainsIn_6 : decode cX11_grainsIn 6 = .ok (.if_icmp .ge 22, 3) := by decide +kernel
theorem dX11_grainsIn_9 : decode cX11_grainsIn 9 = .ok (.iload_n 2, 1) := by decide +kernel
theorem dX11_grainsIn_10 : decode cX11_grainsIn 10 = .ok (.aload_n 0, 1) := by decide +kernel
theorem dX11_grainsIn_11 : decode cX11_grainsIn 11 = .ok (.getfield 13, 3) := by decide +kernel
theorem dX11_grainsIn_14 : decode cX11_grainsIn 14 = .ok (.iconst 4, 1) := by decide +kernel
theorem dX11_grainsIn_15 : decode cX11_grainsIn 15 = .ok (.iload_n 1, 1) := by decide +kernel
theorem dX11_grainsIn_16 : decode cX11_grainsIn 16 = .ok (.imul, 1) := by decide +kernel
theorem dX11_grainsIn_17 : decode cX11_grainsIn 17 = .ok (.iload_n 3, 1) := by decide +kernel
theorem dX11_grainsIn_18 : decode cX11_grainsIn 18 = .ok (.iadd, 1) := by decide +kernel
theorem dX11_grainsIn_19 : decode cX11_grainsIn 19 = .ok (.iaload, 1) := by decide +kernel
theorem dX11_grainsIn_20 : decode cX11_grainsIn 20 = .ok (.iadd, 1) := by decide +kernel
theorem dX11_grainsIn_21 : decode cX11_grainsIn 21 = .ok (.istore_n 2, 1) := by decide +kernel
theorem dX11_grainsIn_22 : decode cX11_grainsIn 22 = .ok (.iinc 3 1, 3) := by decide +kernel
theorem dX11_grainsIn_25 : decode cX11_grainsIn 25 = .ok (.goto (-21), 3) := by decide +kernel
theorem dX11_grainsIn_28 : decode cX11_grainsIn 28 = .ok (.iload_n 2, 1) := by decide +kernel
theorem dX11_grainsIn_29 : decode cX11_grainsIn 29 = .ok (.ireturn, 1) := by decide +kernel
theorem dX11_up_0 : decode cX11_up 0 = .ok (.iload_n 2, 1) := by decide +kernel
theorem dX11_up_1 : decode cX11_up 1 = .ok (.iconst (-1), 1) := by decide +kernel
theorem dX11_up_2 : decode cX11_up 2 = .ok (.if_icmp .eq 12, 3) := by decide +kernel
theorem dX11_up_5 : decode cX11_up 5 = .ok (.iload_n 2, 1) := by decide +kernel
theorem dX11_up_6 : decode cX11_up 6 = .ok (.invokestatic 148, 3) := by decide +kernel
theorem dX11_up_9 : decode cX11_up 9 = .ok (.ifCond .ne 5, 3) := by decide +kernel
theorem dX11_up_12 : decode cX11_up 12 = .ok (.iconst (-1), 1) := by decide +kernel
theorem dX11_up_13 : decode cX11_up 13 = .ok (.ireturn, 1) := by decide +kernel
theorem dX11_up_14 : decode cX11_up 14 = .ok (.iload_n 1, 1) := by decide +kernel
theorem dX11_up_15 : decode cX11_up 15 = .ok (.invokestatic 80, 3) := by decide +kernel
theorem dX11_up_18 : decode cX11_up 18 = .ok (.ifCond .ne 6, 3) := by decide +kernel
theorem dX11_up_21 : decode cX11_up 21 = .ok (.bipush (-2), 2) := by decide +kernel
theorem dX11_up_23 : decode cX11_up 23 = .ok (.ireturn, 1) := by decide +kernel
theorem dX11_up_24 : decode cX11_up 24 = .ok (.iload_n 2, 1) := by decide +kernel
theorem dX11_up_25 : decode cX11_up 25 = .ok (.iconst (-1), 1) := by decide +kernel
theorem dX11_up_26 : decode cX11_up 26 = .ok (.if_icmp .ne 11, 3) := by decide +kernel
theorem dX11_up_29 : decode cX11_up 29 = .ok (.aload_n 0, 1) := by decide +kernel
theorem dX11_up_30 : decode cX11_up 30 = .ok (.iload_n 1, 1) := by decide +kernel
theorem dX11_up_31 : decode cX11_up 31 = .ok (.invokevirtual 151, 3) := by decide +kernel
theorem dX11_up_34 : decode cX11_up 34 = .ok (.goto 13, 3) := by decide +kernel
