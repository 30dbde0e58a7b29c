theorem dX0_init_0 : decode cX0_init 0 = .ok (.aload_n 0, 1) := by decide +kernel
theorem dX0_init_1 : decode cX0_init 1 = .ok (.invokespecial 3, 3) := by decide +kernel
theorem dX0_init_4 : decode cX0_init 4 = .ok (.aload_n 0, 1) := by decide +kernel
theorem dX0_init_5 : decode cX0_init 5 = .ok (.new 9, 3) := by decide +kernel
theorem dX0_init_8 : decode cX0_init 8 = .ok (.dup, 1) := by decide +kernel
theorem dX0_init_9 : decode cX0_init 9 = .ok (.invokespecial 11, 3) := by decide +kernel
theorem dX0_init_12 : decode cX0_init 12 = .ok (.putfield 12, 3) := by decide +kernel
theorem dX0_init_15 : decode cX0_init 15 = .ok (.aload_n 0, 1) := by decide +kernel
theorem dX0_init_16 : decode cX0_init 16 = .ok (.new 18, 3) := by decide +kernel
theorem dX0_init_19 : decode cX0_init 19 = .ok (.dup, 1) := by decide +kernel
theorem dX0_init_20 : decode cX0_init 20 = .ok (.invokespecial 20, 3) := by decide +kernel
theorem dX0_init_23 : decode cX0_init 23 = .ok (.putfield 21, 3) := by decide +kernel
theorem dX0_init_26 : decode cX0_init 26 = .ok (.return_, 1) := by decide +kernel
theorem dX0_seek_0 : decode cX0_seek 0 = .ok (.aload_n 0, 1) := by decide +kernel
theorem dX0_seek_1 : decode cX0_seek 1 = .ok (.getfield 21, 3) := by decide +kernel
theorem dX0_seek_4 : decode cX0_seek 4 = .ok (.aload_n 2, 1) := by decide +kernel
theorem dX0_seek_5 : decode cX0_seek 5 = .ok (.getfield 25, 3) := by decide +kernel
theorem dX0_seek_8 : decode cX0_seek 8 = .ok (.putfield 31, 3) := by decide +kernel
theorem dX0_seek_11 : decode cX0_seek 11 = .ok (.aload_n 0, 1) := by decide +kernel
theorem dX0_seek_12 : decode cX0_seek 12 = .ok (.ldc 34, 2) := by decide +kernel
theorem dX0_seek_14 : decode cX0_seek 14 = .ok (.putfield 35, 3) := by decide +kernel
theorem dX0_seek_17 : decode cX0_seek 17 = .ok (.aload_n 3, 1) := by decide +kernel
theorem dX0_seek_18 : decode cX0_seek 18 = .ok (.bipush 98, 2) := by decide +kernel
theorem dX0_seek_20 : decode cX0_seek 20 = .ok (.invokevirtual 39, 3) := by decide +kernel
theorem dX0_seek_23 : decode cX0_seek 23 = .ok (.ifCond .eq 7, 3) := by decide +kernel
theorem dX0_seek_26 : decode cX0_seek 26 = .ok (.iconst 0, 1) := by decide +kernel
theorem dX0_seek_27 : decode cX0_seek 27 = .ok (.goto 5, 3) := by decide +kernel
theorem dX0_seek_30 : decode cX0_seek 30 = .ok (.ldc 45, 2) := by decide +kernel
theorem dX0_seek_32 : decode cX0_seek 32 = .ok (.istore 4, 2) := by decide +kernel
theorem dX0_seek_34 : decode cX0_seek 34 = .ok (.iload_n 1, 1) := by decide +kernel
theorem dX0_seek_35 : decode cX0_seek 35 = .ok (.ifCond .ne 7, 3) := by decide +kernel
theorem dX0_seek_38 : decode cX0_seek 38 = .ok (.iconst 1, 1) := by decide +kernel
theorem dX0_seek_39 : decode cX0_seek 39 = .ok (.goto 5, 3) := by decide +kernel
theorem dX0_seek_42 : decode cX0_seek 42 = .ok (.bipush 64, 2) := by decide +kernel
theorem dX0_seek_44 : decode cX0_seek 44 = .ok (.istore 5, 2) := by decide +kernel
theorem dX0_seek_46 : decode cX0_seek 46 = .ok (.iconst 0, 1) := by decide +kernel
theorem dX0_seek_47 : decode cX0_seek 47 = .ok (.istore 6, 2) := by decide +kernel
theorem dX0_seek_49 : decode cX0_seek 49 = .ok (.iload 6, 2) := by decide +kernel
theorem dX0_seek_51 : decode cX0_seek 51 = .ok (.iload 5, 2) := by decide +kernel
theorem dX0_seek_53 : decode cX0_seek 53 = .ok (.if_icmp .ge 73, 3) := by decide +kernel
theorem dX0_seek_56 : decode cX0_seek 56 = .ok (.aload_n 0, 1) := by decide +kernel
theorem dX0_seek_57 : decode cX0_seek 57 = .ok (.getfield 35, 3) := by decide +kernel
theorem dX0_seek_60 : decode cX0_seek 60 = .ok (.iload 4, 2) := by decide +kernel
theorem dX0_seek_62 : decode cX0_seek 62 = .ok (.if_icmp .le 64, 3) := by decide +kernel
theorem dX0_seek_65 : decode cX0_seek 65 = .ok (.iload_n 1, 1) := by decide +kernel
theorem dX0_seek_66 : decode cX0_seek 66 = .ok (.iconst 2, 1) := by decide +kernel
theorem dX0_seek_67 : decode cX0_seek 67 = .ok (.if_icmp .ne 8, 3) := by decide +kernel
theorem dX0_seek_70 : decode cX0_seek 70 = .ok (.bipush 64, 2) := by decide +kernel
theorem dX0_seek_72 : decode cX0_seek 72 = .ok (.goto 7, 3) := by decide +kernel
theorem dX0_seek_75 : decode cX0_seek 75 = .ok (.iload 6, 2) := by decide +kernel
theorem dX0_seek_77 : decode cX0_seek 77 = .ok (.iconst 2, 1) := by decide +kernel
theorem dX0_seek_78 : decode cX0_seek 78 = .ok (.iadd, 1) := by decide +kernel
theorem dX0_seek_79 : decode cX0_seek 79 = .ok (.istore 7, 2) := by decide +kernel
theorem dX0_seek_81 : decode cX0_seek 81 = .ok (.iload 6, 2) := by decide +kernel
theorem dX0_seek_83 : decode cX0_seek 83 = .ok (.iconst 1, 1) := by decide +kernel
theorem dX0_seek_84 : decode cX0_seek 84 = .ok (.iadd, 1) := by decide +kernel
theorem dX0_seek_85 : decode cX0_seek 85 = .ok (.istore 8, 2) := by decide +kernel
theorem dX0_seek_87 : decode cX0_seek 87 = .ok (.iload 8, 2) := by decide +kernel
theorem dX0_seek_89 : decode cX0_seek 89 = .ok (.iload 7, 2) := by decide +kernel
theorem dX0_seek_91 : decode cX0_seek 91 = .ok (.if_icmp .ge 29, 3) := by decide +kernel
theorem dX0_seek_94 : decode cX0_seek 94 = .ok (.aload_n 0, 1) := by decide +kernel
theorem dX0_seek_95 : decode cX0_seek 95 = .ok (.getfield 35, 3) := by decide +kernel
theorem dX0_seek_98 : decode cX0_seek 98 = .ok (.iload 4, 2) := by decide +kernel
theorem dX0_seek_100 : decode cX0_seek 100 = .ok (.if_icmp .le 20, 3) := by decide +kernel
theorem dX0_seek_103 : decode cX0_seek 103 = .ok (.aload_n 0, 1) := by decide +kernel
theorem dX0_seek_104 : decode cX0_seek 104 = .ok (.iload_n 1, 1) := by decide +kernel
theorem dX0_seek_105 : decode cX0_seek 105 = .ok (.iload 6, 2) := by decide +kernel
theorem dX0_seek_107 : decode cX0_seek 107 = .ok (.iload 8, 2) := by decide +kernel
theorem dX0_seek_109 : decode cX0_seek 109 = .ok (.aload_n 2, 1) := by decide +kernel
theorem dX0_seek_110 : decode cX0_seek 110 = .ok (.aload_n 3, 1) := by decide +kernel
theorem dX0_seek_111 : decode cX0_seek 111 = .ok (.invokevirtual 46, 3) := by decide +kernel
theorem dX0_seek_114 : decode cX0_seek 114 = .ok (.iinc 8 1, 3) := by decide +kernel
theorem dX0_seek_117 : decode cX0_seek 117 = .ok (.goto (-30), 3) := by decide +kernel
theorem dX0_seek_120 : decode cX0_seek 120 = .ok (.iinc 6 1, 3) := by decide +kernel
theorem dX0_seek_123 : decode cX0_seek 123 = .ok (.goto (-74), 3) := by decide +kernel
theorem dX0_seek_126 : decode cX0_seek 126 = .ok (.return_, 1) := by decide +kernel
theorem dX0_tryPosts_0 : decode cX0_tryPosts 0 = .ok (.aload_n 0, 1) := by decide +kernel
theorem dX0_tryPosts_1 : decode cX0_tryPosts 1 = .ok (.getfield 12, 3) := by decide +kernel
theorem dX0_tryPosts_4 : decode cX0_tryPosts 4 = .ok (.aload 4, 2) := by decide +kernel
theorem dX0_tryPosts_6 : decode cX0_tryPosts 6 = .ok (.getfield 50, 3) := by decide +kernel
theorem dX0_tryPosts_9 : decode cX0_tryPosts 9 = .ok (.invokevirtual 51, 3) := by decide +kernel
theorem dX0_tryPosts_12 : decode cX0_tryPosts 12 = .ok (.aload_n 0, 1) := by decide +kernel
theorem dX0_tryPosts_13 : decode cX0_tryPosts 13 = .ok (.getfield 12, 3) := by decide +kernel
theorem dX0_tryPosts_16 : decode cX0_tryPosts 16 = .ok (.getfield 55, 3) := by decide +kernel
theorem dX0_tryPosts_19 : decode cX0_tryPosts 19 = .ok (.iconst 0, 1) := by decide +kernel
theorem dX0_tryPosts_20 : decode cX0_tryPosts 20 = .ok (.iload_n 2, 1) := by decide +kernel
theorem dX0_tryPosts_21 : decode cX0_tryPosts 21 = .ok (.iastore, 1) := by decide +kernel
theorem dX0_tryPosts_22 : decode cX0_tryPosts 22 = .ok (.aload_n 0, 1) := by decide +kernel
theorem dX0_tryPosts_23 : decode cX0_tryPosts 23 = .ok (.getfield 12, 3) := by decide +kernel
theorem dX0_tryPosts_26 : decode cX0_tryPosts 26 = .ok (.getfield 55, 3) := by decide +kernel
theorem dX0_tryPosts_29 : decode cX0_tryPosts 29 = .ok (.iconst 1, 1) := by decide +kernel
theorem dX0_tryPosts_30 : decode cX0_tryPosts 30 = .ok (.iload_n 3, 1) := by decide +kernel
theorem dX0_tryPosts_31 : decode cX0_tryPosts 31 = .ok (.iastore, 1) := by decide +kernel
theorem dX0_tryPosts_32 : decode cX0_tryPosts 32 = .ok (.aload_n 0, 1) := by decide +kernel
theorem dX0_tryPosts_33 : decode cX0_tryPosts 33 = .ok (.getfield 12, 3) := by decide +kernel
theorem dX0_tryPosts_36 : decode cX0_tryPosts 36 = .ok (.iload_n 1, 1) := by decide +kernel
theorem dX0_tryPosts_37 : decode cX0_tryPosts 37 = .ok (.putfield 59, 3) := by decide +kernel
theorem dX0_tryPosts_40 : decode cX0_tryPosts 40 = .ok (.aload_n 0, 1) := by decide +kernel
theorem dX0_tryPosts_41 : decode cX0_tryPosts 41 = .ok (.getfield 12, 3) := by decide +kernel
theorem dX0_tryPosts_44 : decode cX0_tryPosts 44 = .ok (.bipush (-6), 2) := by decide +kernel
theorem dX0_tryPosts_46 : decode cX0_tryPosts 46 = .ok (.putfield 62, 3) := by decide +kernel
theorem dX0_tryPosts_49 : decode cX0_tryPosts 49 = .ok (.aload_n 0, 1) := by decide +kernel
theorem dX0_tryPosts_50 : decode cX0_tryPosts 50 = .ok (.getfield 21, 3) := by decide +kernel
theorem dX0_tryPosts_53 : decode cX0_tryPosts 53 = .ok (.iconst 0, 1) := by decide +kernel
theorem dX0_tryPosts_54 : decode cX0_tryPosts 54 = .ok (.putfield 65, 3) := by decide +kernel
theorem dX0_tryPosts_57 : decode cX0_tryPosts 57 = .ok (.iconst 0, 1) := by decide +kernel
theorem dX0_tryPosts_58 : decode cX0_tryPosts 58 = .ok (.istore 6, 2) := by decide +kernel
theorem dX0_tryPosts_60 : decode cX0_tryPosts 60 = .ok (.iload 6, 2) := by decide +kernel
theorem dX0_tryPosts_62 : decode cX0_tryPosts 62 = .ok (.aload 5, 2) := by decide +kernel
theorem dX0_tryPosts_64 : decode cX0_tryPosts 64 = .ok (.getfield 68, 3) := by decide +kernel
theorem dX0_tryPosts_67 : decode cX0_tryPosts 67 = .ok (.if_icmp .ge 48, 3) := by decide +kernel
theorem dX0_tryPosts_70 : decode cX0_tryPosts 70 = .ok (.aload_n 0, 1) := by decide +kernel
theorem dX0_tryPosts_71 : decode cX0_tryPosts 71 = .ok (.getfield 21, 3) := by decide +kernel
theorem dX0_tryPosts_74 : decode cX0_tryPosts 74 = .ok (.getfield 65, 3) := by decide +kernel
theorem dX0_tryPosts_77 : decode cX0_tryPosts 77 = .ok (.aload_n 0, 1) := by decide +kernel
theorem dX0_tryPosts_78 : decode cX0_tryPosts 78 = .ok (.getfield 35, 3) := by decide +kernel
theorem dX0_tryPosts_81 : decode cX0_tryPosts 81 = .ok (.if_icmp .ge 34, 3) := by decide +kernel
theorem dX0_tryPosts_84 : decode cX0_tryPosts 84 = .ok (.aload 5, 2) := by decide +kernel
theorem dX0_tryPosts_86 : decode cX0_tryPosts 86 = .ok (.iload 6, 2) := by decide +kernel
theorem dX0_tryPosts_88 : decode cX0_tryPosts 88 = .ok (.invokevirtual 69, 3) := by decide +kernel
theorem dX0_tryPosts_91 : decode cX0_tryPosts 91 = .ok (.ifCond .eq 18, 3) := by decide +kernel
theorem dX0_tryPosts_94 : decode cX0_tryPosts 94 = .ok (.aload_n 0, 1) := by decide +kernel
theorem dX0_tryPosts_95 : decode cX0_tryPosts 95 = .ok (.getfield 12, 3) := by decide +kernel
theorem dX0_tryPosts_98 : decode cX0_tryPosts 98 = .ok (.aload 5, 2) := by decide +kernel
theorem dX0_tryPosts_100 : decode cX0_tryPosts 100 = .ok (.iload 6, 2) := by decide +kernel
theorem dX0_tryPosts_102 : decode cX0_tryPosts 102 = .ok (.aload_n 0, 1) := by decide +kernel
theorem dX0_tryPosts_103 : decode cX0_tryPosts 103 = .ok (.getfield 21, 3) := by decide +kernel
theorem dX0_tryPosts_106 : decode cX0_tryPosts 106 = .ok (.invokevirtual 72, 3) := by decide +kernel
theorem dX0_tryPosts_109 : decode cX0_tryPosts 109 = .ok (.iinc 6 1, 3) := by decide +kernel
theorem dX0_tryPosts_112 : decode cX0_tryPosts 112 = .ok (.goto (-52), 3) := by decide +kernel
theorem dX0_tryPosts_115 : decode cX0_tryPosts 115 = .ok (.aload_n 0, 1) := by decide +kernel
theorem dX0_tryPosts_116 : decode cX0_tryPosts 116 = .ok (.getfield 21, 3) := by decide +kernel
theorem dX0_tryPosts_119 : decode cX0_tryPosts 119 = .ok (.getfield 65, 3) := by decide +kernel
theorem dX0_tryPosts_122 : decode cX0_tryPosts 122 = .ok (.aload_n 0, 1) := by decide +kernel
theorem dX0_tryPosts_123 : decode cX0_tryPosts 123 = .ok (.getfield 35, 3) := by decide +kernel
theorem dX0_tryPosts_126 : decode cX0_tryPosts 126 = .ok (.if_icmp .ge 24, 3) := by decide +kernel
theorem dX0_tryPosts_129 : decode cX0_tryPosts 129 = .ok (.aload_n 0, 1) := by decide +kernel
theorem dX0_tryPosts_130 : decode cX0_tryPosts 130 = .ok (.aload_n 0, 1) := by decide +kernel
theorem dX0_tryPosts_131 : decode cX0_tryPosts 131 = .ok (.getfield 21, 3) := by decide +kernel
theorem dX0_tryPosts_134 : decode cX0_tryPosts 134 = .ok (.getfield 65, 3) := by decide +kernel
theorem dX0_tryPosts_137 : decode cX0_tryPosts 137 = .ok (.putfield 35, 3) := by decide +kernel
theorem dX0_tryPosts_140 : decode cX0_tryPosts 140 = .ok (.aload_n 0, 1) := by decide +kernel
theorem dX0_tryPosts_141 : decode cX0_tryPosts 141 = .ok (.iload_n 2, 1) := by decide +kernel
theorem dX0_tryPosts_142 : decode cX0_tryPosts 142 = .ok (.putfield 76, 3) := by decide +kernel
theorem dX0_tryPosts_145 : decode cX0_tryPosts 145 = .ok (.aload_n 0, 1) := by decide +kernel
theorem dX0_tryPosts_146 : decode cX0_tryPosts 146 = .ok (.iload_n 3, 1) := by decide +kernel
theorem dX0_tryPosts_147 : decode cX0_tryPosts 147 = .ok (.putfield 79, 3) := by decide +kernel
theorem dX0_tryPosts_150 : decode cX0_tryPosts 150 = .ok (.return_, 1) := by decide +kernel
theorem dX1_init_0 : decode cX1_init 0 = .ok (.aload_n 0, 1) := by decide +kernel
theorem dX1_init_1 : decode cX1_init 1 = .ok (.invokespecial 3, 3) := by decide +kernel
theorem dX1_init_4 : decode cX1_init 4 = .ok (.aload_n 0, 1) := by decide +kernel
theorem dX1_init_5 : decode cX1_init 5 = .ok (.iconst 4, 1) := by decide +kernel
theorem dX1_init_6 : decode cX1_init 6 = .ok (.anewarray 9, 3) := by decide +kernel
theorem dX1_init_9 : decode cX1_init 9 = .ok (.putfield 11, 3) := by decide +kernel
theorem dX1_init_12 : decode cX1_init 12 = .ok (.aload_n 0, 1) := by decide +kernel
theorem dX1_init_13 : decode cX1_init 13 = .ok (.iconst 4, 1) := by decide +kernel
theorem dX1_init_14 : decode cX1_init 14 = .ok (.newarray .int, 2) := by decide +kernel
theorem dX1_init_16 : decode cX1_init 16 = .ok (.putfield 17, 3) := by decide +kernel
theorem dX1_init_19 : decode cX1_init 19 = .ok (.aload_n 0, 1) := by decide +kernel
theorem dX1_init_20 : decode cX1_init 20 = .ok (.bipush (-6), 2) := by decide +kernel
theorem dX1_init_22 : decode cX1_init 22 = .ok (.putfield 21, 3) := by decide +kernel
theorem dX1_init_25 : decode cX1_init 25 = .ok (.iconst 0, 1) := by decide +kernel
theorem dX1_init_26 : decode cX1_init 26 = .ok (.istore_n 1, 1) := by decide +kernel
theorem dX1_init_27 : decode cX1_init 27 = .ok (.iload_n 1, 1) := by decide +kernel
theorem dX1_init_28 : decode cX1_init 28 = .ok (.iconst 4, 1) := by decide +kernel
theorem dX1_init_29 : decode cX1_init 29 = .ok (.if_icmp .ge 23, 3) := by decide +kernel
theorem dX1_init_32 : decode cX1_init 32 = .ok (.aload_n 0, 1) := by decide +kernel
theorem dX1_init_33 : decode cX1_init 33 = .ok (.getfield 11, 3) := by decide +kernel
theorem dX1_init_36 : decode cX1_init 36 = .ok (.iload_n 1, 1) := by decide +kernel
theorem dX1_init_37 : decode cX1_init 37 = .ok (.new 9, 3) := by decide +kernel
theorem dX1_init_40 : decode cX1_init 40 = .ok (.dup, 1) := by decide +kernel
theorem dX1_init_41 : decode cX1_init 41 = .ok (.iload_n 1, 1) := by decide +kernel
theorem dX1_init_42 : decode cX1_init 42 = .ok (.invokespecial 25, 3) := by decide +kernel
theorem dX1_init_45 : decode cX1_init 45 = .ok (.aastore, 1) := by decide +kernel
theorem dX1_init_46 : decode cX1_init 46 = .ok (.iinc 1 1, 3) := by decide +kernel
theorem dX1_init_49 : decode cX1_init 49 = .ok (.goto (-22), 3) := by decide +kernel
theorem dX1_init_52 : decode cX1_init 52 = .ok (.return_, 1) := by decide +kernel
theorem dX1_copyFrom_0 : decode cX1_copyFrom 0 = .ok (.aload_n 0, 1) := by decide +kernel
theorem dX1_copyFrom_1 : decode cX1_copyFrom 1 = .ok (.aload_n 1, 1) := by decide +kernel
theorem dX1_copyFrom_2 : decode cX1_copyFrom 2 = .ok (.invokevirtual 28, 3) := by decide +kernel
theorem dX1_copyFrom_5 : decode cX1_copyFrom 5 = .ok (.aload_n 1, 1) := by decide +kernel
theorem dX1_copyFrom_6 : decode cX1_copyFrom 6 = .ok (.getfield 17, 3) := by decide +kernel
theorem dX1_copyFrom_9 : decode cX1_copyFrom 9 = .ok (.iconst 0, 1) := by decide +kernel
theorem dX1_copyFrom_10 : decode cX1_copyFrom 10 = .ok (.aload_n 0, 1) := by decide +kernel
theorem dX1_copyFrom_11 : decode cX1_copyFrom 11 = .ok (.getfield 17, 3) := by decide +kernel
theorem dX1_copyFrom_14 : decode cX1_copyFrom 14 = .ok (.iconst 0, 1) := by decide +kernel
theorem dX1_copyFrom_15 : decode cX1_copyFrom 15 = .ok (.iconst 4, 1) := by decide +kernel
theorem dX1_copyFrom_16 : decode cX1_copyFrom 16 = .ok (.invokestatic 32, 3) := by decide +kernel
theorem dX1_copyFrom_19 : decode cX1_copyFrom 19 = .ok (.aload_n 0, 1) := by decide +kernel
theorem dX1_copyFrom_20 : decode cX1_copyFrom 20 = .ok (.aload_n 1, 1) := by decide +kernel
theorem dX1_copyFrom_21 : decode cX1_copyFrom 21 = .ok (.getfield 38, 3) := by decide +kernel
theorem dX1_copyFrom_24 : decode cX1_copyFrom 24 = .ok (.putfield 38, 3) := by decide +kernel
theorem dX1_copyFrom_27 : decode cX1_copyFrom 27 = .ok (.return_, 1) := by decide +kernel
theorem dX1_copySowersFrom_0 : decode cX1_copySowersFrom 0 = .ok (.iconst 0, 1) := by decide +kernel
theorem dX1_copySowersFrom_1 : decode cX1_copySowersFrom 1 = .ok (.istore_n 2, 1) := by decide +kernel
theorem dX1_copySowersFrom_2 : decode cX1_copySowersFrom 2 = .ok (.iload_n 2, 1) := by decide +kernel
theorem dX1_copySowersFrom_3 : decode cX1_copySowersFrom 3 = .ok (.iconst 4, 1) := by decide +kernel
theorem dX1_copySowersFrom_4 : decode cX1_copySowersFrom 4 = .ok (.if_icmp .ge 24, 3) := by decide +kernel
theorem dX1_copySowersFrom_7 : decode cX1_copySowersFrom 7 = .ok (.aload_n 0, 1) := by decide +kernel
theorem dX1_copySowersFrom_8 : decode cX1_copySowersFrom 8 = .ok (.getfield 11, 3) := by decide +kernel
theorem dX1_copySowersFrom_11 : decode cX1_copySowersFrom 11 = .ok (.iload_n 2, 1) := by decide +kernel
theorem dX1_copySowersFrom_12 : decode cX1_copySowersFrom 12 = .ok (.aaload, 1) := by decide +kernel
theorem dX1_copySowersFrom_13 : decode cX1_copySowersFrom 13 = .ok (.aload_n 1, 1) := by decide +kernel
theorem dX1_copySowersFrom_14 : decode cX1_copySowersFrom 14 = .ok (.getfield 11, 3) := by decide +kernel
theorem dX1_copySowersFrom_17 : decode cX1_copySowersFrom 17 = .ok (.iload_n 2, 1) := by decide +kernel
theorem dX1_copySowersFrom_18 : decode cX1_copySowersFrom 18 = .ok (.aaload, 1) := by decide +kernel
theorem dX1_copySowersFrom_19 : decode cX1_copySowersFrom 19 = .ok (.invokevirtual 41, 3) := by decide +kernel
theorem dX1_copySowersFrom_22 : decode cX1_copySowersFrom 22 = .ok (.iinc 2 1, 3) := by decide +kernel
theorem dX1_copySowersFrom_25 : decode cX1_copySowersFrom 25 = .ok (.goto (-23), 3) := by decide +kernel
theorem dX1_copySowersFrom_28 : decode cX1_copySowersFrom 28 = .ok (.return_, 1) := by decide +kernel
theorem dX1_addPost_0 : decode cX1_addPost 0 = .ok (.aload_n 0, 1) := by decide +kernel
theorem dX1_addPost_1 : decode cX1_addPost 1 = .ok (.getfield 38, 3) := by decide +kernel
theorem dX1_addPost_4 : decode cX1_addPost 4 = .ok (.iconst 4, 1) := by decide +kernel
theorem dX1_addPost_5 : decode cX1_addPost 5 = .ok (.if_icmp .ge 23, 3) := by decide +kernel
theorem dX1_addPost_8 : decode cX1_addPost 8 = .ok (.aload_n 0, 1) := by decide +kernel
theorem dX1_addPost_9 : decode cX1_addPost 9 = .ok (.getfield 17, 3) := by decide +kernel
theorem dX1_addPost_12 : decode cX1_addPost 12 = .ok (.aload_n 0, 1) := by decide +kernel
theorem dX1_addPost_13 : decode cX1_addPost 13 = .ok (.getfield 38, 3) := by decide +kernel
theorem dX1_addPost_16 : decode cX1_addPost 16 = .ok (.iload_n 1, 1) := by decide +kernel
theorem dX1_addPost_17 : decode cX1_addPost 17 = .ok (.iastore, 1) := by decide +kernel
theorem dX1_addPost_18 : decode cX1_addPost 18 = .ok (.aload_n 0, 1) := by decide +kernel
theorem dX1_addPost_19 : decode cX1_addPost 19 = .ok (.dup, 1) := by decide +kernel
theorem dX1_addPost_20 : decode cX1_addPost 20 = .ok (.getfield 38, 3) := by decide +kernel
theorem dX1_addPost_23 : decode cX1_addPost 23 = .ok (.iconst 1, 1) := by decide +kernel
theorem dX1_addPost_24 : decode cX1_addPost 24 = .ok (.iadd, 1) := by decide +kernel
theorem dX1_addPost_25 : decode cX1_addPost 25 = .ok (.putfield 38, 3) := by decide +kernel
theorem dX1_addPost_28 : decode cX1_addPost 28 = .ok (.return_, 1) := by decide +kernel
theorem dX1_hasPost_0 : decode cX1_hasPost 0 = .ok (.iconst 0, 1) := by decide +kernel
theorem dX1_hasPost_1 : decode cX1_hasPost 1 = .ok (.istore_n 2, 1) := by decide +kernel
theorem dX1_hasPost_2 : decode cX1_hasPost 2 = .ok (.iload_n 2, 1) := by decide +kernel
theorem dX1_hasPost_3 : decode cX1_hasPost 3 = .ok (.aload_n 0, 1) := by decide +kernel
theorem dX1_hasPost_4 : decode cX1_hasPost 4 = .ok (.getfield 38, 3) := by decide +kernel
theorem dX1_hasPost_7 : decode cX1_hasPost 7 = .ok (.if_icmp .ge 21, 3) := by decide +kernel
theorem dX1_hasPost_10 : decode cX1_hasPost 10 = .ok (.aload_n 0, 1) := by decide +kernel
theorem dX1_hasPost_11 : decode cX1_hasPost 11 = .ok (.getfield 17, 3) := by decide +kernel
theorem dX1_hasPost_14 : decode cX1_hasPost 14 = .ok (.iload_n 2, 1) := by decide +kernel
theorem dX1_hasPost_15 : decode cX1_hasPost 15 = .ok (.iaload, 1) := by decide +kernel
theorem dX1_hasPost_16 : decode cX1_hasPost 16 = .ok (.iload_n 1, 1) := by decide +kernel
theorem dX1_hasPost_17 : decode cX1_hasPost 17 = .ok (.if_icmp .ne 5, 3) := by decide +kernel
theorem dX1_hasPost_20 : decode cX1_hasPost 20 = .ok (.iconst 1, 1) := by decide +kernel
theorem dX1_hasPost_21 : decode cX1_hasPost 21 = .ok (.ireturn, 1) := by decide +kernel
theorem dX1_hasPost_22 : decode cX1_hasPost 22 = .ok (.iinc 2 1, 3) := by decide +kernel
theorem dX1_hasPost_25 : decode cX1_hasPost 25 = .ok (.goto (-23), 3) := by decide +kernel
theorem dX1_hasPost_28 : decode cX1_hasPost 28 = .ok (.iconst 0, 1) := by decide +kernel
theorem dX1_hasPost_29 : decode cX1_hasPost 29 = .ok (.ireturn, 1) := by decide +kernel
theorem dX1_postAt_0 : decode cX1_postAt 0 = .ok (.iload_n 1, 1) := by decide +kernel
theorem dX1_postAt_1 : decode cX1_postAt 1 = .ok (.ifCond .lt 20, 3) := by decide +kernel
theorem dX1_postAt_4 : decode cX1_postAt 4 = .ok (.iload_n 1, 1) := by decide +kernel
theorem dX1_postAt_5 : decode cX1_postAt 5 = .ok (.aload_n 0, 1) := by decide +kernel
theorem dX1_postAt_6 : decode cX1_postAt 6 = .ok (.getfield 38, 3) := by decide +kernel
theorem dX1_postAt_9 : decode cX1_postAt 9 = .ok (.if_icmp .ge 12, 3) := by decide +kernel
theorem dX1_postAt_12 : decode cX1_postAt 12 = .ok (.aload_n 0, 1) := by decide +kernel
theorem dX1_postAt_13 : decode cX1_postAt 13 = .ok (.getfield 17, 3) := by decide +kernel
theorem dX1_postAt_16 : decode cX1_postAt 16 = .ok (.iload_n 1, 1) := by decide +kernel
theorem dX1_postAt_17 : decode cX1_postAt 17 = .ok (.iaload, 1) := by decide +kernel
theorem dX1_postAt_18 : decode cX1_postAt 18 = .ok (.goto 5, 3) := by decide +kernel
theorem dX1_postAt_21 : decode cX1_postAt 21 = .ok (.bipush (-6), 2) := by decide +kernel
theorem dX1_postAt_23 : decode cX1_postAt 23 = .ok (.ireturn, 1) := by decide +kernel
theorem dX1_grainsInBags_0 : decode cX1_grainsInBags 0 = .ok (.iconst 0, 1) := by decide +kernel
theorem dX1_grainsInBags_1 : decode cX1_grainsInBags 1 = .ok (.istore_n 1, 1) := by decide +kernel
theorem dX1_grainsInBags_2 : decode cX1_grainsInBags 2 = .ok (.iconst 0, 1) := by decide +kernel
theorem dX1_grainsInBags_3 : decode cX1_grainsInBags 3 = .ok (.istore_n 2, 1) := by decide +kernel
theorem dX1_grainsInBags_4 : decode cX1_grainsInBags 4 = .ok (.iload_n 2, 1) := by decide +kernel
theorem dX1_grainsInBags_5 : decode cX1_grainsInBags 5 = .ok (.iconst 4, 1) := by decide +kernel
theorem dX1_grainsInBags_6 : decode cX1_grainsInBags 6 = .ok (.if_icmp .ge 21, 3) := by decide +kernel
theorem dX1_grainsInBags_9 : decode cX1_grainsInBags 9 = .ok (.iload_n 1, 1) := by decide +kernel
theorem dX1_grainsInBags_10 : decode cX1_grainsInBags 10 = .ok (.aload_n 0, 1) := by decide +kernel
theorem dX1_grainsInBags_11 : decode cX1_grainsInBags 11 = .ok (.getfield 11, 3) := by decide +kernel
theorem dX1_grainsInBags_14 : decode cX1_grainsInBags 14 = .ok (.iload_n 2, 1) := by decide +kernel
theorem dX1_grainsInBags_15 : decode cX1_grainsInBags 15 = .ok (.aaload, 1) := by decide +kernel
theorem dX1_grainsInBags_16 : decode cX1_grainsInBags 16 = .ok (.getfield 45, 3) := by decide +kernel
theorem dX1_grainsInBags_19 : decode cX1_grainsInBags 19 = .ok (.iadd, 1) := by decide +kernel
theorem dX1_grainsInBags_20 : decode cX1_grainsInBags 20 = .ok (.istore_n 1, 1) := by decide +kernel
theorem dX1_grainsInBags_21 : decode cX1_grainsInBags 21 = .ok (.iinc 2 1, 3) := by decide +kernel
theorem dX1_grainsInBags_24 : decode cX1_grainsInBags 24 = .ok (.goto (-20), 3) := by decide +kernel
theorem dX1_grainsInBags_27 : decode cX1_grainsInBags 27 = .ok (.iload_n 1, 1) := by decide +kernel
theorem dX1_grainsInBags_28 : decode cX1_grainsInBags 28 = .ok (.ireturn, 1) := by decide +kernel
theorem dX1_exchangeBags_0 : decode cX1_exchangeBags 0 = .ok (.aload_n 0, 1) := by decide +kernel
theorem dX1_exchangeBags_1 : decode cX1_exchangeBags 1 = .ok (.getfield 11, 3) := by decide +kernel
theorem dX1_exchangeBags_4 : decode cX1_exchangeBags 4 = .ok (.iload_n 1, 1) := by decide +kernel
theorem dX1_exchangeBags_5 : decode cX1_exchangeBags 5 = .ok (.aaload, 1) := by decide +kernel
theorem dX1_exchangeBags_6 : decode cX1_exchangeBags 6 = .ok (.astore_n 3, 1) := by decide +kernel
theorem dX1_exchangeBags_7 : decode cX1_exchangeBags 7 = .ok (.aload_n 0, 1) := by decide +kernel
theorem dX1_exchangeBags_8 : decode cX1_exchangeBags 8 = .ok (.getfield 11, 3) := by decide +kernel
theorem dX1_exchangeBags_11 : decode cX1_exchangeBags 11 = .ok (.iload_n 2, 1) := by decide +kernel
theorem dX1_exchangeBags_12 : decode cX1_exchangeBags 12 = .ok (.aaload, 1) := by decide +kernel
theorem dX1_exchangeBags_13 : decode cX1_exchangeBags 13 = .ok (.astore 4, 2) := by decide +kernel
theorem dX1_exchangeBags_15 : decode cX1_exchangeBags 15 = .ok (.aload_n 3, 1) := by decide +kernel
theorem dX1_exchangeBags_16 : decode cX1_exchangeBags 16 = .ok (.getfield 48, 3) := by decide +kernel
theorem dX1_exchangeBags_19 : decode cX1_exchangeBags 19 = .ok (.istore 5, 2) := by decide +kernel
theorem dX1_exchangeBags_21 : decode cX1_exchangeBags 21 = .ok (.aload_n 3, 1) := by decide +kernel
theorem dX1_exchangeBags_22 : decode cX1_exchangeBags 22 = .ok (.getfield 45, 3) := by decide +kernel
theorem dX1_exchangeBags_25 : decode cX1_exchangeBags 25 = .ok (.istore 6, 2) := by decide +kernel
theorem dX1_exchangeBags_27 : decode cX1_exchangeBags 27 = .ok (.aload_n 3, 1) := by decide +kernel
theorem dX1_exchangeBags_28 : decode cX1_exchangeBags 28 = .ok (.aload 4, 2) := by decide +kernel
theorem dX1_exchangeBags_30 : decode cX1_exchangeBags 30 = .ok (.getfield 48, 3) := by decide +kernel
theorem dX1_exchangeBags_33 : decode cX1_exchangeBags 33 = .ok (.putfield 48, 3) := by decide +kernel
theorem dX1_exchangeBags_36 : decode cX1_exchangeBags 36 = .ok (.aload_n 3, 1) := by decide +kernel
theorem dX1_exchangeBags_37 : decode cX1_exchangeBags 37 = .ok (.aload 4, 2) := by decide +kernel
theorem dX1_exchangeBags_39 : decode cX1_exchangeBags 39 = .ok (.getfield 45, 3) := by decide +kernel
theorem dX1_exchangeBags_42 : decode cX1_exchangeBags 42 = .ok (.putfield 45, 3) := by decide +kernel
theorem dX1_exchangeBags_45 : decode cX1_exchangeBags 45 = .ok (.aload 4, 2) := by decide +kernel
theorem dX1_exchangeBags_47 : decode cX1_exchangeBags 47 = .ok (.iload 5, 2) := by decide +kernel
theorem dX1_exchangeBags_49 : decode cX1_exchangeBags 49 = .ok (.putfield 48, 3) := by decide +kernel
theorem dX1_exchangeBags_52 : decode cX1_exchangeBags 52 = .ok (.aload 4, 2) := by decide +kernel
theorem dX1_exchangeBags_54 : decode cX1_exchangeBags 54 = .ok (.iload 6, 2) := by decide +kernel
theorem dX1_exchangeBags_56 : decode cX1_exchangeBags 56 = .ok (.putfield 45, 3) := by decide +kernel
theorem dX1_exchangeBags_59 : decode cX1_exchangeBags 59 = .ok (.return_, 1) := by decide +kernel
theorem dX1_listener_0 : decode cX1_listener 0 = .ok (.iconst 0, 1) := by decide +kernel
theorem dX1_listener_1 : decode cX1_listener 1 = .ok (.istore_n 2, 1) := by decide +kernel
theorem dX1_listener_2 : decode cX1_listener 2 = .ok (.iload_n 2, 1) := by decide +kernel
theorem dX1_listener_3 : decode cX1_listener 3 = .ok (.iconst 4, 1) := by decide +kernel
theorem dX1_listener_4 : decode cX1_listener 4 = .ok (.if_icmp .ge 24, 3) := by decide +kernel
theorem dX1_listener_7 : decode cX1_listener 7 = .ok (.aload_n 0, 1) := by decide +kernel
theorem dX1_listener_8 : decode cX1_listener 8 = .ok (.getfield 11, 3) := by decide +kernel
theorem dX1_listener_11 : decode cX1_listener 11 = .ok (.iload_n 2, 1) := by decide +kernel
theorem dX1_listener_12 : decode cX1_listener 12 = .ok (.aaload, 1) := by decide +kernel
theorem dX1_listener_13 : decode cX1_listener 13 = .ok (.iload_n 1, 1) := by decide +kernel
theorem dX1_listener_14 : decode cX1_listener 14 = .ok (.invokevirtual 51, 3) := by decide +kernel
theorem dX1_listener_17 : decode cX1_listener 17 = .ok (.ifCond .eq 5, 3) := by decide +kernel
theorem dX1_listener_20 : decode cX1_listener 20 = .ok (.iload_n 2, 1) := by decide +kernel
theorem dX1_listener_21 : decode cX1_listener 21 = .ok (.ireturn, 1) := by decide +kernel
theorem dX1_listener_22 : decode cX1_listener 22 = .ok (.iinc 2 1, 3) := by decide +kernel
theorem dX1_listener_25 : decode cX1_listener 25 = .ok (.goto (-23), 3) := by decide +kernel
theorem dX1_listener_28 : decode cX1_listener 28 = .ok (.bipush (-6), 2) := by decide +kernel
theorem dX1_listener_30 : decode cX1_listener 30 = .ok (.ireturn, 1) := by decide +kernel
theorem dX1_goThrough_0 : decode cX1_goThrough 0 = .ok (.iconst 0, 1) := by decide +kernel
theorem dX1_goThrough_1 : decode cX1_goThrough 1 = .ok (.istore_n 3, 1) := by decide +kernel
theorem dX1_goThrough_2 : decode cX1_goThrough 2 = .ok (.aload_n 0, 1) := by decide +kernel
theorem dX1_goThrough_3 : decode cX1_goThrough 3 = .ok (.bipush (-6), 2) := by decide +kernel
theorem dX1_goThrough_5 : decode cX1_goThrough 5 = .ok (.putfield 21, 3) := by decide +kernel
theorem dX1_goThrough_8 : decode cX1_goThrough 8 = .ok (.iconst 0, 1) := by decide +kernel
theorem dX1_goThrough_9 : decode cX1_goThrough 9 = .ok (.istore 4, 2) := by decide +kernel
theorem dX1_goThrough_11 : decode cX1_goThrough 11 = .ok (.iload 4, 2) := by decide +kernel
theorem dX1_goThrough_13 : decode cX1_goThrough 13 = .ok (.aload_n 1, 1) := by decide +kernel
theorem dX1_goThrough_14 : decode cX1_goThrough 14 = .ok (.getfield 55, 3) := by decide +kernel
theorem dX1_goThrough_17 : decode cX1_goThrough 17 = .ok (.if_icmp .ge 29, 3) := by decide +kernel
theorem dX1_goThrough_20 : decode cX1_goThrough 20 = .ok (.aload_n 1, 1) := by decide +kernel
theorem dX1_goThrough_21 : decode cX1_goThrough 21 = .ok (.iload 4, 2) := by decide +kernel
theorem dX1_goThrough_23 : decode cX1_goThrough 23 = .ok (.invokevirtual 60, 3) := by decide +kernel
theorem dX1_goThrough_26 : decode cX1_goThrough 26 = .ok (.ifCond .eq 14, 3) := by decide +kernel
theorem dX1_goThrough_29 : decode cX1_goThrough 29 = .ok (.aload_n 0, 1) := by decide +kernel
theorem dX1_goThrough_30 : decode cX1_goThrough 30 = .ok (.aload_n 1, 1) := by decide +kernel
theorem dX1_goThrough_31 : decode cX1_goThrough 31 = .ok (.iload 4, 2) := by decide +kernel
theorem dX1_goThrough_33 : decode cX1_goThrough 33 = .ok (.aload_n 2, 1) := by decide +kernel
theorem dX1_goThrough_34 : decode cX1_goThrough 34 = .ok (.invokevirtual 63, 3) := by decide +kernel
theorem dX1_goThrough_37 : decode cX1_goThrough 37 = .ok (.iinc 3 1, 3) := by decide +kernel
theorem dX1_goThrough_40 : decode cX1_goThrough 40 = .ok (.iinc 4 1, 3) := by decide +kernel
theorem dX1_goThrough_43 : decode cX1_goThrough 43 = .ok (.goto (-32), 3) := by decide +kernel
theorem dX1_goThrough_46 : decode cX1_goThrough 46 = .ok (.iload_n 3, 1) := by decide +kernel
theorem dX1_goThrough_47 : decode cX1_goThrough 47 = .ok (.ireturn, 1) := by decide +kernel
theorem dX1_goPart_0 : decode cX1_goPart 0 = .ok (.aload_n 1, 1) := by decide +kernel
theorem dX1_goPart_1 : decode cX1_goPart 1 = .ok (.iload_n 2, 1) := by decide +kernel
theorem dX1_goPart_2 : decode cX1_goPart 2 = .ok (.invokevirtual 67, 3) := by decide +kernel
theorem dX1_goPart_5 : decode cX1_goPart 5 = .ok (.istore 4, 2) := by decide +kernel
theorem dX1_goPart_7 : decode cX1_goPart 7 = .ok (.iload 4, 2) := by decide +kernel
theorem dX1_goPart_9 : decode cX1_goPart 9 = .ok (.invokestatic 71, 3) := by decide +kernel
theorem dX1_goPart_12 : decode cX1_goPart 12 = .ok (.ifCond .eq 13, 3) := by decide +kernel
theorem dX1_goPart_15 : decode cX1_goPart 15 = .ok (.aload_n 0, 1) := by decide +kernel
theorem dX1_goPart_16 : decode cX1_goPart 16 = .ok (.iload 4, 2) := by decide +kernel
theorem dX1_goPart_18 : decode cX1_goPart 18 = .ok (.bipush 65, 2) := by decide +kernel
theorem dX1_goPart_20 : decode cX1_goPart 20 = .ok (.isub, 1) := by decide +kernel
theorem dX1_goPart_21 : decode cX1_goPart 21 = .ok (.putfield 21, 3) := by decide +kernel
theorem dX1_goPart_24 : decode cX1_goPart 24 = .ok (.return_, 1) := by decide +kernel
theorem dX1_goPart_25 : decode cX1_goPart 25 = .ok (.aload_n 0, 1) := by decide +kernel
theorem dX1_goPart_26 : decode cX1_goPart 26 = .ok (.getfield 21, 3) := by decide +kernel
theorem dX1_goPart_29 : decode cX1_goPart 29 = .ok (.invokestatic 74, 3) := by decide +kernel
theorem dX1_goPart_32 : decode cX1_goPart 32 = .ok (.ifCond .ne 4, 3) := by decide +kernel
theorem dX1_goPart_35 : decode cX1_goPart 35 = .ok (.return_, 1) := by decide +kernel
theorem dX1_goPart_36 : decode cX1_goPart 36 = .ok (.aload_n 0, 1) := by decide +kernel
theorem dX1_goPart_37 : decode cX1_goPart 37 = .ok (.getfield 11, 3) := by decide +kernel
theorem dX1_goPart_40 : decode cX1_goPart 40 = .ok (.aload_n 0, 1) := by decide +kernel
theorem dX1_goPart_41 : decode cX1_goPart 41 = .ok (.getfield 21, 3) := by decide +kernel
theorem dX1_goPart_44 : decode cX1_goPart 44 = .ok (.aaload, 1) := by decide +kernel
theorem dX1_goPart_45 : decode cX1_goPart 45 = .ok (.astore 5, 2) := by decide +kernel
theorem dX1_goPart_47 : decode cX1_goPart 47 = .ok (.iload 4, 2) := by decide +kernel
theorem dX1_goPart_49 : decode cX1_goPart 49 = .ok (.lookupswitch 116 #[(98, 107), (102, 51), (108, 98), (114, 89), (119, 70)], 51) := by decide +kernel
theorem dX1_goPart_100 : decode cX1_goPart 100 = .ok (.aload 5, 2) := by decide +kernel
theorem dX1_goPart_102 : decode cX1_goPart 102 = .ok (.aload_n 1, 1) := by decide +kernel
theorem dX1_goPart_103 : decode cX1_goPart 103 = .ok (.iload_n 2, 1) := by decide +kernel
theorem dX1_goPart_104 : decode cX1_goPart 104 = .ok (.iconst 1, 1) := by decide +kernel
theorem dX1_goPart_105 : decode cX1_goPart 105 = .ok (.iadd, 1) := by decide +kernel
theorem dX1_goPart_106 : decode cX1_goPart 106 = .ok (.invokevirtual 67, 3) := by decide +kernel
theorem dX1_goPart_109 : decode cX1_goPart 109 = .ok (.bipush 48, 2) := by decide +kernel
theorem dX1_goPart_111 : decode cX1_goPart 111 = .ok (.isub, 1) := by decide +kernel
theorem dX1_goPart_112 : decode cX1_goPart 112 = .ok (.aload_n 3, 1) := by decide +kernel
theorem dX1_goPart_113 : decode cX1_goPart 113 = .ok (.invokevirtual 77, 3) := by decide +kernel
theorem dX1_goPart_116 : decode cX1_goPart 116 = .ok (.goto 49, 3) := by decide +kernel
theorem dX1_goPart_119 : decode cX1_goPart 119 = .ok (.aload 5, 2) := by decide +kernel
theorem dX1_goPart_121 : decode cX1_goPart 121 = .ok (.aload_n 1, 1) := by decide +kernel
theorem dX1_goPart_122 : decode cX1_goPart 122 = .ok (.iload_n 2, 1) := by decide +kernel
theorem dX1_goPart_123 : decode cX1_goPart 123 = .ok (.iconst 1, 1) := by decide +kernel
theorem dX1_goPart_124 : decode cX1_goPart 124 = .ok (.iadd, 1) := by decide +kernel
theorem dX1_goPart_125 : decode cX1_goPart 125 = .ok (.invokevirtual 67, 3) := by decide +kernel
theorem dX1_goPart_128 : decode cX1_goPart 128 = .ok (.bipush 48, 2) := by decide +kernel
theorem dX1_goPart_130 : decode cX1_goPart 130 = .ok (.isub, 1) := by decide +kernel
theorem dX1_goPart_131 : decode cX1_goPart 131 = .ok (.aconst_null, 1) := by decide +kernel
theorem dX1_goPart_132 : decode cX1_goPart 132 = .ok (.invokevirtual 77, 3) := by decide +kernel
theorem dX1_goPart_135 : decode cX1_goPart 135 = .ok (.goto 30, 3) := by decide +kernel
theorem dX1_goPart_138 : decode cX1_goPart 138 = .ok (.aload 5, 2) := by decide +kernel
theorem dX1_goPart_140 : decode cX1_goPart 140 = .ok (.iconst 1, 1) := by decide +kernel
theorem dX1_goPart_141 : decode cX1_goPart 141 = .ok (.invokevirtual 81, 3) := by decide +kernel
theorem dX1_goPart_144 : decode cX1_goPart 144 = .ok (.goto 21, 3) := by decide +kernel
theorem dX1_goPart_147 : decode cX1_goPart 147 = .ok (.aload 5, 2) := by decide +kernel
theorem dX1_goPart_149 : decode cX1_goPart 149 = .ok (.iconst (-1), 1) := by decide +kernel
theorem dX1_goPart_150 : decode cX1_goPart 150 = .ok (.invokevirtual 81, 3) := by decide +kernel
theorem dX1_goPart_153 : decode cX1_goPart 153 = .ok (.goto 12, 3) := by decide +kernel
theorem dX1_goPart_156 : decode cX1_goPart 156 = .ok (.aload_n 0, 1) := by decide +kernel
theorem dX1_goPart_157 : decode cX1_goPart 157 = .ok (.aload 5, 2) := by decide +kernel
theorem dX1_goPart_159 : decode cX1_goPart 159 = .ok (.invokevirtual 84, 3) := by decide +kernel
theorem dX1_goPart_162 : decode cX1_goPart 162 = .ok (.goto 3, 3) := by decide +kernel
theorem dX1_goPart_165 : decode cX1_goPart 165 = .ok (.return_, 1) := by decide +kernel
theorem dX1_turnToBell_0 : decode cX1_turnToBell 0 = .ok (.bipush (-6), 2) := by decide +kernel
theorem dX1_turnToBell_2 : decode cX1_turnToBell 2 = .ok (.istore_n 2, 1) := by decide +kernel
theorem dX1_turnToBell_3 : decode cX1_turnToBell 3 = .ok (.bipush 8, 2) := by decide +kernel
theorem dX1_turnToBell_5 : decode cX1_turnToBell 5 = .ok (.istore_n 3, 1) := by decide +kernel
theorem dX1_turnToBell_6 : decode cX1_turnToBell 6 = .ok (.iconst 0, 1) := by decide +kernel
theorem dX1_turnToBell_7 : decode cX1_turnToBell 7 = .ok (.istore 4, 2) := by decide +kernel
theorem dX1_turnToBell_9 : decode cX1_turnToBell 9 = .ok (.iload 4, 2) := by decide +kernel
theorem dX1_turnToBell_11 : decode cX1_turnToBell 11 = .ok (.aload_n 0, 1) := by decide +kernel
theorem dX1_turnToBell_12 : decode cX1_turnToBell 12 = .ok (.getfield 38, 3) := by decide +kernel
theorem dX1_turnToBell_15 : decode cX1_turnToBell 15 = .ok (.if_icmp .ge 80, 3) := by decide +kernel
theorem dX1_turnToBell_18 : decode cX1_turnToBell 18 = .ok (.aload_n 1, 1) := by decide +kernel
theorem dX1_turnToBell_19 : decode cX1_turnToBell 19 = .ok (.getfield 87, 3) := by decide +kernel
theorem dX1_turnToBell_22 : decode cX1_turnToBell 22 = .ok (.aload_n 0, 1) := by decide +kernel
theorem dX1_turnToBell_23 : decode cX1_turnToBell 23 = .ok (.getfield 17, 3) := by decide +kernel
theorem dX1_turnToBell_26 : decode cX1_turnToBell 26 = .ok (.iload 4, 2) := by decide +kernel
theorem dX1_turnToBell_28 : decode cX1_turnToBell 28 = .ok (.iaload, 1) := by decide +kernel
theorem dX1_turnToBell_29 : decode cX1_turnToBell 29 = .ok (.invokestatic 90, 3) := by decide +kernel
theorem dX1_turnToBell_32 : decode cX1_turnToBell 32 = .ok (.istore 5, 2) := by decide +kernel
theorem dX1_turnToBell_34 : decode cX1_turnToBell 34 = .ok (.iload 5, 2) := by decide +kernel
theorem dX1_turnToBell_36 : decode cX1_turnToBell 36 = .ok (.iload_n 3, 1) := by decide +kernel
theorem dX1_turnToBell_37 : decode cX1_turnToBell 37 = .ok (.if_icmp .lt 20, 3) := by decide +kernel
theorem dX1_turnToBell_40 : decode cX1_turnToBell 40 = .ok (.iload 5, 2) := by decide +kernel
theorem dX1_turnToBell_42 : decode cX1_turnToBell 42 = .ok (.iload_n 3, 1) := by decide +kernel
theorem dX1_turnToBell_43 : decode cX1_turnToBell 43 = .ok (.if_icmp .ne 18, 3) := by decide +kernel
theorem dX1_turnToBell_46 : decode cX1_turnToBell 46 = .ok (.aload_n 0, 1) := by decide +kernel
theorem dX1_turnToBell_47 : decode cX1_turnToBell 47 = .ok (.getfield 17, 3) := by decide +kernel
theorem dX1_turnToBell_50 : decode cX1_turnToBell 50 = .ok (.iload 4, 2) := by decide +kernel
theorem dX1_turnToBell_52 : decode cX1_turnToBell 52 = .ok (.iaload, 1) := by decide +kernel
theorem dX1_turnToBell_53 : decode cX1_turnToBell 53 = .ok (.iload_n 2, 1) := by decide +kernel
theorem dX1_turnToBell_54 : decode cX1_turnToBell 54 = .ok (.if_icmp .ge 7, 3) := by decide +kernel
theorem dX1_turnToBell_57 : decode cX1_turnToBell 57 = .ok (.iconst 1, 1) := by decide +kernel
theorem dX1_turnToBell_58 : decode cX1_turnToBell 58 = .ok (.goto 4, 3) := by decide +kernel
theorem dX1_turnToBell_61 : decode cX1_turnToBell 61 = .ok (.iconst 0, 1) := by decide +kernel
theorem dX1_turnToBell_62 : decode cX1_turnToBell 62 = .ok (.istore 6, 2) := by decide +kernel
theorem dX1_turnToBell_64 : decode cX1_turnToBell 64 = .ok (.iload 6, 2) := by decide +kernel
theorem dX1_turnToBell_66 : decode cX1_turnToBell 66 = .ok (.ifCond .eq 23, 3) := by decide +kernel
theorem dX1_turnToBell_69 : decode cX1_turnToBell 69 = .ok (.iload 5, 2) := by decide +kernel
theorem dX1_turnToBell_71 : decode cX1_turnToBell 71 = .ok (.aload_n 1, 1) := by decide +kernel
theorem dX1_turnToBell_72 : decode cX1_turnToBell 72 = .ok (.getfield 94, 3) := by decide +kernel
theorem dX1_turnToBell_75 : decode cX1_turnToBell 75 = .ok (.if_icmp .gt 14, 3) := by decide +kernel
theorem dX1_turnToBell_78 : decode cX1_turnToBell 78 = .ok (.aload_n 0, 1) := by decide +kernel
theorem dX1_turnToBell_79 : decode cX1_turnToBell 79 = .ok (.getfield 17, 3) := by decide +kernel
theorem dX1_turnToBell_82 : decode cX1_turnToBell 82 = .ok (.iload 4, 2) := by decide +kernel
theorem dX1_turnToBell_84 : decode cX1_turnToBell 84 = .ok (.iaload, 1) := by decide +kernel
theorem dX1_turnToBell_85 : decode cX1_turnToBell 85 = .ok (.istore_n 2, 1) := by decide +kernel
theorem dX1_turnToBell_86 : decode cX1_turnToBell 86 = .ok (.iload 5, 2) := by decide +kernel
theorem dX1_turnToBell_88 : decode cX1_turnToBell 88 = .ok (.istore_n 3, 1) := by decide +kernel
theorem dX1_turnToBell_89 : decode cX1_turnToBell 89 = .ok (.iinc 4 1, 3) := by decide +kernel
theorem dX1_turnToBell_92 : decode cX1_turnToBell 92 = .ok (.goto (-83), 3) := by decide +kernel
theorem dX1_turnToBell_95 : decode cX1_turnToBell 95 = .ok (.iload_n 2, 1) := by decide +kernel
theorem dX1_turnToBell_96 : decode cX1_turnToBell 96 = .ok (.bipush (-6), 2) := by decide +kernel
theorem dX1_turnToBell_98 : decode cX1_turnToBell 98 = .ok (.if_icmp .eq 8, 3) := by decide +kernel
theorem dX1_turnToBell_101 : decode cX1_turnToBell 101 = .ok (.aload_n 1, 1) := by decide +kernel
theorem dX1_turnToBell_102 : decode cX1_turnToBell 102 = .ok (.iload_n 2, 1) := by decide +kernel
theorem dX1_turnToBell_103 : decode cX1_turnToBell 103 = .ok (.invokevirtual 97, 3) := by decide +kernel
theorem dX1_turnToBell_106 : decode cX1_turnToBell 106 = .ok (.return_, 1) := by decide +kernel
theorem dX2_init_0 : decode cX2_init 0 = .ok (.aload_n 0, 1) := by decide +kernel
theorem dX2_init_1 : decode cX2_init 1 = .ok (.invokespecial 3, 3) := by decide +kernel
theorem dX2_init_4 : decode cX2_init 4 = .ok (.aload_n 0, 1) := by decide +kernel
theorem dX2_init_5 : decode cX2_init 5 = .ok (.sipush 256, 3) := by decide +kernel
theorem dX2_init_8 : decode cX2_init 8 = .ok (.newarray .int, 2) := by decide +kernel
theorem dX2_init_10 : decode cX2_init 10 = .ok (.putfield 9, 3) := by decide +kernel
theorem dX2_init_13 : decode cX2_init 13 = .ok (.aload_n 0, 1) := by decide +kernel
theorem dX2_init_14 : decode cX2_init 14 = .ok (.bipush 64, 2) := by decide +kernel
theorem dX2_init_16 : decode cX2_init 16 = .ok (.newarray .int, 2) := by decide +kernel
theorem dX2_init_18 : decode cX2_init 18 = .ok (.putfield 15, 3) := by decide +kernel
theorem dX2_init_21 : decode cX2_init 21 = .ok (.iconst 0, 1) := by decide +kernel
theorem dX2_init_22 : decode cX2_init 22 = .ok (.istore_n 1, 1) := by decide +kernel
theorem dX2_init_23 : decode cX2_init 23 = .ok (.iload_n 1, 1) := by decide +kernel
theorem dX2_init_24 : decode cX2_init 24 = .ok (.bipush 64, 2) := by decide +kernel
theorem dX2_init_26 : decode cX2_init 26 = .ok (.if_icmp .ge 17, 3) := by decide +kernel
theorem dX2_init_29 : decode cX2_init 29 = .ok (.aload_n 0, 1) := by decide +kernel
theorem dX2_init_30 : decode cX2_init 30 = .ok (.getfield 15, 3) := by decide +kernel
theorem dX2_init_33 : decode cX2_init 33 = .ok (.iload_n 1, 1) := by decide +kernel
theorem dX2_init_34 : decode cX2_init 34 = .ok (.bipush (-6), 2) := by decide +kernel
theorem dX2_init_36 : decode cX2_init 36 = .ok (.iastore, 1) := by decide +kernel
theorem dX2_init_37 : decode cX2_init 37 = .ok (.iinc 1 1, 3) := by decide +kernel
theorem dX2_init_40 : decode cX2_init 40 = .ok (.goto (-17), 3) := by decide +kernel
theorem dX2_init_43 : decode cX2_init 43 = .ok (.return_, 1) := by decide +kernel
theorem dX2_copyFrom_0 : decode cX2_copyFrom 0 = .ok (.aload_n 1, 1) := by decide +kernel
theorem dX2_copyFrom_1 : decode cX2_copyFrom 1 = .ok (.getfield 9, 3) := by decide +kernel
theorem dX2_copyFrom_4 : decode cX2_copyFrom 4 = .ok (.iconst 0, 1) := by decide +kernel
theorem dX2_copyFrom_5 : decode cX2_copyFrom 5 = .ok (.aload_n 0, 1) := by decide +kernel
theorem dX2_copyFrom_6 : decode cX2_copyFrom 6 = .ok (.getfield 9, 3) := by decide +kernel
theorem dX2_copyFrom_9 : decode cX2_copyFrom 9 = .ok (.iconst 0, 1) := by decide +kernel
theorem dX2_copyFrom_10 : decode cX2_copyFrom 10 = .ok (.sipush 256, 3) := by decide +kernel
theorem dX2_copyFrom_13 : decode cX2_copyFrom 13 = .ok (.invokestatic 18, 3) := by decide +kernel
theorem dX2_copyFrom_16 : decode cX2_copyFrom 16 = .ok (.aload_n 1, 1) := by decide +kernel
theorem dX2_copyFrom_17 : decode cX2_copyFrom 17 = .ok (.getfield 15, 3) := by decide +kernel
theorem dX2_copyFrom_20 : decode cX2_copyFrom 20 = .ok (.iconst 0, 1) := by decide +kernel
theorem dX2_copyFrom_21 : decode cX2_copyFrom 21 = .ok (.aload_n 0, 1) := by decide +kernel
theorem dX2_copyFrom_22 : decode cX2_copyFrom 22 = .ok (.getfield 15, 3) := by decide +kernel
theorem dX2_copyFrom_25 : decode cX2_copyFrom 25 = .ok (.iconst 0, 1) := by decide +kernel
theorem dX2_copyFrom_26 : decode cX2_copyFrom 26 = .ok (.bipush 64, 2) := by decide +kernel
theorem dX2_copyFrom_28 : decode cX2_copyFrom 28 = .ok (.invokestatic 18, 3) := by decide +kernel
theorem dX2_copyFrom_31 : decode cX2_copyFrom 31 = .ok (.return_, 1) := by decide +kernel
theorem dX2_take_0 : decode cX2_take 0 = .ok (.iload_n 1, 1) := by decide +kernel
theorem dX2_take_1 : decode cX2_take 1 = .ok (.iconst 4, 1) := by decide +kernel
theorem dX2_take_2 : decode cX2_take 2 = .ok (.imul, 1) := by decide +kernel
theorem dX2_take_3 : decode cX2_take 3 = .ok (.iload_n 2, 1) := by decide +kernel
theorem dX2_take_4 : decode cX2_take 4 = .ok (.iadd, 1) := by decide +kernel
theorem dX2_take_5 : decode cX2_take 5 = .ok (.istore_n 3, 1) := by decide +kernel
theorem dX2_take_6 : decode cX2_take 6 = .ok (.iload_n 3, 1) := by decide +kernel
theorem dX2_take_7 : decode cX2_take 7 = .ok (.ifCond .lt 20, 3) := by decide +kernel
theorem dX2_take_10 : decode cX2_take 10 = .ok (.iload_n 3, 1) := by decide +kernel
theorem dX2_take_11 : decode cX2_take 11 = .ok (.sipush 256, 3) := by decide +kernel
theorem dX2_take_14 : decode cX2_take 14 = .ok (.if_icmp .ge 13, 3) := by decide +kernel
theorem dX2_take_17 : decode cX2_take 17 = .ok (.aload_n 0, 1) := by decide +kernel
theorem dX2_take_18 : decode cX2_take 18 = .ok (.getfield 9, 3) := by decide +kernel
theorem dX2_take_21 : decode cX2_take 21 = .ok (.iload_n 3, 1) := by decide +kernel
theorem dX2_take_22 : decode cX2_take 22 = .ok (.dup2, 1) := by decide +kernel
theorem dX2_take_23 : decode cX2_take 23 = .ok (.iaload, 1) := by decide +kernel
theorem dX2_take_24 : decode cX2_take 24 = .ok (.iconst 1, 1) := by decide +kernel
theorem dX2_take_25 : decode cX2_take 25 = .ok (.iadd, 1) := by decide +kernel
theorem dX2_take_26 : decode cX2_take 26 = .ok (.iastore, 1) := by decide +kernel
theorem dX2_take_27 : decode cX2_take 27 = .ok (.return_, 1) := by decide +kernel
theorem dX2_grainsIn_0 : decode cX2_grainsIn 0 = .ok (.iload_n 2, 1) := by decide +kernel
theorem dX2_grainsIn_1 : decode cX2_grainsIn 1 = .ok (.iconst (-1), 1) := by decide +kernel
theorem dX2_grainsIn_2 : decode cX2_grainsIn 2 = .ok (.if_icmp .eq 14, 3) := by decide +kernel
theorem dX2_grainsIn_5 : decode cX2_grainsIn 5 = .ok (.aload_n 0, 1) := by decide +kernel
theorem dX2_grainsIn_6 : decode cX2_grainsIn 6 = .ok (.getfield 9, 3) := by decide +kernel
theorem dX2_grainsIn_9 : decode cX2_grainsIn 9 = .ok (.iload_n 1, 1) := by decide +kernel
theorem dX2_grainsIn_10 : decode cX2_grainsIn 10 = .ok (.iconst 4, 1) := by decide +kernel
theorem dX2_grainsIn_11 : decode cX2_grainsIn 11 = .ok (.imul, 1) := by decide +kernel
theorem dX2_grainsIn_12 : decode cX2_grainsIn 12 = .ok (.iload_n 2, 1) := by decide +kernel
theorem dX2_grainsIn_13 : decode cX2_grainsIn 13 = .ok (.iadd, 1) := by decide +kernel
theorem dX2_grainsIn_14 : decode cX2_grainsIn 14 = .ok (.iaload, 1) := by decide +kernel
theorem dX2_grainsIn_15 : decode cX2_grainsIn 15 = .ok (.ireturn, 1) := by decide +kernel
theorem dX2_grainsIn_16 : decode cX2_grainsIn 16 = .ok (.iconst 0, 1) := by decide +kernel
theorem dX2_grainsIn_17 : decode cX2_grainsIn 17 = .ok (.istore_n 3, 1) := by decide +kernel
theorem dX2_grainsIn_18 : decode cX2_grainsIn 18 = .ok (.iconst 0, 1) := by decide +kernel
theorem dX2_grainsIn_19 : decode cX2_grainsIn 19 = .ok (.istore 4, 2) := by decide +kernel
theorem dX2_grainsIn_21 : decode cX2_grainsIn 21 = .ok (.iload 4, 2) := by decide +kernel
theorem dX2_grainsIn_23 : decode cX2_grainsIn 23 = .ok (.iconst 4, 1) := by decide +kernel
theorem dX2_grainsIn_24 : decode cX2_grainsIn 24 = .ok (.if_icmp .ge 23, 3) := by decide +kernel
theorem dX2_grainsIn_27 : decode cX2_grainsIn 27 = .ok (.iload_n 3, 1) := by decide +kernel
theorem dX2_grainsIn_28 : decode cX2_grainsIn 28 = .ok (.aload_n 0, 1) := by decide +kernel
theorem dX2_grainsIn_29 : decode cX2_grainsIn 29 = .ok (.getfield 9, 3) := by decide +kernel
theorem dX2_grainsIn_32 : decode cX2_grainsIn 32 = .ok (.iload_n 1, 1) := by decide +kernel
theorem dX2_grainsIn_33 : decode cX2_grainsIn 33 = .ok (.iconst 4, 1) := by decide +kernel
theorem dX2_grainsIn_34 : decode cX2_grainsIn 34 = .ok (.imul, 1) := by decide +kernel
theorem dX2_grainsIn_35 : decode cX2_grainsIn 35 = .ok (.iload 4, 2) := by decide +kernel
theorem dX2_grainsIn_37 : decode cX2_grainsIn 37 = .ok (.iadd, 1) := by decide +kernel
theorem dX2_grainsIn_38 : decode cX2_grainsIn 38 = .ok (.iaload, 1) := by decide +kernel
theorem dX2_grainsIn_39 : decode cX2_grainsIn 39 = .ok (.iadd, 1) := by decide +kernel
theorem dX2_grainsIn_40 : decode cX2_grainsIn 40 = .ok (.istore_n 3, 1) := by decide +kernel
theorem dX2_grainsIn_41 : decode cX2_grainsIn 41 = .ok (.iinc 4 1, 3) := by decide +kernel
theorem dX2_grainsIn_44 : decode cX2_grainsIn 44 = .ok (.goto (-23), 3) := by decide +kernel
theorem dX2_grainsIn_47 : decode cX2_grainsIn 47 = .ok (.iload_n 3, 1) := by decide +kernel
theorem dX2_grainsIn_48 : decode cX2_grainsIn 48 = .ok (.ireturn, 1) := by decide +kernel
theorem dX2_allGrains_0 : decode cX2_allGrains 0 = .ok (.aload_n 0, 1) := by decide +kernel
theorem dX2_allGrains_1 : decode cX2_allGrains 1 = .ok (.iconst (-1), 1) := by decide +kernel
theorem dX2_allGrains_2 : decode cX2_allGrains 2 = .ok (.iconst (-1), 1) := by decide +kernel
theorem dX2_allGrains_3 : decode cX2_allGrains 3 = .ok (.invokevirtual 24, 3) := by decide +kernel
theorem dX2_allGrains_6 : decode cX2_allGrains 6 = .ok (.ireturn, 1) := by decide +kernel
theorem dX2_grainsBeyond_0 : decode cX2_grainsBeyond 0 = .ok (.iconst 0, 1) := by decide +kernel
theorem dX2_grainsBeyond_1 : decode cX2_grainsBeyond 1 = .ok (.istore_n 3, 1) := by decide +kernel
theorem dX2_grainsBeyond_2 : decode cX2_grainsBeyond 2 = .ok (.iconst 0, 1) := by decide +kernel
theorem dX2_grainsBeyond_3 : decode cX2_grainsBeyond 3 = .ok (.istore 4, 2) := by decide +kernel
theorem dX2_grainsBeyond_5 : decode cX2_grainsBeyond 5 = .ok (.iload 4, 2) := by decide +kernel
theorem dX2_grainsBeyond_7 : decode cX2_grainsBeyond 7 = .ok (.bipush 64, 2) := by decide +kernel
theorem dX2_grainsBeyond_9 : decode cX2_grainsBeyond 9 = .ok (.if_icmp .ge 28, 3) := by decide +kernel
theorem dX2_grainsBeyond_12 : decode cX2_grainsBeyond 12 = .ok (.iload 4, 2) := by decide +kernel
theorem dX2_grainsBeyond_14 : decode cX2_grainsBeyond 14 = .ok (.bipush 8, 2) := by decide +kernel
theorem dX2_grainsBeyond_16 : decode cX2_grainsBeyond 16 = .ok (.irem, 1) := by decide +kernel
theorem dX2_grainsBeyond_17 : decode cX2_grainsBeyond 17 = .ok (.iload_n 1, 1) := by decide +kernel
theorem dX2_grainsBeyond_18 : decode cX2_grainsBeyond 18 = .ok (.if_icmp .le 13, 3) := by decide +kernel
theorem dX2_grainsBeyond_21 : decode cX2_grainsBeyond 21 = .ok (.iload_n 3, 1) := by decide +kernel
theorem dX2_grainsBeyond_22 : decode cX2_grainsBeyond 22 = .ok (.aload_n 0, 1) := by decide +kernel
theorem dX2_grainsBeyond_23 : decode cX2_grainsBeyond 23 = .ok (.iload 4, 2) := by decide +kernel
theorem dX2_grainsBeyond_25 : decode cX2_grainsBeyond 25 = .ok (.iload_n 2, 1) := by decide +kernel
theorem dX2_grainsBeyond_26 : decode cX2_grainsBeyond 26 = .ok (.invokevirtual 28, 3) := by decide +kernel
theorem dX2_grainsBeyond_29 : decode cX2_grainsBeyond 29 = .ok (.iadd, 1) := by decide +kernel
theorem dX2_grainsBeyond_30 : decode cX2_grainsBeyond 30 = .ok (.istore_n 3, 1) := by decide +kernel
theorem dX2_grainsBeyond_31 : decode cX2_grainsBeyond 31 = .ok (.iinc 4 1, 3) := by decide +kernel
theorem dX2_grainsBeyond_34 : decode cX2_grainsBeyond 34 = .ok (.goto (-29), 3) := by decide +kernel
theorem dX2_grainsBeyond_37 : decode cX2_grainsBeyond 37 = .ok (.iload_n 3, 1) := by decide +kernel
theorem dX2_grainsBeyond_38 : decode cX2_grainsBeyond 38 = .ok (.ireturn, 1) := by decide +kernel
theorem dX2_strays_0 : decode cX2_strays 0 = .ok (.iconst 0, 1) := by decide +kernel
theorem dX2_strays_1 : decode cX2_strays 1 = .ok (.istore_n 2, 1) := by decide +kernel
theorem dX2_strays_2 : decode cX2_strays 2 = .ok (.iconst 0, 1) := by decide +kernel
theorem dX2_strays_3 : decode cX2_strays 3 = .ok (.istore_n 3, 1) := by decide +kernel
theorem dX2_strays_4 : decode cX2_strays 4 = .ok (.iload_n 3, 1) := by decide +kernel
theorem dX2_strays_5 : decode cX2_strays 5 = .ok (.bipush 64, 2) := by decide +kernel
theorem dX2_strays_7 : decode cX2_strays 7 = .ok (.if_icmp .ge 60, 3) := by decide +kernel
theorem dX2_strays_10 : decode cX2_strays 10 = .ok (.iconst 0, 1) := by decide +kernel
theorem dX2_strays_11 : decode cX2_strays 11 = .ok (.istore 4, 2) := by decide +kernel
theorem dX2_strays_13 : decode cX2_strays 13 = .ok (.iload 4, 2) := by decide +kernel
theorem dX2_strays_15 : decode cX2_strays 15 = .ok (.iconst 4, 1) := by decide +kernel
theorem dX2_strays_16 : decode cX2_strays 16 = .ok (.if_icmp .ge 45, 3) := by decide +kernel
theorem dX2_strays_19 : decode cX2_strays 19 = .ok (.iload_n 1, 1) := by decide +kernel
theorem dX2_strays_20 : decode cX2_strays 20 = .ok (.iconst (-1), 1) := by decide +kernel
theorem dX2_strays_21 : decode cX2_strays 21 = .ok (.if_icmp .eq 9, 3) := by decide +kernel
theorem dX2_strays_24 : decode cX2_strays 24 = .ok (.iload_n 1, 1) := by decide +kernel
theorem dX2_strays_25 : decode cX2_strays 25 = .ok (.iload 4, 2) := by decide +kernel
theorem dX2_strays_27 : decode cX2_strays 27 = .ok (.if_icmp .ne 28, 3) := by decide +kernel
theorem dX2_strays_30 : decode cX2_strays 30 = .ok (.aload_n 0, 1) := by decide +kernel
theorem dX2_strays_31 : decode cX2_strays 31 = .ok (.getfield 15, 3) := by decide +kernel
theorem dX2_strays_34 : decode cX2_strays 34 = .ok (.iload_n 3, 1) := by decide +kernel
theorem dX2_strays_35 : decode cX2_strays 35 = .ok (.iaload, 1) := by decide +kernel
theorem dX2_strays_36 : decode cX2_strays 36 = .ok (.iload 4, 2) := by decide +kernel
theorem dX2_strays_38 : decode cX2_strays 38 = .ok (.if_icmp .eq 17, 3) := by decide +kernel
theorem dX2_strays_41 : decode cX2_strays 41 = .ok (.iload_n 2, 1) := by decide +kernel
theorem dX2_strays_42 : decode cX2_strays 42 = .ok (.aload_n 0, 1) := by decide +kernel
theorem dX2_strays_43 : decode cX2_strays 43 = .ok (.getfield 9, 3) := by decide +kernel
theorem dX2_strays_46 : decode cX2_strays 46 = .ok (.iload_n 3, 1) := by decide +kernel
theorem dX2_strays_47 : decode cX2_strays 47 = .ok (.iconst 4, 1) := by decide +kernel
theorem dX2_strays_48 : decode cX2_strays 48 = .ok (.imul, 1) := by decide +kernel
theorem dX2_strays_49 : decode cX2_strays 49 = .ok (.iload 4, 2) := by decide +kernel
theorem dX2_strays_51 : decode cX2_strays 51 = .ok (.iadd, 1) := by decide +kernel
theorem dX2_strays_52 : decode cX2_strays 52 = .ok (.iaload, 1) := by decide +kernel
theorem dX2_strays_53 : decode cX2_strays 53 = .ok (.iadd, 1) := by decide +kernel
theorem dX2_strays_54 : decode cX2_strays 54 = .ok (.istore_n 2, 1) := by decide +kernel
theorem dX2_strays_55 : decode cX2_strays 55 = .ok (.iinc 4 1, 3) := by decide +kernel
theorem dX2_strays_58 : decode cX2_strays 58 = .ok (.goto (-45), 3) := by decide +kernel
theorem dX2_strays_61 : decode cX2_strays 61 = .ok (.iinc 3 1, 3) := by decide +kernel
theorem dX2_strays_64 : decode cX2_strays 64 = .ok (.goto (-60), 3) := by decide +kernel
theorem dX2_strays_67 : decode cX2_strays 67 = .ok (.iload_n 2, 1) := by decide +kernel
theorem dX2_strays_68 : decode cX2_strays 68 = .ok (.ireturn, 1) := by decide +kernel
theorem dX2_bareCells_0 : decode cX2_bareCells 0 = .ok (.iconst 0, 1) := by decide +kernel
theorem dX2_bareCells_1 : decode cX2_bareCells 1 = .ok (.istore_n 2, 1) := by decide +kernel
theorem dX2_bareCells_2 : decode cX2_bareCells 2 = .ok (.iconst 0, 1) := by decide +kernel
theorem dX2_bareCells_3 : decode cX2_bareCells 3 = .ok (.istore_n 3, 1) := by decide +kernel
theorem dX2_bareCells_4 : decode cX2_bareCells 4 = .ok (.iload_n 3, 1) := by decide +kernel
theorem dX2_bareCells_5 : decode cX2_bareCells 5 = .ok (.bipush 64, 2) := by decide +kernel
theorem dX2_bareCells_7 : decode cX2_bareCells 7 = .ok (.if_icmp .ge 49, 3) := by decide +kernel
theorem dX2_bareCells_10 : decode cX2_bareCells 10 = .ok (.aload_n 0, 1) := by decide +kernel
theorem dX2_bareCells_11 : decode cX2_bareCells 11 = .ok (.getfield 15, 3) := by decide +kernel
theorem dX2_bareCells_14 : decode cX2_bareCells 14 = .ok (.iload_n 3, 1) := by decide +kernel
theorem dX2_bareCells_15 : decode cX2_bareCells 15 = .ok (.iaload, 1) := by decide +kernel
theorem dX2_bareCells_16 : decode cX2_bareCells 16 = .ok (.istore 4, 2) := by decide +kernel
theorem dX2_bareCells_18 : decode cX2_bareCells 18 = .ok (.iload 4, 2) := by decide +kernel
theorem dX2_bareCells_20 : decode cX2_bareCells 20 = .ok (.invokestatic 31, 3) := by decide +kernel
theorem dX2_bareCells_23 : decode cX2_bareCells 23 = .ok (.ifCond .eq 27, 3) := by decide +kernel
theorem dX2_bareCells_26 : decode cX2_bareCells 26 = .ok (.iload_n 1, 1) := by decide +kernel
theorem dX2_bareCells_27 : decode cX2_bareCells 27 = .ok (.iconst (-1), 1) := by decide +kernel
theorem dX2_bareCells_28 : decode cX2_bareCells 28 = .ok (.if_icmp .eq 9, 3) := by decide +kernel
theorem dX2_bareCells_31 : decode cX2_bareCells 31 = .ok (.iload_n 1, 1) := by decide +kernel
theorem dX2_bareCells_32 : decode cX2_bareCells 32 = .ok (.iload 4, 2) := by decide +kernel
theorem dX2_bareCells_34 : decode cX2_bareCells 34 = .ok (.if_icmp .ne 16, 3) := by decide +kernel
theorem dX2_bareCells_37 : decode cX2_bareCells 37 = .ok (.aload_n 0, 1) := by decide +kernel
theorem dX2_bareCells_38 : decode cX2_bareCells 38 = .ok (.iload_n 3, 1) := by decide +kernel
theorem dX2_bareCells_39 : decode cX2_bareCells 39 = .ok (.iload 4, 2) := by decide +kernel
theorem dX2_bareCells_41 : decode cX2_bareCells 41 = .ok (.invokevirtual 28, 3) := by decide +kernel
theorem dX2_bareCells_44 : decode cX2_bareCells 44 = .ok (.ifCond .ne 6, 3) := by decide +kernel
theorem dX2_bareCells_47 : decode cX2_bareCells 47 = .ok (.iinc 2 1, 3) := by decide +kernel
theorem dX2_bareCells_50 : decode cX2_bareCells 50 = .ok (.iinc 3 1, 3) := by decide +kernel
theorem dX2_bareCells_53 : decode cX2_bareCells 53 = .ok (.goto (-49), 3) := by decide +kernel
theorem dX2_bareCells_56 : decode cX2_bareCells 56 = .ok (.iload_n 2, 1) := by decide +kernel
theorem dX2_bareCells_57 : decode cX2_bareCells 57 = .ok (.ireturn, 1) := by decide +kernel
theorem dX2_hasGrainsOf_0 : decode cX2_hasGrainsOf 0 = .ok (.iconst 0, 1) := by decide +kernel
theorem dX2_hasGrainsOf_1 : decode cX2_hasGrainsOf 1 = .ok (.istore_n 2, 1) := by decide +kernel
theorem dX2_hasGrainsOf_2 : decode cX2_hasGrainsOf 2 = .ok (.iload_n 2, 1) := by decide +kernel
theorem dX2_hasGrainsOf_3 : decode cX2_hasGrainsOf 3 = .ok (.sipush 256, 3) := by decide +kernel
theorem dX2_hasGrainsOf_6 : decode cX2_hasGrainsOf 6 = .ok (.if_icmp .ge 26, 3) := by decide +kernel
theorem dX2_hasGrainsOf_9 : decode cX2_hasGrainsOf 9 = .ok (.aload_n 0, 1) := by decide +kernel
theorem dX2_hasGrainsOf_10 : decode cX2_hasGrainsOf 10 = .ok (.getfield 9, 3) := by decide +kernel
theorem dX2_hasGrainsOf_13 : decode cX2_hasGrainsOf 13 = .ok (.iload_n 2, 1) := by decide +kernel
theorem dX2_hasGrainsOf_14 : decode cX2_hasGrainsOf 14 = .ok (.iaload, 1) := by decide +kernel
theorem dX2_hasGrainsOf_15 : decode cX2_hasGrainsOf 15 = .ok (.aload_n 1, 1) := by decide +kernel
theorem dX2_hasGrainsOf_16 : decode cX2_hasGrainsOf 16 = .ok (.getfield 9, 3) := by decide +kernel
theorem dX2_hasGrainsOf_19 : decode cX2_hasGrainsOf 19 = .ok (.iload_n 2, 1) := by decide +kernel
theorem dX2_hasGrainsOf_20 : decode cX2_hasGrainsOf 20 = .ok (.iaload, 1) := by decide +kernel
theorem dX2_hasGrainsOf_21 : decode cX2_hasGrainsOf 21 = .ok (.if_icmp .eq 5, 3) := by decide +kernel
theorem dX2_hasGrainsOf_24 : decode cX2_hasGrainsOf 24 = .ok (.iconst 0, 1) := by decide +kernel
theorem dX2_hasGrainsOf_25 : decode cX2_hasGrainsOf 25 = .ok (.ireturn, 1) := by decide +kernel
theorem dX2_hasGrainsOf_26 : decode cX2_hasGrainsOf 26 = .ok (.iinc 2 1, 3) := by decide +kernel
theorem dX2_hasGrainsOf_29 : decode cX2_hasGrainsOf 29 = .ok (.goto (-27), 3) := by decide +kernel
theorem dX2_hasGrainsOf_32 : decode cX2_hasGrainsOf 32 = .ok (.iconst 1, 1) := by decide +kernel
theorem dX2_hasGrainsOf_33 : decode cX2_hasGrainsOf 33 = .ok (.ireturn, 1) := by decide +kernel
theorem dX2_nearestEmpty_0 : decode cX2_nearestEmpty 0 = .ok (.bipush (-6), 2) := by decide +kernel
theorem dX2_nearestEmpty_2 : decode cX2_nearestEmpty 2 = .ok (.istore_n 2, 1) := by decide +kernel
theorem dX2_nearestEmpty_3 : decode cX2_nearestEmpty 3 = .ok (.bipush 8, 2) := by decide +kernel
theorem dX2_nearestEmpty_5 : decode cX2_nearestEmpty 5 = .ok (.istore_n 3, 1) := by decide +kernel
theorem dX2_nearestEmpty_6 : decode cX2_nearestEmpty 6 = .ok (.iconst 0, 1) := by decide +kernel
theorem dX2_nearestEmpty_7 : decode cX2_nearestEmpty 7 = .ok (.istore 4, 2) := by decide +kernel
theorem dX2_nearestEmpty_9 : decode cX2_nearestEmpty 9 = .ok (.iload 4, 2) := by decide +kernel
theorem dX2_nearestEmpty_11 : decode cX2_nearestEmpty 11 = .ok (.bipush 64, 2) := by decide +kernel
theorem dX2_nearestEmpty_13 : decode cX2_nearestEmpty 13 = .ok (.if_icmp .ge 39, 3) := by decide +kernel
theorem dX2_nearestEmpty_16 : decode cX2_nearestEmpty 16 = .ok (.iload_n 1, 1) := by decide +kernel
theorem dX2_nearestEmpty_17 : decode cX2_nearestEmpty 17 = .ok (.iload 4, 2) := by decide +kernel
theorem dX2_nearestEmpty_19 : decode cX2_nearestEmpty 19 = .ok (.invokestatic 35, 3) := by decide +kernel
theorem dX2_nearestEmpty_22 : decode cX2_nearestEmpty 22 = .ok (.istore 5, 2) := by decide +kernel
theorem dX2_nearestEmpty_24 : decode cX2_nearestEmpty 24 = .ok (.iload 5, 2) := by decide +kernel
theorem dX2_nearestEmpty_26 : decode cX2_nearestEmpty 26 = .ok (.iload_n 3, 1) := by decide +kernel
theorem dX2_nearestEmpty_27 : decode cX2_nearestEmpty 27 = .ok (.if_icmp .ge 19, 3) := by decide +kernel
theorem dX2_nearestEmpty_30 : decode cX2_nearestEmpty 30 = .ok (.aload_n 0, 1) := by decide +kernel
theorem dX2_nearestEmpty_31 : decode cX2_nearestEmpty 31 = .ok (.iload 4, 2) := by decide +kernel
theorem dX2_nearestEmpty_33 : decode cX2_nearestEmpty 33 = .ok (.iconst (-1), 1) := by decide +kernel
theorem dX2_nearestEmpty_34 : decode cX2_nearestEmpty 34 = .ok (.invokevirtual 28, 3) := by decide +kernel
theorem dX2_nearestEmpty_37 : decode cX2_nearestEmpty 37 = .ok (.ifCond .ne 9, 3) := by decide +kernel
theorem dX2_nearestEmpty_40 : decode cX2_nearestEmpty 40 = .ok (.iload 4, 2) := by decide +kernel
theorem dX2_nearestEmpty_42 : decode cX2_nearestEmpty 42 = .ok (.istore_n 2, 1) := by decide +kernel
theorem dX2_nearestEmpty_43 : decode cX2_nearestEmpty 43 = .ok (.iload 5, 2) := by decide +kernel
theorem dX2_nearestEmpty_45 : decode cX2_nearestEmpty 45 = .ok (.istore_n 3, 1) := by decide +kernel
theorem dX2_nearestEmpty_46 : decode cX2_nearestEmpty 46 = .ok (.iinc 4 1, 3) := by decide +kernel
theorem dX2_nearestEmpty_49 : decode cX2_nearestEmpty 49 = .ok (.goto (-40), 3) := by decide +kernel
theorem dX2_nearestEmpty_52 : decode cX2_nearestEmpty 52 = .ok (.iload_n 2, 1) := by decide +kernel
theorem dX2_nearestEmpty_53 : decode cX2_nearestEmpty 53 = .ok (.ireturn, 1) := by decide +kernel
theorem dX3_init_0 : decode cX3_init 0 = .ok (.aload_n 0, 1) := by decide +kernel
theorem dX3_init_1 : decode cX3_init 1 = .ok (.invokespecial 3, 3) := by decide +kernel
theorem dX3_init_4 : decode cX3_init 4 = .ok (.aload_n 0, 1) := by decide +kernel
theorem dX3_init_5 : decode cX3_init 5 = .ok (.new 9, 3) := by decide +kernel
theorem dX3_init_8 : decode cX3_init 8 = .ok (.dup, 1) := by decide +kernel
theorem dX3_init_9 : decode cX3_init 9 = .ok (.invokespecial 11, 3) := by decide +kernel
theorem dX3_init_12 : decode cX3_init 12 = .ok (.putfield 12, 3) := by decide +kernel
theorem dX3_init_15 : decode cX3_init 15 = .ok (.aload_n 0, 1) := by decide +kernel
theorem dX3_init_16 : decode cX3_init 16 = .ok (.new 18, 3) := by decide +kernel
theorem dX3_init_19 : decode cX3_init 19 = .ok (.dup, 1) := by decide +kernel
theorem dX3_init_20 : decode cX3_init 20 = .ok (.invokespecial 20, 3) := by decide +kernel
theorem dX3_init_23 : decode cX3_init 23 = .ok (.putfield 21, 3) := by decide +kernel
theorem dX3_init_26 : decode cX3_init 26 = .ok (.aload_n 0, 1) := by decide +kernel
theorem dX3_init_27 : decode cX3_init 27 = .ok (.iconst 4, 1) := by decide +kernel
theorem dX3_init_28 : decode cX3_init 28 = .ok (.newarray .int, 2) := by decide +kernel
theorem dX3_init_30 : decode cX3_init 30 = .ok (.putfield 25, 3) := by decide +kernel
theorem dX3_init_33 : decode cX3_init 33 = .ok (.iconst 0, 1) := by decide +kernel
theorem dX3_init_34 : decode cX3_init 34 = .ok (.istore_n 1, 1) := by decide +kernel
theorem dX3_init_35 : decode cX3_init 35 = .ok (.iload_n 1, 1) := by decide +kernel
theorem dX3_init_36 : decode cX3_init 36 = .ok (.iconst 4, 1) := by decide +kernel
theorem dX3_init_37 : decode cX3_init 37 = .ok (.if_icmp .ge 16, 3) := by decide +kernel
theorem dX3_init_40 : decode cX3_init 40 = .ok (.aload_n 0, 1) := by decide +kernel
theorem dX3_init_41 : decode cX3_init 41 = .ok (.getfield 25, 3) := by decide +kernel
theorem dX3_init_44 : decode cX3_init 44 = .ok (.iload_n 1, 1) := by decide +kernel
theorem dX3_init_45 : decode cX3_init 45 = .ok (.iconst 5, 1) := by decide +kernel
theorem dX3_init_46 : decode cX3_init 46 = .ok (.iastore, 1) := by decide +kernel
theorem dX3_init_47 : decode cX3_init 47 = .ok (.iinc 1 1, 3) := by decide +kernel
theorem dX3_init_50 : decode cX3_init 50 = .ok (.goto (-15), 3) := by decide +kernel
theorem dX3_init_53 : decode cX3_init 53 = .ok (.return_, 1) := by decide +kernel
theorem dX3_copyFrom_0 : decode cX3_copyFrom 0 = .ok (.aload_n 0, 1) := by decide +kernel
theorem dX3_copyFrom_1 : decode cX3_copyFrom 1 = .ok (.getfield 12, 3) := by decide +kernel
theorem dX3_copyFrom_4 : decode cX3_copyFrom 4 = .ok (.aload_n 1, 1) := by decide +kernel
theorem dX3_copyFrom_5 : decode cX3_copyFrom 5 = .ok (.getfield 12, 3) := by decide +kernel
theorem dX3_copyFrom_8 : decode cX3_copyFrom 8 = .ok (.invokevirtual 29, 3) := by decide +kernel
theorem dX3_copyFrom_11 : decode cX3_copyFrom 11 = .ok (.aload_n 0, 1) := by decide +kernel
theorem dX3_copyFrom_12 : decode cX3_copyFrom 12 = .ok (.getfield 21, 3) := by decide +kernel
theorem dX3_copyFrom_15 : decode cX3_copyFrom 15 = .ok (.aload_n 1, 1) := by decide +kernel
theorem dX3_copyFrom_16 : decode cX3_copyFrom 16 = .ok (.getfield 21, 3) := by decide +kernel
theorem dX3_copyFrom_19 : decode cX3_copyFrom 19 = .ok (.invokevirtual 33, 3) := by decide +kernel
theorem dX3_copyFrom_22 : decode cX3_copyFrom 22 = .ok (.aload_n 1, 1) := by decide +kernel
theorem dX3_copyFrom_23 : decode cX3_copyFrom 23 = .ok (.getfield 25, 3) := by decide +kernel
theorem dX3_copyFrom_26 : decode cX3_copyFrom 26 = .ok (.iconst 0, 1) := by decide +kernel
theorem dX3_copyFrom_27 : decode cX3_copyFrom 27 = .ok (.aload_n 0, 1) := by decide +kernel
theorem dX3_copyFrom_28 : decode cX3_copyFrom 28 = .ok (.getfield 25, 3) := by decide +kernel
theorem dX3_copyFrom_31 : decode cX3_copyFrom 31 = .ok (.iconst 0, 1) := by decide +kernel
theorem dX3_copyFrom_32 : decode cX3_copyFrom 32 = .ok (.iconst 4, 1) := by decide +kernel
theorem dX3_copyFrom_33 : decode cX3_copyFrom 33 = .ok (.invokestatic 36, 3) := by decide +kernel
theorem dX3_copyFrom_36 : decode cX3_copyFrom 36 = .ok (.return_, 1) := by decide +kernel
theorem dX3_harvest_0 : decode cX3_harvest 0 = .ok (.iconst 0, 1) := by decide +kernel
theorem dX3_harvest_1 : decode cX3_harvest 1 = .ok (.istore_n 1, 1) := by decide +kernel
theorem dX3_harvest_2 : decode cX3_harvest 2 = .ok (.iconst 0, 1) := by decide +kernel
theorem dX3_harvest_3 : decode cX3_harvest 3 = .ok (.istore_n 2, 1) := by decide +kernel
theorem dX3_harvest_4 : decode cX3_harvest 4 = .ok (.iload_n 2, 1) := by decide +kernel
theorem dX3_harvest_5 : decode cX3_harvest 5 = .ok (.iconst 4, 1) := by decide +kernel
theorem dX3_harvest_6 : decode cX3_harvest 6 = .ok (.if_icmp .ge 28, 3) := by decide +kernel
theorem dX3_harvest_9 : decode cX3_harvest 9 = .ok (.iload_n 1, 1) := by decide +kernel
theorem dX3_harvest_10 : decode cX3_harvest 10 = .ok (.aload_n 0, 1) := by decide +kernel
theorem dX3_harvest_11 : decode cX3_harvest 11 = .ok (.getfield 25, 3) := by decide +kernel
theorem dX3_harvest_14 : decode cX3_harvest 14 = .ok (.iload_n 2, 1) := by decide +kernel
theorem dX3_harvest_15 : decode cX3_harvest 15 = .ok (.iaload, 1) := by decide +kernel
theorem dX3_harvest_16 : decode cX3_harvest 16 = .ok (.aload_n 0, 1) := by decide +kernel
theorem dX3_harvest_17 : decode cX3_harvest 17 = .ok (.getfield 12, 3) := by decide +kernel
theorem dX3_harvest_20 : decode cX3_harvest 20 = .ok (.iconst (-1), 1) := by decide +kernel
theorem dX3_harvest_21 : decode cX3_harvest 21 = .ok (.iload_n 2, 1) := by decide +kernel
theorem dX3_harvest_22 : decode cX3_harvest 22 = .ok (.invokevirtual 42, 3) := by decide +kernel
theorem dX3_harvest_25 : decode cX3_harvest 25 = .ok (.imul, 1) := by decide +kernel
theorem dX3_harvest_26 : decode cX3_harvest 26 = .ok (.iadd, 1) := by decide +kernel
theorem dX3_harvest_27 : decode cX3_harvest 27 = .ok (.istore_n 1, 1) := by decide +kernel
theorem dX3_harvest_28 : decode cX3_harvest 28 = .ok (.iinc 2 1, 3) := by decide +kernel
theorem dX3_harvest_31 : decode cX3_harvest 31 = .ok (.goto (-27), 3) := by decide +kernel
theorem dX3_harvest_34 : decode cX3_harvest 34 = .ok (.iload_n 1, 1) := by decide +kernel
theorem dX3_harvest_35 : decode cX3_harvest 35 = .ok (.ireturn, 1) := by decide +kernel
theorem dX3_partOfHarvest_0 : decode cX3_partOfHarvest 0 = .ok (.aload_n 0, 1) := by decide +kernel
theorem dX3_partOfHarvest_1 : decode cX3_partOfHarvest 1 = .ok (.invokevirtual 46, 3) := by decide +kernel
theorem dX3_partOfHarvest_4 : decode cX3_partOfHarvest 4 = .ok (.i2l, 1) := by decide +kernel
theorem dX3_partOfHarvest_5 : decode cX3_partOfHarvest 5 = .ok (.lstore_n 2, 1) := by decide +kernel
theorem dX3_partOfHarvest_6 : decode cX3_partOfHarvest 6 = .ok (.aload_n 0, 1) := by decide +kernel
theorem dX3_partOfHarvest_7 : decode cX3_partOfHarvest 7 = .ok (.invokevirtual 50, 3) := by decide +kernel
theorem dX3_partOfHarvest_10 : decode cX3_partOfHarvest 10 = .ok (.istore 4, 2) := by decide +kernel
theorem dX3_partOfHarvest_12 : decode cX3_partOfHarvest 12 = .ok (.iload 4, 2) := by decide +kernel
theorem dX3_partOfHarvest_14 : decode cX3_partOfHarvest 14 = .ok (.ifCond .ne 9, 3) := by decide +kernel
theorem dX3_partOfHarvest_17 : decode cX3_partOfHarvest 17 = .ok (.ldc2_w 53, 3) := by decide +kernel
theorem dX3_partOfHarvest_20 : decode cX3_partOfHarvest 20 = .ok (.goto 6, 3) := by decide +kernel
theorem dX3_partOfHarvest_23 : decode cX3_partOfHarvest 23 = .ok (.iload 4, 2) := by decide +kernel
theorem dX3_partOfHarvest_25 : decode cX3_partOfHarvest 25 = .ok (.i2l, 1) := by decide +kernel
theorem dX3_partOfHarvest_26 : decode cX3_partOfHarvest 26 = .ok (.lstore 5, 2) := by decide +kernel
theorem dX3_partOfHarvest_28 : decode cX3_partOfHarvest 28 = .ok (.lload_n 2, 1) := by decide +kernel
theorem dX3_partOfHarvest_29 : decode cX3_partOfHarvest 29 = .ok (.aload_n 0, 1) := by decide +kernel
theorem dX3_partOfHarvest_30 : decode cX3_partOfHarvest 30 = .ok (.iload_n 1, 1) := by decide +kernel
theorem dX3_partOfHarvest_31 : decode cX3_partOfHarvest 31 = .ok (.iload 4, 2) := by decide +kernel
theorem dX3_partOfHarvest_33 : decode cX3_partOfHarvest 33 = .ok (.invokevirtual 55, 3) := by decide +kernel
theorem dX3_partOfHarvest_36 : decode cX3_partOfHarvest 36 = .ok (.i2l, 1) := by decide +kernel
theorem dX3_partOfHarvest_37 : decode cX3_partOfHarvest 37 = .ok (.lmul, 1) := by decide +kernel
theorem dX3_partOfHarvest_38 : decode cX3_partOfHarvest 38 = .ok (.lload 5, 2) := by decide +kernel
theorem dX3_partOfHarvest_40 : decode cX3_partOfHarvest 40 = .ok (.ldiv, 1) := by decide +kernel
theorem dX3_partOfHarvest_41 : decode cX3_partOfHarvest 41 = .ok (.lstore 7, 2) := by decide +kernel
theorem dX3_partOfHarvest_43 : decode cX3_partOfHarvest 43 = .ok (.lload_n 2, 1) := by decide +kernel
theorem dX3_partOfHarvest_44 : decode cX3_partOfHarvest 44 = .ok (.aload_n 0, 1) := by decide +kernel
theorem dX3_partOfHarvest_45 : decode cX3_partOfHarvest 45 = .ok (.iload_n 1, 1) := by decide +kernel
theorem dX3_partOfHarvest_46 : decode cX3_partOfHarvest 46 = .ok (.iload 4, 2) := by decide +kernel
theorem dX3_partOfHarvest_48 : decode cX3_partOfHarvest 48 = .ok (.invokevirtual 55, 3) := by decide +kernel
theorem dX3_partOfHarvest_51 : decode cX3_partOfHarvest 51 = .ok (.i2l, 1) := by decide +kernel
theorem dX3_partOfHarvest_52 : decode cX3_partOfHarvest 52 = .ok (.lmul, 1) := by decide +kernel
theorem dX3_partOfHarvest_53 : decode cX3_partOfHarvest 53 = .ok (.lload 5, 2) := by decide +kernel
theorem dX3_partOfHarvest_55 : decode cX3_partOfHarvest 55 = .ok (.lrem, 1) := by decide +kernel
theorem dX3_partOfHarvest_56 : decode cX3_partOfHarvest 56 = .ok (.lstore 9, 2) := by decide +kernel
theorem dX3_partOfHarvest_58 : decode cX3_partOfHarvest 58 = .ok (.lload_n 2, 1) := by decide +kernel
theorem dX3_partOfHarvest_59 : decode cX3_partOfHarvest 59 = .ok (.lstore 11, 2) := by decide +kernel
theorem dX3_partOfHarvest_61 : decode cX3_partOfHarvest 61 = .ok (.iconst 0, 1) := by decide +kernel
theorem dX3_partOfHarvest_62 : decode cX3_partOfHarvest 62 = .ok (.istore 13, 2) := by decide +kernel
theorem dX3_partOfHarvest_64 : decode cX3_partOfHarvest 64 = .ok (.iconst 0, 1) := by decide +kernel
theorem dX3_partOfHarvest_65 : decode cX3_partOfHarvest 65 = .ok (.istore 14, 2) := by decide +kernel
theorem dX3_partOfHarvest_67 : decode cX3_partOfHarvest 67 = .ok (.iload 14, 2) := by decide +kernel
theorem dX3_partOfHarvest_69 : decode cX3_partOfHarvest 69 = .ok (.iconst 4, 1) := by decide +kernel
theorem dX3_partOfHarvest_70 : decode cX3_partOfHarvest 70 = .ok (.if_icmp .ge 63, 3) := by decide +kernel
theorem dX3_partOfHarvest_73 : decode cX3_partOfHarvest 73 = .ok (.lload_n 2, 1) := by decide +kernel
theorem dX3_partOfHarvest_74 : decode cX3_partOfHarvest 74 = .ok (.aload_n 0, 1) := by decide +kernel
theorem dX3_partOfHarvest_75 : decode cX3_partOfHarvest 75 = .ok (.iload 14, 2) := by decide +kernel
theorem dX3_partOfHarvest_77 : decode cX3_partOfHarvest 77 = .ok (.iload 4, 2) := by decide +kernel
theorem dX3_partOfHarvest_79 : decode cX3_partOfHarvest 79 = .ok (.invokevirtual 55, 3) := by decide +kernel
theorem dX3_partOfHarvest_82 : decode cX3_partOfHarvest 82 = .ok (.i2l, 1) := by decide +kernel
theorem dX3_partOfHarvest_83 : decode cX3_partOfHarvest 83 = .ok (.lmul, 1) := by decide +kernel
theorem dX3_partOfHarvest_84 : decode cX3_partOfHarvest 84 = .ok (.lstore 15, 2) := by decide +kernel
theorem dX3_partOfHarvest_86 : decode cX3_partOfHarvest 86 = .ok (.lload 11, 2) := by decide +kernel
theorem dX3_partOfHarvest_88 : decode cX3_partOfHarvest 88 = .ok (.lload 15, 2) := by decide +kernel
theorem dX3_partOfHarvest_90 : decode cX3_partOfHarvest 90 = .ok (.lload 5, 2) := by decide +kernel
theorem dX3_partOfHarvest_92 : decode cX3_partOfHarvest 92 = .ok (.ldiv, 1) := by decide +kernel
theorem dX3_partOfHarvest_93 : decode cX3_partOfHarvest 93 = .ok (.lsub, 1) := by decide +kernel
theorem dX3_partOfHarvest_94 : decode cX3_partOfHarvest 94 = .ok (.lstore 11, 2) := by decide +kernel
theorem dX3_partOfHarvest_96 : decode cX3_partOfHarvest 96 = .ok (.lload 15, 2) := by decide +kernel
theorem dX3_partOfHarvest_98 : decode cX3_partOfHarvest 98 = .ok (.lload 5, 2) := by decide +kernel
theorem dX3_partOfHarvest_100 : decode cX3_partOfHarvest 100 = .ok (.lrem, 1) := by decide +kernel
theorem dX3_partOfHarvest_101 : decode cX3_partOfHarvest 101 = .ok (.lload 9, 2) := by decide +kernel
theorem dX3_partOfHarvest_103 : decode cX3_partOfHarvest 103 = .ok (.lcmp, 1) := by decide +kernel
theorem dX3_partOfHarvest_104 : decode cX3_partOfHarvest 104 = .ok (.ifCond .gt 20, 3) := by decide +kernel
theorem dX3_partOfHarvest_107 : decode cX3_partOfHarvest 107 = .ok (.lload 15, 2) := by decide +kernel
theorem dX3_partOfHarvest_109 : decode cX3_partOfHarvest 109 = .ok (.lload 5, 2) := by decide +kernel
theorem dX3_partOfHarvest_111 : decode cX3_partOfHarvest 111 = .ok (.lrem, 1) := by decide +kernel
theorem dX3_partOfHarvest_112 : decode cX3_partOfHarvest 112 = .ok (.lload 9, 2) := by decide +kernel
theorem dX3_partOfHarvest_114 : decode cX3_partOfHarvest 114 = .ok (.lcmp, 1) := by decide +kernel
theorem dX3_partOfHarvest_115 : decode cX3_partOfHarvest 115 = .ok (.ifCond .ne 12, 3) := by decide +kernel
theorem dX3_partOfHarvest_118 : decode cX3_partOfHarvest 118 = .ok (.iload 14, 2) := by decide +kernel
theorem dX3_partOfHarvest_120 : decode cX3_partOfHarvest 120 = .ok (.iload_n 1, 1) := by decide +kernel
theorem dX3_partOfHarvest_121 : decode cX3_partOfHarvest 121 = .ok (.if_icmp .ge 6, 3) := by decide +kernel
theorem dX3_partOfHarvest_124 : decode cX3_partOfHarvest 124 = .ok (.iinc 13 1, 3) := by decide +kernel
theorem dX3_partOfHarvest_127 : decode cX3_partOfHarvest 127 = .ok (.iinc 14 1, 3) := by decide +kernel
theorem dX3_partOfHarvest_130 : decode cX3_partOfHarvest 130 = .ok (.goto (-63), 3) := by decide +kernel
theorem dX3_partOfHarvest_133 : decode cX3_partOfHarvest 133 = .ok (.iload 13, 2) := by decide +kernel
theorem dX3_partOfHarvest_135 : decode cX3_partOfHarvest 135 = .ok (.i2l, 1) := by decide +kernel
theorem dX3_partOfHarvest_136 : decode cX3_partOfHarvest 136 = .ok (.lload 11, 2) := by decide +kernel
theorem dX3_partOfHarvest_138 : decode cX3_partOfHarvest 138 = .ok (.lcmp, 1) := by decide +kernel
theorem dX3_partOfHarvest_139 : decode cX3_partOfHarvest 139 = .ok (.ifCond .ge 10, 3) := by decide +kernel
theorem dX3_partOfHarvest_142 : decode cX3_partOfHarvest 142 = .ok (.lload 7, 2) := by decide +kernel
theorem dX3_partOfHarvest_144 : decode cX3_partOfHarvest 144 = .ok (.lconst 1, 1) := by decide +kernel
theorem dX3_partOfHarvest_145 : decode cX3_partOfHarvest 145 = .ok (.ladd, 1) := by decide +kernel
theorem dX3_partOfHarvest_146 : decode cX3_partOfHarvest 146 = .ok (.goto 5, 3) := by decide +kernel
theorem dX3_partOfHarvest_149 : decode cX3_partOfHarvest 149 = .ok (.lload 7, 2) := by decide +kernel
theorem dX3_partOfHarvest_151 : decode cX3_partOfHarvest 151 = .ok (.l2i, 1) := by decide +kernel
theorem dX3_partOfHarvest_152 : decode cX3_partOfHarvest 152 = .ok (.ireturn, 1) := by decide +kernel
theorem dX3_allSteps_0 : decode cX3_allSteps 0 = .ok (.iconst 0, 1) := by decide +kernel
theorem dX3_allSteps_1 : decode cX3_allSteps 1 = .ok (.istore_n 1, 1) := by decide +kernel
theorem dX3_allSteps_2 : decode cX3_allSteps 2 = .ok (.iconst 0, 1) := by decide +kernel
theorem dX3_allSteps_3 : decode cX3_allSteps 3 = .ok (.istore_n 2, 1) := by decide +kernel
theorem dX3_allSteps_4 : decode cX3_allSteps 4 = .ok (.iload_n 2, 1) := by decide +kernel
theorem dX3_allSteps_5 : decode cX3_allSteps 5 = .ok (.iconst 4, 1) := by decide +kernel
theorem dX3_allSteps_6 : decode cX3_allSteps 6 = .ok (.if_icmp .ge 24, 3) := by decide +kernel
theorem dX3_allSteps_9 : decode cX3_allSteps 9 = .ok (.iload_n 1, 1) := by decide +kernel
theorem dX3_allSteps_10 : decode cX3_allSteps 10 = .ok (.aload_n 0, 1) := by decide +kernel
theorem dX3_allSteps_11 : decode cX3_allSteps 11 = .ok (.getfield 21, 3) := by decide +kernel
theorem dX3_allSteps_14 : decode cX3_allSteps 14 = .ok (.getfield 58, 3) := by decide +kernel
theorem dX3_allSteps_17 : decode cX3_allSteps 17 = .ok (.iload_n 2, 1) := by decide +kernel
theorem dX3_allSteps_18 : decode cX3_allSteps 18 = .ok (.aaload, 1) := by decide +kernel
theorem dX3_allSteps_19 : decode cX3_allSteps 19 = .ok (.getfield 62, 3) := by decide +kernel
theorem dX3_allSteps_22 : decode cX3_allSteps 22 = .ok (.iadd, 1) := by decide +kernel
theorem dX3_allSteps_23 : decode cX3_allSteps 23 = .ok (.istore_n 1, 1) := by decide +kernel
theorem dX3_allSteps_24 : decode cX3_allSteps 24 = .ok (.iinc 2 1, 3) := by decide +kernel
theorem dX3_allSteps_27 : decode cX3_allSteps 27 = .ok (.goto (-23), 3) := by decide +kernel
theorem dX3_allSteps_30 : decode cX3_allSteps 30 = .ok (.iload_n 1, 1) := by decide +kernel
theorem dX3_allSteps_31 : decode cX3_allSteps 31 = .ok (.ireturn, 1) := by decide +kernel
theorem dX3_claim_0 : decode cX3_claim 0 = .ok (.iload_n 2, 1) := by decide +kernel
theorem dX3_claim_1 : decode cX3_claim 1 = .ok (.ifCond .ne 7, 3) := by decide +kernel
theorem dX3_claim_4 : decode cX3_claim 4 = .ok (.iconst 1, 1) := by decide +kernel
theorem dX3_claim_5 : decode cX3_claim 5 = .ok (.goto 15, 3) := by decide +kernel
theorem dX3_claim_8 : decode cX3_claim 8 = .ok (.aload_n 0, 1) := by decide +kernel
theorem dX3_claim_9 : decode cX3_claim 9 = .ok (.getfield 21, 3) := by decide +kernel
theorem dX3_claim_12 : decode cX3_claim 12 = .ok (.getfield 58, 3) := by decide +kernel
theorem dX3_claim_15 : decode cX3_claim 15 = .ok (.iload_n 1, 1) := by decide +kernel
theorem dX3_claim_16 : decode cX3_claim 16 = .ok (.aaload, 1) := by decide +kernel
theorem dX3_claim_17 : decode cX3_claim 17 = .ok (.getfield 62, 3) := by decide +kernel
