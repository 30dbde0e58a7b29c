theorem dX10_guessed_70 : decode cX10_guessed 70 = .ok (.aaload, 1) := by decide +kernel
theorem dX10_guessed_71 : decode cX10_guessed 71 = .ok (.invokevirtual 146, 3) := by decide +kernel
theorem dX10_guessed_74 : decode cX10_guessed 74 = .ok (.aload_n 0, 1) := by decide +kernel
theorem dX10_guessed_75 : decode cX10_guessed 75 = .ok (.getfield 31, 3) := by decide +kernel
theorem dX10_guessed_78 : decode cX10_guessed 78 = .ok (.getfield 73, 3) := by decide +kernel
theorem dX10_guessed_81 : decode cX10_guessed 81 = .ok (.getfield 77, 3) := by decide +kernel
theorem dX10_guessed_84 : decode cX10_guessed 84 = .ok (.iload_n 1, 1) := by decide +kernel
theorem dX10_guessed_85 : decode cX10_guessed 85 = .ok (.aaload, 1) := by decide +kernel
theorem dX10_guessed_86 : decode cX10_guessed 86 = .ok (.iconst 4, 1) := by decide +kernel
theorem dX10_guessed_87 : decode cX10_guessed 87 = .ok (.iload 4, 2) := by decide +kernel
theorem dX10_guessed_89 : decode cX10_guessed 89 = .ok (.invokevirtual 89, 3) := by decide +kernel
theorem dX10_guessed_92 : decode cX10_guessed 92 = .ok (.aload_n 0, 1) := by decide +kernel
theorem dX10_guessed_93 : decode cX10_guessed 93 = .ok (.getfield 31, 3) := by decide +kernel
theorem dX10_guessed_96 : decode cX10_guessed 96 = .ok (.getfield 73, 3) := by decide +kernel
theorem dX10_guessed_99 : decode cX10_guessed 99 = .ok (.aload_n 0, 1) := by decide +kernel
theorem dX10_guessed_100 : decode cX10_guessed 100 = .ok (.getfield 10, 3) := by decide +kernel
theorem dX10_guessed_103 : decode cX10_guessed 103 = .ok (.aload_n 0, 1) := by decide +kernel
theorem dX10_guessed_104 : decode cX10_guessed 104 = .ok (.getfield 31, 3) := by decide +kernel
theorem dX10_guessed_107 : decode cX10_guessed 107 = .ok (.getfield 117, 3) := by decide +kernel
theorem dX10_guessed_110 : decode cX10_guessed 110 = .ok (.invokevirtual 121, 3) := by decide +kernel
theorem dX10_guessed_113 : decode cX10_guessed 113 = .ok (.pop, 1) := by decide +kernel
theorem dX10_guessed_114 : decode cX10_guessed 114 = .ok (.aload_n 0, 1) := by decide +kernel
theorem dX10_guessed_115 : decode cX10_guessed 115 = .ok (.getfield 31, 3) := by decide +kernel
theorem dX10_guessed_118 : decode cX10_guessed 118 = .ok (.getfield 117, 3) := by decide +kernel
theorem dX10_guessed_121 : decode cX10_guessed 121 = .ok (.aload_n 0, 1) := by decide +kernel
theorem dX10_guessed_122 : decode cX10_guessed 122 = .ok (.getfield 19, 3) := by decide +kernel
theorem dX10_guessed_125 : decode cX10_guessed 125 = .ok (.getfield 117, 3) := by decide +kernel
theorem dX10_guessed_128 : decode cX10_guessed 128 = .ok (.invokevirtual 150, 3) := by decide +kernel
theorem dX10_guessed_131 : decode cX10_guessed 131 = .ok (.ifCond .eq 10, 3) := by decide +kernel
theorem dX10_guessed_134 : decode cX10_guessed 134 = .ok (.iload_n 3, 1) := by decide +kernel
theorem dX10_guessed_135 : decode cX10_guessed 135 = .ok (.iconst 1, 1) := by decide +kernel
theorem dX10_guessed_136 : decode cX10_guessed 136 = .ok (.iload 4, 2) := by decide +kernel
theorem dX10_guessed_138 : decode cX10_guessed 138 = .ok (.ishl, 1) := by decide +kernel
theorem dX10_guessed_139 : decode cX10_guessed 139 = .ok (.ior, 1) := by decide +kernel
theorem dX10_guessed_140 : decode cX10_guessed 140 = .ok (.istore_n 3, 1) := by decide +kernel
theorem dX10_guessed_141 : decode cX10_guessed 141 = .ok (.iinc 4 1, 3) := by decide +kernel
theorem dX10_guessed_144 : decode cX10_guessed 144 = .ok (.goto (-93), 3) := by decide +kernel
theorem dX10_guessed_147 : decode cX10_guessed 147 = .ok (.iload_n 3, 1) := by decide +kernel
theorem dX10_guessed_148 : decode cX10_guessed 148 = .ok (.ireturn, 1) := by decide +kernel
theorem dX10_spiral_0 : decode cX10_spiral 0 = .ok (.iload_n 1, 1) := by decide +kernel
theorem dX10_spiral_1 : decode cX10_spiral 1 = .ok (.iconst 1, 1) := by decide +kernel
theorem dX10_spiral_2 : decode cX10_spiral 2 = .ok (.bipush 9, 2) := by decide +kernel
theorem dX10_spiral_4 : decode cX10_spiral 4 = .ok (.invokestatic 65, 3) := by decide +kernel
theorem dX10_spiral_7 : decode cX10_spiral 7 = .ok (.ifCond .eq 25, 3) := by decide +kernel
theorem dX10_spiral_10 : decode cX10_spiral 10 = .ok (.iload_n 2, 1) := by decide +kernel
theorem dX10_spiral_11 : decode cX10_spiral 11 = .ok (.iconst 0, 1) := by decide +kernel
theorem dX10_spiral_12 : decode cX10_spiral 12 = .ok (.getstatic 69, 3) := by decide +kernel
theorem dX10_spiral_15 : decode cX10_spiral 15 = .ok (.iconst 4, 1) := by decide +kernel
theorem dX10_spiral_16 : decode cX10_spiral 16 = .ok (.iaload, 1) := by decide +kernel
theorem dX10_spiral_17 : decode cX10_spiral 17 = .ok (.invokestatic 65, 3) := by decide +kernel
theorem dX10_spiral_20 : decode cX10_spiral 20 = .ok (.ifCond .eq 12, 3) := by decide +kernel
theorem dX10_spiral_23 : decode cX10_spiral 23 = .ok (.iload_n 3, 1) := by decide +kernel
theorem dX10_spiral_24 : decode cX10_spiral 24 = .ok (.iconst 0, 1) := by decide +kernel
theorem dX10_spiral_25 : decode cX10_spiral 25 = .ok (.iconst 1, 1) := by decide +kernel
theorem dX10_spiral_26 : decode cX10_spiral 26 = .ok (.invokestatic 65, 3) := by decide +kernel
theorem dX10_spiral_29 : decode cX10_spiral 29 = .ok (.ifCond .ne 6, 3) := by decide +kernel
theorem dX10_spiral_32 : decode cX10_spiral 32 = .ok (.bipush (-2), 2) := by decide +kernel
theorem dX10_spiral_34 : decode cX10_spiral 34 = .ok (.ireturn, 1) := by decide +kernel
theorem dX10_spiral_35 : decode cX10_spiral 35 = .ok (.iconst 1, 1) := by decide +kernel
theorem dX10_spiral_36 : decode cX10_spiral 36 = .ok (.iload_n 2, 1) := by decide +kernel
theorem dX10_spiral_37 : decode cX10_spiral 37 = .ok (.iadd, 1) := by decide +kernel
theorem dX10_spiral_38 : decode cX10_spiral 38 = .ok (.iconst 2, 1) := by decide +kernel
theorem dX10_spiral_39 : decode cX10_spiral 39 = .ok (.isub, 1) := by decide +kernel
theorem dX10_spiral_40 : decode cX10_spiral 40 = .ok (.istore 4, 2) := by decide +kernel
theorem dX10_spiral_42 : decode cX10_spiral 42 = .ok (.iload 4, 2) := by decide +kernel
theorem dX10_spiral_44 : decode cX10_spiral 44 = .ok (.ifCond .ne 6, 3) := by decide +kernel
theorem dX10_spiral_47 : decode cX10_spiral 47 = .ok (.bipush (-6), 2) := by decide +kernel
theorem dX10_spiral_49 : decode cX10_spiral 49 = .ok (.ireturn, 1) := by decide +kernel
theorem dX10_spiral_50 : decode cX10_spiral 50 = .ok (.iload 4, 2) := by decide +kernel
theorem dX10_spiral_52 : decode cX10_spiral 52 = .ok (.invokestatic 154, 3) := by decide +kernel
theorem dX10_spiral_55 : decode cX10_spiral 55 = .ok (.istore 5, 2) := by decide +kernel
theorem dX10_spiral_57 : decode cX10_spiral 57 = .ok (.iload_n 3, 1) := by decide +kernel
theorem dX10_spiral_58 : decode cX10_spiral 58 = .ok (.ifCond .ne 8, 3) := by decide +kernel
theorem dX10_spiral_61 : decode cX10_spiral 61 = .ok (.iload 5, 2) := by decide +kernel
theorem dX10_spiral_63 : decode cX10_spiral 63 = .ok (.goto 15, 3) := by decide +kernel
theorem dX10_spiral_66 : decode cX10_spiral 66 = .ok (.aload_n 0, 1) := by decide +kernel
theorem dX10_spiral_67 : decode cX10_spiral 67 = .ok (.getfield 54, 3) := by decide +kernel
theorem dX10_spiral_70 : decode cX10_spiral 70 = .ok (.iload_n 1, 1) := by decide +kernel
theorem dX10_spiral_71 : decode cX10_spiral 71 = .ok (.iload 4, 2) := by decide +kernel
theorem dX10_spiral_73 : decode cX10_spiral 73 = .ok (.iload 5, 2) := by decide +kernel
theorem dX10_spiral_75 : decode cX10_spiral 75 = .ok (.invokevirtual 157, 3) := by decide +kernel
theorem dX10_spiral_78 : decode cX10_spiral 78 = .ok (.ireturn, 1) := by decide +kernel
theorem dX10_bells_0 : decode cX10_bells 0 = .ok (.iload_n 1, 1) := by decide +kernel
theorem dX10_bells_1 : decode cX10_bells 1 = .ok (.iconst 0, 1) := by decide +kernel
theorem dX10_bells_2 : decode cX10_bells 2 = .ok (.iconst 2, 1) := by decide +kernel
theorem dX10_bells_3 : decode cX10_bells 3 = .ok (.invokestatic 65, 3) := by decide +kernel
theorem dX10_bells_6 : decode cX10_bells 6 = .ok (.ifCond .eq 12, 3) := by decide +kernel
theorem dX10_bells_9 : decode cX10_bells 9 = .ok (.iload_n 2, 1) := by decide +kernel
theorem dX10_bells_10 : decode cX10_bells 10 = .ok (.iconst 0, 1) := by decide +kernel
theorem dX10_bells_11 : decode cX10_bells 11 = .ok (.iconst 2, 1) := by decide +kernel
theorem dX10_bells_12 : decode cX10_bells 12 = .ok (.invokestatic 65, 3) := by decide +kernel
theorem dX10_bells_15 : decode cX10_bells 15 = .ok (.ifCond .ne 6, 3) := by decide +kernel
theorem dX10_bells_18 : decode cX10_bells 18 = .ok (.bipush (-2), 2) := by decide +kernel
theorem dX10_bells_20 : decode cX10_bells 20 = .ok (.ireturn, 1) := by decide +kernel
theorem dX10_bells_21 : decode cX10_bells 21 = .ok (.aload_n 0, 1) := by decide +kernel
theorem dX10_bells_22 : decode cX10_bells 22 = .ok (.getfield 10, 3) := by decide +kernel
theorem dX10_bells_25 : decode cX10_bells 25 = .ok (.invokevirtual 113, 3) := by decide +kernel
theorem dX10_bells_28 : decode cX10_bells 28 = .ok (.bipush (-6), 2) := by decide +kernel
theorem dX10_bells_30 : decode cX10_bells 30 = .ok (.if_icmp .eq 6, 3) := by decide +kernel
theorem dX10_bells_33 : decode cX10_bells 33 = .ok (.bipush (-5), 2) := by decide +kernel
theorem dX10_bells_35 : decode cX10_bells 35 = .ok (.ireturn, 1) := by decide +kernel
theorem dX10_bells_36 : decode cX10_bells 36 = .ok (.iload_n 2, 1) := by decide +kernel
theorem dX10_bells_37 : decode cX10_bells 37 = .ok (.iload_n 1, 1) := by decide +kernel
theorem dX10_bells_38 : decode cX10_bells 38 = .ok (.if_icmp .le 6, 3) := by decide +kernel
theorem dX10_bells_41 : decode cX10_bells 41 = .ok (.bipush (-6), 2) := by decide +kernel
theorem dX10_bells_43 : decode cX10_bells 43 = .ok (.ireturn, 1) := by decide +kernel
theorem dX10_bells_44 : decode cX10_bells 44 = .ok (.aload_n 0, 1) := by decide +kernel
theorem dX10_bells_45 : decode cX10_bells 45 = .ok (.getfield 40, 3) := by decide +kernel
theorem dX10_bells_48 : decode cX10_bells 48 = .ok (.iload_n 1, 1) := by decide +kernel
theorem dX10_bells_49 : decode cX10_bells 49 = .ok (.aload_n 0, 1) := by decide +kernel
theorem dX10_bells_50 : decode cX10_bells 50 = .ok (.getfield 19, 3) := by decide +kernel
theorem dX10_bells_53 : decode cX10_bells 53 = .ok (.aload_n 0, 1) := by decide +kernel
theorem dX10_bells_54 : decode cX10_bells 54 = .ok (.getfield 10, 3) := by decide +kernel
theorem dX10_bells_57 : decode cX10_bells 57 = .ok (.invokevirtual 161, 3) := by decide +kernel
theorem dX10_bells_60 : decode cX10_bells 60 = .ok (.iload_n 2, 1) := by decide +kernel
theorem dX10_bells_61 : decode cX10_bells 61 = .ok (.ifCond .ne 23, 3) := by decide +kernel
theorem dX10_bells_64 : decode cX10_bells 64 = .ok (.aload_n 0, 1) := by decide +kernel
theorem dX10_bells_65 : decode cX10_bells 65 = .ok (.getfield 19, 3) := by decide +kernel
theorem dX10_bells_68 : decode cX10_bells 68 = .ok (.getfield 117, 3) := by decide +kernel
theorem dX10_bells_71 : decode cX10_bells 71 = .ok (.iconst (-1), 1) := by decide +kernel
theorem dX10_bells_72 : decode cX10_bells 72 = .ok (.invokevirtual 137, 3) := by decide +kernel
theorem dX10_bells_75 : decode cX10_bells 75 = .ok (.aload_n 0, 1) := by decide +kernel
theorem dX10_bells_76 : decode cX10_bells 76 = .ok (.getfield 40, 3) := by decide +kernel
theorem dX10_bells_79 : decode cX10_bells 79 = .ok (.getfield 165, 3) := by decide +kernel
theorem dX10_bells_82 : decode cX10_bells 82 = .ok (.iadd, 1) := by decide +kernel
theorem dX10_bells_83 : decode cX10_bells 83 = .ok (.ireturn, 1) := by decide +kernel
theorem dX10_bells_84 : decode cX10_bells 84 = .ok (.iload_n 2, 1) := by decide +kernel
theorem dX10_bells_85 : decode cX10_bells 85 = .ok (.iconst 1, 1) := by decide +kernel
theorem dX10_bells_86 : decode cX10_bells 86 = .ok (.if_icmp .ne 13, 3) := by decide +kernel
theorem dX10_bells_89 : decode cX10_bells 89 = .ok (.aload_n 0, 1) := by decide +kernel
theorem dX10_bells_90 : decode cX10_bells 90 = .ok (.getfield 40, 3) := by decide +kernel
theorem dX10_bells_93 : decode cX10_bells 93 = .ok (.getfield 168, 3) := by decide +kernel
theorem dX10_bells_96 : decode cX10_bells 96 = .ok (.goto 10, 3) := by decide +kernel
theorem dX10_bells_99 : decode cX10_bells 99 = .ok (.aload_n 0, 1) := by decide +kernel
theorem dX10_bells_100 : decode cX10_bells 100 = .ok (.getfield 40, 3) := by decide +kernel
theorem dX10_bells_103 : decode cX10_bells 103 = .ok (.getfield 171, 3) := by decide +kernel
theorem dX10_bells_106 : decode cX10_bells 106 = .ok (.ireturn, 1) := by decide +kernel
theorem dX10_thief_0 : decode cX10_thief 0 = .ok (.iload_n 1, 1) := by decide +kernel
theorem dX10_thief_1 : decode cX10_thief 1 = .ok (.invokestatic 93, 3) := by decide +kernel
theorem dX10_thief_4 : decode cX10_thief 4 = .ok (.ifCond .eq 19, 3) := by decide +kernel
theorem dX10_thief_7 : decode cX10_thief 7 = .ok (.iload_n 2, 1) := by decide +kernel
theorem dX10_thief_8 : decode cX10_thief 8 = .ok (.invokestatic 174, 3) := by decide +kernel
theorem dX10_thief_11 : decode cX10_thief 11 = .ok (.ifCond .eq 12, 3) := by decide +kernel
theorem dX10_thief_14 : decode cX10_thief 14 = .ok (.iload_n 3, 1) := by decide +kernel
theorem dX10_thief_15 : decode cX10_thief 15 = .ok (.iconst 0, 1) := by decide +kernel
theorem dX10_thief_16 : decode cX10_thief 16 = .ok (.iconst 2, 1) := by decide +kernel
theorem dX10_thief_17 : decode cX10_thief 17 = .ok (.invokestatic 65, 3) := by decide +kernel
theorem dX10_thief_20 : decode cX10_thief 20 = .ok (.ifCond .ne 6, 3) := by decide +kernel
theorem dX10_thief_23 : decode cX10_thief 23 = .ok (.bipush (-2), 2) := by decide +kernel
theorem dX10_thief_25 : decode cX10_thief 25 = .ok (.ireturn, 1) := by decide +kernel
theorem dX10_thief_26 : decode cX10_thief 26 = .ok (.aload_n 0, 1) := by decide +kernel
theorem dX10_thief_27 : decode cX10_thief 27 = .ok (.getfield 47, 3) := by decide +kernel
theorem dX10_thief_30 : decode cX10_thief 30 = .ok (.aload_n 0, 1) := by decide +kernel
theorem dX10_thief_31 : decode cX10_thief 31 = .ok (.getfield 19, 3) := by decide +kernel
theorem dX10_thief_34 : decode cX10_thief 34 = .ok (.iload_n 1, 1) := by decide +kernel
theorem dX10_thief_35 : decode cX10_thief 35 = .ok (.iload_n 2, 1) := by decide +kernel
theorem dX10_thief_36 : decode cX10_thief 36 = .ok (.invokevirtual 177, 3) := by decide +kernel
theorem dX10_thief_39 : decode cX10_thief 39 = .ok (.iload_n 3, 1) := by decide +kernel
theorem dX10_thief_40 : decode cX10_thief 40 = .ok (.ifCond .ne 11, 3) := by decide +kernel
theorem dX10_thief_43 : decode cX10_thief 43 = .ok (.aload_n 0, 1) := by decide +kernel
theorem dX10_thief_44 : decode cX10_thief 44 = .ok (.getfield 47, 3) := by decide +kernel
theorem dX10_thief_47 : decode cX10_thief 47 = .ok (.getfield 181, 3) := by decide +kernel
theorem dX10_thief_50 : decode cX10_thief 50 = .ok (.ireturn, 1) := by decide +kernel
theorem dX10_thief_51 : decode cX10_thief 51 = .ok (.iload_n 3, 1) := by decide +kernel
theorem dX10_thief_52 : decode cX10_thief 52 = .ok (.iconst 1, 1) := by decide +kernel
theorem dX10_thief_53 : decode cX10_thief 53 = .ok (.if_icmp .ne 13, 3) := by decide +kernel
theorem dX10_thief_56 : decode cX10_thief 56 = .ok (.aload_n 0, 1) := by decide +kernel
theorem dX10_thief_57 : decode cX10_thief 57 = .ok (.getfield 47, 3) := by decide +kernel
theorem dX10_thief_60 : decode cX10_thief 60 = .ok (.getfield 184, 3) := by decide +kernel
theorem dX10_thief_63 : decode cX10_thief 63 = .ok (.goto 10, 3) := by decide +kernel
theorem dX10_thief_66 : decode cX10_thief 66 = .ok (.aload_n 0, 1) := by decide +kernel
theorem dX10_thief_67 : decode cX10_thief 67 = .ok (.getfield 47, 3) := by decide +kernel
theorem dX10_thief_70 : decode cX10_thief 70 = .ok (.getfield 187, 3) := by decide +kernel
theorem dX10_thief_73 : decode cX10_thief 73 = .ok (.ireturn, 1) := by decide +kernel
theorem dX10_safest_0 : decode cX10_safest 0 = .ok (.iload_n 1, 1) := by decide +kernel
theorem dX10_safest_1 : decode cX10_safest 1 = .ok (.iconst 0, 1) := by decide +kernel
theorem dX10_safest_2 : decode cX10_safest 2 = .ok (.iconst 2, 1) := by decide +kernel
theorem dX10_safest_3 : decode cX10_safest 3 = .ok (.invokestatic 65, 3) := by decide +kernel
theorem dX10_safest_6 : decode cX10_safest 6 = .ok (.ifCond .ne 6, 3) := by decide +kernel
theorem dX10_safest_9 : decode cX10_safest 9 = .ok (.bipush (-2), 2) := by decide +kernel
theorem dX10_safest_11 : decode cX10_safest 11 = .ok (.ireturn, 1) := by decide +kernel
theorem dX10_safest_12 : decode cX10_safest 12 = .ok (.bipush (-6), 2) := by decide +kernel
theorem dX10_safest_14 : decode cX10_safest 14 = .ok (.istore_n 2, 1) := by decide +kernel
theorem dX10_safest_15 : decode cX10_safest 15 = .ok (.bipush (-6), 2) := by decide +kernel
theorem dX10_safest_17 : decode cX10_safest 17 = .ok (.istore_n 3, 1) := by decide +kernel
theorem dX10_safest_18 : decode cX10_safest 18 = .ok (.bipush (-6), 2) := by decide +kernel
theorem dX10_safest_20 : decode cX10_safest 20 = .ok (.istore 4, 2) := by decide +kernel
theorem dX10_safest_22 : decode cX10_safest 22 = .ok (.iconst 0, 1) := by decide +kernel
theorem dX10_safest_23 : decode cX10_safest 23 = .ok (.istore 5, 2) := by decide +kernel
theorem dX10_safest_25 : decode cX10_safest 25 = .ok (.iload 5, 2) := by decide +kernel
theorem dX10_safest_27 : decode cX10_safest 27 = .ok (.bipush 64, 2) := by decide +kernel
theorem dX10_safest_29 : decode cX10_safest 29 = .ok (.if_icmp .ge 74, 3) := by decide +kernel
theorem dX10_safest_32 : decode cX10_safest 32 = .ok (.iconst 0, 1) := by decide +kernel
theorem dX10_safest_33 : decode cX10_safest 33 = .ok (.istore 6, 2) := by decide +kernel
theorem dX10_safest_35 : decode cX10_safest 35 = .ok (.iload 6, 2) := by decide +kernel
theorem dX10_safest_37 : decode cX10_safest 37 = .ok (.bipush 8, 2) := by decide +kernel
theorem dX10_safest_39 : decode cX10_safest 39 = .ok (.if_icmp .ge 58, 3) := by decide +kernel
theorem dX10_safest_42 : decode cX10_safest 42 = .ok (.iload 5, 2) := by decide +kernel
theorem dX10_safest_44 : decode cX10_safest 44 = .ok (.invokestatic 190, 3) := by decide +kernel
theorem dX10_safest_47 : decode cX10_safest 47 = .ok (.ifCond .eq 50, 3) := by decide +kernel
theorem dX10_safest_50 : decode cX10_safest 50 = .ok (.aload_n 0, 1) := by decide +kernel
theorem dX10_safest_51 : decode cX10_safest 51 = .ok (.getfield 47, 3) := by decide +kernel
theorem dX10_safest_54 : decode cX10_safest 54 = .ok (.aload_n 0, 1) := by decide +kernel
theorem dX10_safest_55 : decode cX10_safest 55 = .ok (.getfield 19, 3) := by decide +kernel
theorem dX10_safest_58 : decode cX10_safest 58 = .ok (.iload 5, 2) := by decide +kernel
theorem dX10_safest_60 : decode cX10_safest 60 = .ok (.iload 6, 2) := by decide +kernel
theorem dX10_safest_62 : decode cX10_safest 62 = .ok (.invokevirtual 177, 3) := by decide +kernel
theorem dX10_safest_65 : decode cX10_safest 65 = .ok (.aload_n 0, 1) := by decide +kernel
theorem dX10_safest_66 : decode cX10_safest 66 = .ok (.getfield 47, 3) := by decide +kernel
theorem dX10_safest_69 : decode cX10_safest 69 = .ok (.getfield 187, 3) := by decide +kernel
theorem dX10_safest_72 : decode cX10_safest 72 = .ok (.iload_n 2, 1) := by decide +kernel
theorem dX10_safest_73 : decode cX10_safest 73 = .ok (.if_icmp .le 18, 3) := by decide +kernel
theorem dX10_safest_76 : decode cX10_safest 76 = .ok (.aload_n 0, 1) := by decide +kernel
theorem dX10_safest_77 : decode cX10_safest 77 = .ok (.getfield 47, 3) := by decide +kernel
theorem dX10_safest_80 : decode cX10_safest 80 = .ok (.getfield 187, 3) := by decide +kernel
theorem dX10_safest_83 : decode cX10_safest 83 = .ok (.istore_n 2, 1) := by decide +kernel
theorem dX10_safest_84 : decode cX10_safest 84 = .ok (.iload 5, 2) := by decide +kernel
theorem dX10_safest_86 : decode cX10_safest 86 = .ok (.istore_n 3, 1) := by decide +kernel
theorem dX10_safest_87 : decode cX10_safest 87 = .ok (.iload 6, 2) := by decide +kernel
theorem dX10_safest_89 : decode cX10_safest 89 = .ok (.istore 4, 2) := by decide +kernel
theorem dX10_safest_91 : decode cX10_safest 91 = .ok (.iinc 6 1, 3) := by decide +kernel
theorem dX10_safest_94 : decode cX10_safest 94 = .ok (.goto (-59), 3) := by decide +kernel
theorem dX10_safest_97 : decode cX10_safest 97 = .ok (.iinc 5 1, 3) := by decide +kernel
theorem dX10_safest_100 : decode cX10_safest 100 = .ok (.goto (-75), 3) := by decide +kernel
theorem dX10_safest_103 : decode cX10_safest 103 = .ok (.iload_n 1, 1) := by decide +kernel
theorem dX10_safest_104 : decode cX10_safest 104 = .ok (.ifCond .ne 5, 3) := by decide +kernel
theorem dX10_safest_107 : decode cX10_safest 107 = .ok (.iload_n 2, 1) := by decide +kernel
theorem dX10_safest_108 : decode cX10_safest 108 = .ok (.ireturn, 1) := by decide +kernel
theorem dX10_safest_109 : decode cX10_safest 109 = .ok (.iload_n 1, 1) := by decide +kernel
theorem dX10_safest_110 : decode cX10_safest 110 = .ok (.iconst 1, 1) := by decide +kernel
theorem dX10_safest_111 : decode cX10_safest 111 = .ok (.if_icmp .ne 7, 3) := by decide +kernel
theorem dX10_safest_114 : decode cX10_safest 114 = .ok (.iload_n 3, 1) := by decide +kernel
theorem dX10_safest_115 : decode cX10_safest 115 = .ok (.goto 5, 3) := by decide +kernel
theorem dX10_safest_118 : decode cX10_safest 118 = .ok (.iload 4, 2) := by decide +kernel
theorem dX10_safest_120 : decode cX10_safest 120 = .ok (.ireturn, 1) := by decide +kernel
theorem dX10_swap_0 : decode cX10_swap 0 = .ok (.iload_n 1, 1) := by decide +kernel
theorem dX10_swap_1 : decode cX10_swap 1 = .ok (.iload_n 2, 1) := by decide +kernel
theorem dX10_swap_2 : decode cX10_swap 2 = .ok (.invokestatic 193, 3) := by decide +kernel
theorem dX10_swap_5 : decode cX10_swap 5 = .ok (.ifCond .ne 5, 3) := by decide +kernel
theorem dX10_swap_8 : decode cX10_swap 8 = .ok (.iconst (-1), 1) := by decide +kernel
theorem dX10_swap_9 : decode cX10_swap 9 = .ok (.ireturn, 1) := by decide +kernel
theorem dX10_swap_10 : decode cX10_swap 10 = .ok (.aload_n 0, 1) := by decide +kernel
theorem dX10_swap_11 : decode cX10_swap 11 = .ok (.getfield 19, 3) := by decide +kernel
theorem dX10_swap_14 : decode cX10_swap 14 = .ok (.getfield 73, 3) := by decide +kernel
theorem dX10_swap_17 : decode cX10_swap 17 = .ok (.iload_n 1, 1) := by decide +kernel
theorem dX10_swap_18 : decode cX10_swap 18 = .ok (.iload_n 2, 1) := by decide +kernel
theorem dX10_swap_19 : decode cX10_swap 19 = .ok (.invokevirtual 197, 3) := by decide +kernel
theorem dX10_swap_22 : decode cX10_swap 22 = .ok (.iconst 1, 1) := by decide +kernel
theorem dX10_swap_23 : decode cX10_swap 23 = .ok (.ireturn, 1) := by decide +kernel
theorem dX10_found_0 : decode cX10_found 0 = .ok (.iload_n 1, 1) := by decide +kernel
theorem dX10_found_1 : decode cX10_found 1 = .ok (.iload_n 2, 1) := by decide +kernel
theorem dX10_found_2 : decode cX10_found 2 = .ok (.invokestatic 193, 3) := by decide +kernel
theorem dX10_found_5 : decode cX10_found 5 = .ok (.ifCond .ne 5, 3) := by decide +kernel
theorem dX10_found_8 : decode cX10_found 8 = .ok (.iconst (-1), 1) := by decide +kernel
theorem dX10_found_9 : decode cX10_found 9 = .ok (.ireturn, 1) := by decide +kernel
theorem dX10_found_10 : decode cX10_found 10 = .ok (.aload_n 0, 1) := by decide +kernel
theorem dX10_found_11 : decode cX10_found 11 = .ok (.getfield 10, 3) := by decide +kernel
theorem dX10_found_14 : decode cX10_found 14 = .ok (.invokevirtual 113, 3) := by decide +kernel
theorem dX10_found_17 : decode cX10_found 17 = .ok (.bipush (-6), 2) := by decide +kernel
theorem dX10_found_19 : decode cX10_found 19 = .ok (.if_icmp .eq 6, 3) := by decide +kernel
theorem dX10_found_22 : decode cX10_found 22 = .ok (.bipush (-5), 2) := by decide +kernel
theorem dX10_found_24 : decode cX10_found 24 = .ok (.ireturn, 1) := by decide +kernel
theorem dX10_found_25 : decode cX10_found 25 = .ok (.aload_n 0, 1) := by decide +kernel
theorem dX10_found_26 : decode cX10_found 26 = .ok (.getfield 31, 3) := by decide +kernel
theorem dX10_found_29 : decode cX10_found 29 = .ok (.aload_n 0, 1) := by decide +kernel
theorem dX10_found_30 : decode cX10_found 30 = .ok (.getfield 19, 3) := by decide +kernel
theorem dX10_found_33 : decode cX10_found 33 = .ok (.invokevirtual 146, 3) := by decide +kernel
theorem dX10_found_36 : decode cX10_found 36 = .ok (.aload_n 0, 1) := by decide +kernel
theorem dX10_found_37 : decode cX10_found 37 = .ok (.getfield 34, 3) := by decide +kernel
theorem dX10_found_40 : decode cX10_found 40 = .ok (.aload_n 0, 1) := by decide +kernel
theorem dX10_found_41 : decode cX10_found 41 = .ok (.getfield 19, 3) := by decide +kernel
theorem dX10_found_44 : decode cX10_found 44 = .ok (.invokevirtual 146, 3) := by decide +kernel
theorem dX10_found_47 : decode cX10_found 47 = .ok (.aload_n 0, 1) := by decide +kernel
theorem dX10_found_48 : decode cX10_found 48 = .ok (.getfield 34, 3) := by decide +kernel
theorem dX10_found_51 : decode cX10_found 51 = .ok (.getfield 73, 3) := by decide +kernel
theorem dX10_found_54 : decode cX10_found 54 = .ok (.iload_n 1, 1) := by decide +kernel
theorem dX10_found_55 : decode cX10_found 55 = .ok (.iload_n 2, 1) := by decide +kernel
theorem dX10_found_56 : decode cX10_found 56 = .ok (.invokevirtual 197, 3) := by decide +kernel
theorem dX10_found_59 : decode cX10_found 59 = .ok (.aload_n 0, 1) := by decide +kernel
theorem dX10_found_60 : decode cX10_found 60 = .ok (.getfield 31, 3) := by decide +kernel
theorem dX10_found_63 : decode cX10_found 63 = .ok (.getfield 73, 3) := by decide +kernel
theorem dX10_found_66 : decode cX10_found 66 = .ok (.bipush (-6), 2) := by decide +kernel
theorem dX10_found_68 : decode cX10_found 68 = .ok (.putfield 200, 3) := by decide +kernel
theorem dX10_found_71 : decode cX10_found 71 = .ok (.aload_n 0, 1) := by decide +kernel
theorem dX10_found_72 : decode cX10_found 72 = .ok (.getfield 34, 3) := by decide +kernel
theorem dX10_found_75 : decode cX10_found 75 = .ok (.getfield 73, 3) := by decide +kernel
theorem dX10_found_78 : decode cX10_found 78 = .ok (.bipush (-6), 2) := by decide +kernel
theorem dX10_found_80 : decode cX10_found 80 = .ok (.putfield 200, 3) := by decide +kernel
theorem dX10_found_83 : decode cX10_found 83 = .ok (.iconst 0, 1) := by decide +kernel
theorem dX10_found_84 : decode cX10_found 84 = .ok (.istore_n 3, 1) := by decide +kernel
theorem dX10_found_85 : decode cX10_found 85 = .ok (.iconst 0, 1) := by decide +kernel
theorem dX10_found_86 : decode cX10_found 86 = .ok (.istore 4, 2) := by decide +kernel
theorem dX10_found_88 : decode cX10_found 88 = .ok (.iload 4, 2) := by decide +kernel
theorem dX10_found_90 : decode cX10_found 90 = .ok (.aload_n 0, 1) := by decide +kernel
theorem dX10_found_91 : decode cX10_found 91 = .ok (.getfield 10, 3) := by decide +kernel
theorem dX10_found_94 : decode cX10_found 94 = .ok (.getfield 107, 3) := by decide +kernel
theorem dX10_found_97 : decode cX10_found 97 = .ok (.if_icmp .ge 95, 3) := by decide +kernel
theorem dX10_found_100 : decode cX10_found 100 = .ok (.aload_n 0, 1) := by decide +kernel
theorem dX10_found_101 : decode cX10_found 101 = .ok (.getfield 10, 3) := by decide +kernel
theorem dX10_found_104 : decode cX10_found 104 = .ok (.iload 4, 2) := by decide +kernel
theorem dX10_found_106 : decode cX10_found 106 = .ok (.invokevirtual 203, 3) := by decide +kernel
theorem dX10_found_109 : decode cX10_found 109 = .ok (.ifCond .ne 6, 3) := by decide +kernel
theorem dX10_found_112 : decode cX10_found 112 = .ok (.goto 74, 3) := by decide +kernel
theorem dX10_found_115 : decode cX10_found 115 = .ok (.aload_n 0, 1) := by decide +kernel
theorem dX10_found_116 : decode cX10_found 116 = .ok (.getfield 31, 3) := by decide +kernel
theorem dX10_found_119 : decode cX10_found 119 = .ok (.getfield 73, 3) := by decide +kernel
theorem dX10_found_122 : decode cX10_found 122 = .ok (.aload_n 0, 1) := by decide +kernel
theorem dX10_found_123 : decode cX10_found 123 = .ok (.getfield 10, 3) := by decide +kernel
theorem dX10_found_126 : decode cX10_found 126 = .ok (.iload 4, 2) := by decide +kernel
theorem dX10_found_128 : decode cX10_found 128 = .ok (.aload_n 0, 1) := by decide +kernel
theorem dX10_found_129 : decode cX10_found 129 = .ok (.getfield 31, 3) := by decide +kernel
theorem dX10_found_132 : decode cX10_found 132 = .ok (.getfield 117, 3) := by decide +kernel
theorem dX10_found_135 : decode cX10_found 135 = .ok (.invokevirtual 206, 3) := by decide +kernel
theorem dX10_found_138 : decode cX10_found 138 = .ok (.aload_n 0, 1) := by decide +kernel
theorem dX10_found_139 : decode cX10_found 139 = .ok (.getfield 34, 3) := by decide +kernel
theorem dX10_found_142 : decode cX10_found 142 = .ok (.getfield 73, 3) := by decide +kernel
theorem dX10_found_145 : decode cX10_found 145 = .ok (.aload_n 0, 1) := by decide +kernel
theorem dX10_found_146 : decode cX10_found 146 = .ok (.getfield 10, 3) := by decide +kernel
theorem dX10_found_149 : decode cX10_found 149 = .ok (.iload 4, 2) := by decide +kernel
theorem dX10_found_151 : decode cX10_found 151 = .ok (.aload_n 0, 1) := by decide +kernel
theorem dX10_found_152 : decode cX10_found 152 = .ok (.getfield 34, 3) := by decide +kernel
theorem dX10_found_155 : decode cX10_found 155 = .ok (.getfield 117, 3) := by decide +kernel
theorem dX10_found_158 : decode cX10_found 158 = .ok (.invokevirtual 206, 3) := by decide +kernel
theorem dX10_found_161 : decode cX10_found 161 = .ok (.aload_n 0, 1) := by decide +kernel
theorem dX10_found_162 : decode cX10_found 162 = .ok (.getfield 34, 3) := by decide +kernel
theorem dX10_found_165 : decode cX10_found 165 = .ok (.getfield 117, 3) := by decide +kernel
theorem dX10_found_168 : decode cX10_found 168 = .ok (.aload_n 0, 1) := by decide +kernel
theorem dX10_found_169 : decode cX10_found 169 = .ok (.getfield 31, 3) := by decide +kernel
theorem dX10_found_172 : decode cX10_found 172 = .ok (.getfield 117, 3) := by decide +kernel
theorem dX10_found_175 : decode cX10_found 175 = .ok (.invokevirtual 150, 3) := by decide +kernel
theorem dX10_found_178 : decode cX10_found 178 = .ok (.ifCond .ne 5, 3) := by decide +kernel
theorem dX10_found_181 : decode cX10_found 181 = .ok (.iload_n 3, 1) := by decide +kernel
theorem dX10_found_182 : decode cX10_found 182 = .ok (.ireturn, 1) := by decide +kernel
theorem dX10_found_183 : decode cX10_found 183 = .ok (.iinc 3 1, 3) := by decide +kernel
theorem dX10_found_186 : decode cX10_found 186 = .ok (.iinc 4 1, 3) := by decide +kernel
theorem dX10_found_189 : decode cX10_found 189 = .ok (.goto (-101), 3) := by decide +kernel
theorem dX10_found_192 : decode cX10_found 192 = .ok (.bipush (-6), 2) := by decide +kernel
theorem dX10_found_194 : decode cX10_found 194 = .ok (.ireturn, 1) := by decide +kernel
theorem dX10_over_0 : decode cX10_over 0 = .ok (.iload_n 1, 1) := by decide +kernel
theorem dX10_over_1 : decode cX10_over 1 = .ok (.invokestatic 125, 3) := by decide +kernel
theorem dX10_over_4 : decode cX10_over 4 = .ok (.ifCond .ne 5, 3) := by decide +kernel
theorem dX10_over_7 : decode cX10_over 7 = .ok (.iconst (-1), 1) := by decide +kernel
theorem dX10_over_8 : decode cX10_over 8 = .ok (.ireturn, 1) := by decide +kernel
theorem dX10_over_9 : decode cX10_over 9 = .ok (.iload_n 2, 1) := by decide +kernel
theorem dX10_over_10 : decode cX10_over 10 = .ok (.iconst 0, 1) := by decide +kernel
theorem dX10_over_11 : decode cX10_over 11 = .ok (.bipush 7, 2) := by decide +kernel
theorem dX10_over_13 : decode cX10_over 13 = .ok (.invokestatic 65, 3) := by decide +kernel
theorem dX10_over_16 : decode cX10_over 16 = .ok (.ifCond .ne 6, 3) := by decide +kernel
theorem dX10_over_19 : decode cX10_over 19 = .ok (.bipush (-2), 2) := by decide +kernel
theorem dX10_over_21 : decode cX10_over 21 = .ok (.ireturn, 1) := by decide +kernel
theorem dX10_over_22 : decode cX10_over 22 = .ok (.aload_n 0, 1) := by decide +kernel
theorem dX10_over_23 : decode cX10_over 23 = .ok (.getfield 19, 3) := by decide +kernel
theorem dX10_over_26 : decode cX10_over 26 = .ok (.getfield 117, 3) := by decide +kernel
theorem dX10_over_29 : decode cX10_over 29 = .ok (.iload_n 2, 1) := by decide +kernel
theorem dX10_over_30 : decode cX10_over 30 = .ok (.iload_n 1, 1) := by decide +kernel
theorem dX10_over_31 : decode cX10_over 31 = .ok (.invokevirtual 210, 3) := by decide +kernel
theorem dX10_over_34 : decode cX10_over 34 = .ok (.istore_n 3, 1) := by decide +kernel
theorem dX10_over_35 : decode cX10_over 35 = .ok (.iload_n 1, 1) := by decide +kernel
theorem dX10_over_36 : decode cX10_over 36 = .ok (.iconst (-1), 1) := by decide +kernel
theorem dX10_over_37 : decode cX10_over 37 = .ok (.if_icmp .eq 5, 3) := by decide +kernel
theorem dX10_over_40 : decode cX10_over 40 = .ok (.iload_n 3, 1) := by decide +kernel
theorem dX10_over_41 : decode cX10_over 41 = .ok (.ireturn, 1) := by decide +kernel
theorem dX10_over_42 : decode cX10_over 42 = .ok (.iconst 3, 1) := by decide +kernel
theorem dX10_over_43 : decode cX10_over 43 = .ok (.iload_n 3, 1) := by decide +kernel
theorem dX10_over_44 : decode cX10_over 44 = .ok (.bipush 10, 2) := by decide +kernel
theorem dX10_over_46 : decode cX10_over 46 = .ok (.idiv, 1) := by decide +kernel
theorem dX10_over_47 : decode cX10_over 47 = .ok (.imul, 1) := by decide +kernel
theorem dX10_over_48 : decode cX10_over 48 = .ok (.aload_n 0, 1) := by decide +kernel
theorem dX10_over_49 : decode cX10_over 49 = .ok (.getfield 19, 3) := by decide +kernel
theorem dX10_over_52 : decode cX10_over 52 = .ok (.getfield 117, 3) := by decide +kernel
theorem dX10_over_55 : decode cX10_over 55 = .ok (.invokevirtual 213, 3) := by decide +kernel
theorem dX10_over_58 : decode cX10_over 58 = .ok (.iload_n 3, 1) := by decide +kernel
theorem dX10_over_59 : decode cX10_over 59 = .ok (.isub, 1) := by decide +kernel
theorem dX10_over_60 : decode cX10_over 60 = .ok (.invokestatic 216, 3) := by decide +kernel
theorem dX10_over_63 : decode cX10_over 63 = .ok (.ireturn, 1) := by decide +kernel
theorem dX10_fruit_0 : decode cX10_fruit 0 = .ok (.iload_n 1, 1) := by decide +kernel
theorem dX10_fruit_1 : decode cX10_fruit 1 = .ok (.invokestatic 62, 3) := by decide +kernel
theorem dX10_fruit_4 : decode cX10_fruit 4 = .ok (.ifCond .ne 5, 3) := by decide +kernel
theorem dX10_fruit_7 : decode cX10_fruit 7 = .ok (.iconst (-1), 1) := by decide +kernel
theorem dX10_fruit_8 : decode cX10_fruit 8 = .ok (.ireturn, 1) := by decide +kernel
theorem dX10_fruit_9 : decode cX10_fruit 9 = .ok (.iload_n 2, 1) := by decide +kernel
theorem dX10_fruit_10 : decode cX10_fruit 10 = .ok (.iconst 1, 1) := by decide +kernel
theorem dX10_fruit_11 : decode cX10_fruit 11 = .ok (.bipush 9, 2) := by decide +kernel
theorem dX10_fruit_13 : decode cX10_fruit 13 = .ok (.invokestatic 65, 3) := by decide +kernel
theorem dX10_fruit_16 : decode cX10_fruit 16 = .ok (.ifCond .ne 6, 3) := by decide +kernel
theorem dX10_fruit_19 : decode cX10_fruit 19 = .ok (.bipush (-2), 2) := by decide +kernel
theorem dX10_fruit_21 : decode cX10_fruit 21 = .ok (.ireturn, 1) := by decide +kernel
theorem dX10_fruit_22 : decode cX10_fruit 22 = .ok (.aload_n 0, 1) := by decide +kernel
theorem dX10_fruit_23 : decode cX10_fruit 23 = .ok (.getfield 19, 3) := by decide +kernel
theorem dX10_fruit_26 : decode cX10_fruit 26 = .ok (.getfield 221, 3) := by decide +kernel
theorem dX10_fruit_29 : decode cX10_fruit 29 = .ok (.iload_n 1, 1) := by decide +kernel
theorem dX10_fruit_30 : decode cX10_fruit 30 = .ok (.iaload, 1) := by decide +kernel
theorem dX10_fruit_31 : decode cX10_fruit 31 = .ok (.istore_n 3, 1) := by decide +kernel
theorem dX10_fruit_32 : decode cX10_fruit 32 = .ok (.aload_n 0, 1) := by decide +kernel
theorem dX10_fruit_33 : decode cX10_fruit 33 = .ok (.getfield 19, 3) := by decide +kernel
theorem dX10_fruit_36 : decode cX10_fruit 36 = .ok (.getfield 221, 3) := by decide +kernel
theorem dX10_fruit_39 : decode cX10_fruit 39 = .ok (.iload_n 1, 1) := by decide +kernel
theorem dX10_fruit_40 : decode cX10_fruit 40 = .ok (.iload_n 2, 1) := by decide +kernel
theorem dX10_fruit_41 : decode cX10_fruit 41 = .ok (.iastore, 1) := by decide +kernel
theorem dX10_fruit_42 : decode cX10_fruit 42 = .ok (.iload_n 3, 1) := by decide +kernel
theorem dX10_fruit_43 : decode cX10_fruit 43 = .ok (.ireturn, 1) := by decide +kernel
theorem dX10_share_0 : decode cX10_share 0 = .ok (.iload_n 1, 1) := by decide +kernel
theorem dX10_share_1 : decode cX10_share 1 = .ok (.iconst (-1), 1) := by decide +kernel
theorem dX10_share_2 : decode cX10_share 2 = .ok (.if_icmp .eq 12, 3) := by decide +kernel
theorem dX10_share_5 : decode cX10_share 5 = .ok (.iload_n 1, 1) := by decide +kernel
theorem dX10_share_6 : decode cX10_share 6 = .ok (.invokestatic 58, 3) := by decide +kernel
theorem dX10_share_9 : decode cX10_share 9 = .ok (.ifCond .ne 5, 3) := by decide +kernel
theorem dX10_share_12 : decode cX10_share 12 = .ok (.iconst (-1), 1) := by decide +kernel
theorem dX10_share_13 : decode cX10_share 13 = .ok (.ireturn, 1) := by decide +kernel
theorem dX10_share_14 : decode cX10_share 14 = .ok (.iload_n 1, 1) := by decide +kernel
theorem dX10_share_15 : decode cX10_share 15 = .ok (.iconst (-1), 1) := by decide +kernel
theorem dX10_share_16 : decode cX10_share 16 = .ok (.if_icmp .ne 13, 3) := by decide +kernel
theorem dX10_share_19 : decode cX10_share 19 = .ok (.aload_n 0, 1) := by decide +kernel
theorem dX10_share_20 : decode cX10_share 20 = .ok (.getfield 19, 3) := by decide +kernel
theorem dX10_share_23 : decode cX10_share 23 = .ok (.invokevirtual 224, 3) := by decide +kernel
theorem dX10_share_26 : decode cX10_share 26 = .ok (.goto 11, 3) := by decide +kernel
theorem dX10_share_29 : decode cX10_share 29 = .ok (.aload_n 0, 1) := by decide +kernel
theorem dX10_share_30 : decode cX10_share 30 = .ok (.getfield 19, 3) := by decide +kernel
theorem dX10_share_33 : decode cX10_share 33 = .ok (.iload_n 1, 1) := by decide +kernel
theorem dX10_share_34 : decode cX10_share 34 = .ok (.invokevirtual 227, 3) := by decide +kernel
theorem dX10_share_37 : decode cX10_share 37 = .ok (.ireturn, 1) := by decide +kernel
theorem dX10_facing_0 : decode cX10_facing 0 = .ok (.iload_n 1, 1) := by decide +kernel
theorem dX10_facing_1 : decode cX10_facing 1 = .ok (.invokestatic 58, 3) := by decide +kernel
theorem dX10_facing_4 : decode cX10_facing 4 = .ok (.ifCond .ne 5, 3) := by decide +kernel
theorem dX10_facing_7 : decode cX10_facing 7 = .ok (.iconst (-1), 1) := by decide +kernel
theorem dX10_facing_8 : decode cX10_facing 8 = .ok (.ireturn, 1) := by decide +kernel
theorem dX10_facing_9 : decode cX10_facing 9 = .ok (.iload_n 2, 1) := by decide +kernel
theorem dX10_facing_10 : decode cX10_facing 10 = .ok (.invokestatic 174, 3) := by decide +kernel
theorem dX10_facing_13 : decode cX10_facing 13 = .ok (.ifCond .ne 6, 3) := by decide +kernel
theorem dX10_facing_16 : decode cX10_facing 16 = .ok (.bipush (-2), 2) := by decide +kernel
theorem dX10_facing_18 : decode cX10_facing 18 = .ok (.ireturn, 1) := by decide +kernel
theorem dX10_facing_19 : decode cX10_facing 19 = .ok (.aload_n 0, 1) := by decide +kernel
theorem dX10_facing_20 : decode cX10_facing 20 = .ok (.getfield 19, 3) := by decide +kernel
theorem dX10_facing_23 : decode cX10_facing 23 = .ok (.getfield 73, 3) := by decide +kernel
theorem dX10_facing_26 : decode cX10_facing 26 = .ok (.getfield 77, 3) := by decide +kernel
theorem dX10_facing_29 : decode cX10_facing 29 = .ok (.iload_n 1, 1) := by decide +kernel
theorem dX10_facing_30 : decode cX10_facing 30 = .ok (.aaload, 1) := by decide +kernel
theorem dX10_facing_31 : decode cX10_facing 31 = .ok (.iload_n 2, 1) := by decide +kernel
theorem dX10_facing_32 : decode cX10_facing 32 = .ok (.invokevirtual 230, 3) := by decide +kernel
theorem dX10_facing_35 : decode cX10_facing 35 = .ok (.ireturn, 1) := by decide +kernel
theorem dX10_rest_0 : decode cX10_rest 0 = .ok (.iload_n 1, 1) := by decide +kernel
theorem dX10_rest_1 : decode cX10_rest 1 = .ok (.invokestatic 58, 3) := by decide +kernel
theorem dX10_rest_4 : decode cX10_rest 4 = .ok (.ifCond .ne 5, 3) := by decide +kernel
theorem dX10_rest_7 : decode cX10_rest 7 = .ok (.iconst (-1), 1) := by decide +kernel
theorem dX10_rest_8 : decode cX10_rest 8 = .ok (.ireturn, 1) := by decide +kernel
theorem dX10_rest_9 : decode cX10_rest 9 = .ok (.aload_n 0, 1) := by decide +kernel
theorem dX10_rest_10 : decode cX10_rest 10 = .ok (.getfield 19, 3) := by decide +kernel
theorem dX10_rest_13 : decode cX10_rest 13 = .ok (.getfield 117, 3) := by decide +kernel
theorem dX10_rest_16 : decode cX10_rest 16 = .ok (.aload_n 0, 1) := by decide +kernel
theorem dX10_rest_17 : decode cX10_rest 17 = .ok (.getfield 19, 3) := by decide +kernel
theorem dX10_rest_20 : decode cX10_rest 20 = .ok (.getfield 73, 3) := by decide +kernel
theorem dX10_rest_23 : decode cX10_rest 23 = .ok (.getfield 77, 3) := by decide +kernel
theorem dX10_rest_26 : decode cX10_rest 26 = .ok (.iload_n 1, 1) := by decide +kernel
theorem dX10_rest_27 : decode cX10_rest 27 = .ok (.aaload, 1) := by decide +kernel
theorem dX10_rest_28 : decode cX10_rest 28 = .ok (.getfield 233, 3) := by decide +kernel
theorem dX10_rest_31 : decode cX10_rest 31 = .ok (.invokevirtual 236, 3) := by decide +kernel
theorem dX10_rest_34 : decode cX10_rest 34 = .ok (.ireturn, 1) := by decide +kernel
theorem dX10_image_0 : decode cX10_image 0 = .ok (.iload_n 1, 1) := by decide +kernel
theorem dX10_image_1 : decode cX10_image 1 = .ok (.invokestatic 143, 3) := by decide +kernel
theorem dX10_image_4 : decode cX10_image 4 = .ok (.ifCond .ne 6, 3) := by decide +kernel
theorem dX10_image_7 : decode cX10_image 7 = .ok (.bipush (-2), 2) := by decide +kernel
theorem dX10_image_9 : decode cX10_image 9 = .ok (.ireturn, 1) := by decide +kernel
theorem dX10_image_10 : decode cX10_image 10 = .ok (.aload_n 0, 1) := by decide +kernel
theorem dX10_image_11 : decode cX10_image 11 = .ok (.getfield 23, 3) := by decide +kernel
theorem dX10_image_14 : decode cX10_image 14 = .ok (.iload_n 1, 1) := by decide +kernel
theorem dX10_image_15 : decode cX10_image 15 = .ok (.aaload, 1) := by decide +kernel
theorem dX10_image_16 : decode cX10_image 16 = .ok (.aload_n 0, 1) := by decide +kernel
theorem dX10_image_17 : decode cX10_image 17 = .ok (.getfield 19, 3) := by decide +kernel
theorem dX10_image_20 : decode cX10_image 20 = .ok (.invokevirtual 146, 3) := by decide +kernel
theorem dX10_image_23 : decode cX10_image 23 = .ok (.aload_n 0, 1) := by decide +kernel
theorem dX10_image_24 : decode cX10_image 24 = .ok (.getfield 27, 3) := by decide +kernel
theorem dX10_image_27 : decode cX10_image 27 = .ok (.iload_n 1, 1) := by decide +kernel
theorem dX10_image_28 : decode cX10_image 28 = .ok (.iconst 1, 1) := by decide +kernel
theorem dX10_image_29 : decode cX10_image 29 = .ok (.bastore, 1) := by decide +kernel
theorem dX10_image_30 : decode cX10_image 30 = .ok (.iconst 1, 1) := by decide +kernel
theorem dX10_image_31 : decode cX10_image 31 = .ok (.ireturn, 1) := by decide +kernel
theorem dX10_restore_0 : decode cX10_restore 0 = .ok (.iload_n 1, 1) := by decide +kernel
theorem dX10_restore_1 : decode cX10_restore 1 = .ok (.invokestatic 143, 3) := by decide +kernel
theorem dX10_restore_4 : decode cX10_restore 4 = .ok (.ifCond .ne 6, 3) := by decide +kernel
theorem dX10_restore_7 : decode cX10_restore 7 = .ok (.bipush (-2), 2) := by decide +kernel
theorem dX10_restore_9 : decode cX10_restore 9 = .ok (.ireturn, 1) := by decide +kernel
theorem dX10_restore_10 : decode cX10_restore 10 = .ok (.aload_n 0, 1) := by decide +kernel
theorem dX10_restore_11 : decode cX10_restore 11 = .ok (.getfield 27, 3) := by decide +kernel
theorem dX10_restore_14 : decode cX10_restore 14 = .ok (.iload_n 1, 1) := by decide +kernel
theorem dX10_restore_15 : decode cX10_restore 15 = .ok (.baload, 1) := by decide +kernel
theorem dX10_restore_16 : decode cX10_restore 16 = .ok (.ifCond .ne 6, 3) := by decide +kernel
theorem dX10_restore_19 : decode cX10_restore 19 = .ok (.bipush (-3), 2) := by decide +kernel
theorem dX10_restore_21 : decode cX10_restore 21 = .ok (.ireturn, 1) := by decide +kernel
theorem dX10_restore_22 : decode cX10_restore 22 = .ok (.aload_n 0, 1) := by decide +kernel
theorem dX10_restore_23 : decode cX10_restore 23 = .ok (.getfield 19, 3) := by decide +kernel
theorem dX10_restore_26 : decode cX10_restore 26 = .ok (.aload_n 0, 1) := by decide +kernel
theorem dX10_restore_27 : decode cX10_restore 27 = .ok (.getfield 23, 3) := by decide +kernel
theorem dX10_restore_30 : decode cX10_restore 30 = .ok (.iload_n 1, 1) := by decide +kernel
theorem dX10_restore_31 : decode cX10_restore 31 = .ok (.aaload, 1) := by decide +kernel
theorem dX10_restore_32 : decode cX10_restore 32 = .ok (.invokevirtual 146, 3) := by decide +kernel
theorem dX10_restore_35 : decode cX10_restore 35 = .ok (.iconst 1, 1) := by decide +kernel
theorem dX10_restore_36 : decode cX10_restore 36 = .ok (.ireturn, 1) := by decide +kernel
theorem dX10_told_0 : decode cX10_told 0 = .ok (.iload_n 1, 1) := by decide +kernel
theorem dX10_told_1 : decode cX10_told 1 = .ok (.iconst 0, 1) := by decide +kernel
theorem dX10_told_2 : decode cX10_told 2 = .ok (.bipush 11, 2) := by decide +kernel
theorem dX10_told_4 : decode cX10_told 4 = .ok (.invokestatic 65, 3) := by decide +kernel
theorem dX10_told_7 : decode cX10_told 7 = .ok (.ifCond .ne 6, 3) := by decide +kernel
theorem dX10_told_10 : decode cX10_told 10 = .ok (.bipush (-2), 2) := by decide +kernel
theorem dX10_told_12 : decode cX10_told 12 = .ok (.ireturn, 1) := by decide +kernel
theorem dX10_told_13 : decode cX10_told 13 = .ok (.iload_n 1, 1) := by decide +kernel
theorem dX10_told_14 : decode cX10_told 14 = .ok (.ifCond .ne 11, 3) := by decide +kernel
theorem dX10_told_17 : decode cX10_told 17 = .ok (.aload_n 0, 1) := by decide +kernel
theorem dX10_told_18 : decode cX10_told 18 = .ok (.getfield 10, 3) := by decide +kernel
theorem dX10_told_21 : decode cX10_told 21 = .ok (.getfield 107, 3) := by decide +kernel
theorem dX10_told_24 : decode cX10_told 24 = .ok (.ireturn, 1) := by decide +kernel
theorem dX10_told_25 : decode cX10_told 25 = .ok (.iload_n 1, 1) := by decide +kernel
theorem dX10_told_26 : decode cX10_told 26 = .ok (.iconst 1, 1) := by decide +kernel
theorem dX10_told_27 : decode cX10_told 27 = .ok (.if_icmp .ne 14, 3) := by decide +kernel
theorem dX10_told_30 : decode cX10_told 30 = .ok (.aload_n 0, 1) := by decide +kernel
theorem dX10_told_31 : decode cX10_told 31 = .ok (.getfield 19, 3) := by decide +kernel
theorem dX10_told_34 : decode cX10_told 34 = .ok (.getfield 73, 3) := by decide +kernel
theorem dX10_told_37 : decode cX10_told 37 = .ok (.getfield 99, 3) := by decide +kernel
theorem dX10_told_40 : decode cX10_told 40 = .ok (.ireturn, 1) := by decide +kernel
theorem dX10_told_41 : decode cX10_told 41 = .ok (.iload_n 1, 1) := by decide +kernel
theorem dX10_told_42 : decode cX10_told 42 = .ok (.bipush 6, 2) := by decide +kernel
theorem dX10_told_44 : decode cX10_told 44 = .ok (.if_icmp .ge 17, 3) := by decide +kernel
theorem dX10_told_47 : decode cX10_told 47 = .ok (.aload_n 0, 1) := by decide +kernel
theorem dX10_told_48 : decode cX10_told 48 = .ok (.getfield 19, 3) := by decide +kernel
theorem dX10_told_51 : decode cX10_told 51 = .ok (.getfield 73, 3) := by decide +kernel
theorem dX10_told_54 : decode cX10_told 54 = .ok (.iload_n 1, 1) := by decide +kernel
theorem dX10_told_55 : decode cX10_told 55 = .ok (.iconst 2, 1) := by decide +kernel
theorem dX10_told_56 : decode cX10_told 56 = .ok (.isub, 1) := by decide +kernel
theorem dX10_told_57 : decode cX10_told 57 = .ok (.invokevirtual 239, 3) := by decide +kernel
theorem dX10_told_60 : decode cX10_told 60 = .ok (.ireturn, 1) := by decide +kernel
theorem dX10_told_61 : decode cX10_told 61 = .ok (.iload_n 1, 1) := by decide +kernel
theorem dX10_told_62 : decode cX10_told 62 = .ok (.bipush 10, 2) := by decide +kernel
theorem dX10_told_64 : decode cX10_told 64 = .ok (.if_icmp .ge 16, 3) := by decide +kernel
theorem dX10_told_67 : decode cX10_told 67 = .ok (.aload_n 0, 1) := by decide +kernel
theorem dX10_told_68 : decode cX10_told 68 = .ok (.getfield 19, 3) := by decide +kernel
theorem dX10_told_71 : decode cX10_told 71 = .ok (.getfield 221, 3) := by decide +kernel
theorem dX10_told_74 : decode cX10_told 74 = .ok (.iload_n 1, 1) := by decide +kernel
theorem dX10_told_75 : decode cX10_told 75 = .ok (.bipush 6, 2) := by decide +kernel
theorem dX10_told_77 : decode cX10_told 77 = .ok (.isub, 1) := by decide +kernel
theorem dX10_told_78 : decode cX10_told 78 = .ok (.iaload, 1) := by decide +kernel
theorem dX10_told_79 : decode cX10_told 79 = .ok (.ireturn, 1) := by decide +kernel
theorem dX10_told_80 : decode cX10_told 80 = .ok (.iload_n 1, 1) := by decide +kernel
theorem dX10_told_81 : decode cX10_told 81 = .ok (.bipush 10, 2) := by decide +kernel
theorem dX10_told_83 : decode cX10_told 83 = .ok (.if_icmp .ne 16, 3) := by decide +kernel
theorem dX10_told_86 : decode cX10_told 86 = .ok (.aload_n 0, 1) := by decide +kernel
theorem dX10_told_87 : decode cX10_told 87 = .ok (.getfield 19, 3) := by decide +kernel
theorem dX10_told_90 : decode cX10_told 90 = .ok (.getfield 117, 3) := by decide +kernel
theorem dX10_told_93 : decode cX10_told 93 = .ok (.invokevirtual 213, 3) := by decide +kernel
theorem dX10_told_96 : decode cX10_told 96 = .ok (.goto 13, 3) := by decide +kernel
theorem dX10_told_99 : decode cX10_told 99 = .ok (.aload_n 0, 1) := by decide +kernel
theorem dX10_told_100 : decode cX10_told 100 = .ok (.getfield 19, 3) := by decide +kernel
theorem dX10_told_103 : decode cX10_told 103 = .ok (.getfield 73, 3) := by decide +kernel
theorem dX10_told_106 : decode cX10_told 106 = .ok (.invokevirtual 242, 3) := by decide +kernel
theorem dX10_told_109 : decode cX10_told 109 = .ok (.ireturn, 1) := by decide +kernel
theorem dX10_within_0 : decode cX10_within 0 = .ok (.iload_n 0, 1) := by decide +kernel
theorem dX10_within_1 : decode cX10_within 1 = .ok (.iload_n 1, 1) := by decide +kernel
theorem dX10_within_2 : decode cX10_within 2 = .ok (.if_icmp .lt 12, 3) := by decide +kernel
theorem dX10_within_5 : decode cX10_within 5 = .ok (.iload_n 0, 1) := by decide +kernel
theorem dX10_within_6 : decode cX10_within 6 = .ok (.iload_n 2, 1) := by decide +kernel
theorem dX10_within_7 : decode cX10_within 7 = .ok (.if_icmp .gt 7, 3) := by decide +kernel
theorem dX10_within_10 : decode cX10_within 10 = .ok (.iconst 1, 1) := by decide +kernel
theorem dX10_within_11 : decode cX10_within 11 = .ok (.goto 4, 3) := by decide +kernel
theorem dX10_within_14 : decode cX10_within 14 = .ok (.iconst 0, 1) := by decide +kernel
theorem dX10_within_15 : decode cX10_within 15 = .ok (.ireturn, 1) := by decide +kernel
theorem dX10_isSower_0 : decode cX10_isSower 0 = .ok (.iload_n 0, 1) := by decide +kernel
theorem dX10_isSower_1 : decode cX10_isSower 1 = .ok (.iconst 0, 1) := by decide +kernel
theorem dX10_isSower_2 : decode cX10_isSower 2 = .ok (.iconst 3, 1) := by decide +kernel
theorem dX10_isSower_3 : decode cX10_isSower 3 = .ok (.invokestatic 65, 3) := by decide +kernel
theorem dX10_isSower_6 : decode cX10_isSower 6 = .ok (.ireturn, 1) := by decide +kernel
theorem dX10_areTwoSowers_0 : decode cX10_areTwoSowers 0 = .ok (.iload_n 0, 1) := by decide +kernel
theorem dX10_areTwoSowers_1 : decode cX10_areTwoSowers 1 = .ok (.invokestatic 58, 3) := by decide +kernel
theorem dX10_areTwoSowers_4 : decode cX10_areTwoSowers 4 = .ok (.ifCond .eq 19, 3) := by decide +kernel
theorem dX10_areTwoSowers_7 : decode cX10_areTwoSowers 7 = .ok (.iload_n 1, 1) := by decide +kernel
theorem dX10_areTwoSowers_8 : decode cX10_areTwoSowers 8 = .ok (.invokestatic 58, 3) := by decide +kernel
theorem dX10_areTwoSowers_11 : decode cX10_areTwoSowers 11 = .ok (.ifCond .eq 12, 3) := by decide +kernel
theorem dX10_areTwoSowers_14 : decode cX10_areTwoSowers 14 = .ok (.iload_n 0, 1) := by decide +kernel
theorem dX10_areTwoSowers_15 : decode cX10_areTwoSowers 15 = .ok (.iload_n 1, 1) := by decide +kernel
theorem dX10_areTwoSowers_16 : decode cX10_areTwoSowers 16 = .ok (.if_icmp .eq 7, 3) := by decide +kernel
theorem dX10_areTwoSowers_19 : decode cX10_areTwoSowers 19 = .ok (.iconst 1, 1) := by decide +kernel
theorem dX10_areTwoSowers_20 : decode cX10_areTwoSowers 20 = .ok (.goto 4, 3) := by decide +kernel
theorem dX10_areTwoSowers_23 : decode cX10_areTwoSowers 23 = .ok (.iconst 0, 1) := by decide +kernel
theorem dX10_areTwoSowers_24 : decode cX10_areTwoSowers 24 = .ok (.ireturn, 1) := by decide +kernel
theorem dX10_isKind_0 : decode cX10_isKind 0 = .ok (.iload_n 0, 1) := by decide +kernel
theorem dX10_isKind_1 : decode cX10_isKind 1 = .ok (.iconst 0, 1) := by decide +kernel
theorem dX10_isKind_2 : decode cX10_isKind 2 = .ok (.iconst 3, 1) := by decide +kernel
theorem dX10_isKind_3 : decode cX10_isKind 3 = .ok (.invokestatic 65, 3) := by decide +kernel
theorem dX10_isKind_6 : decode cX10_isKind 6 = .ok (.ireturn, 1) := by decide +kernel
theorem dX10_isKindOrAll_0 : decode cX10_isKindOrAll 0 = .ok (.iload_n 0, 1) := by decide +kernel
theorem dX10_isKindOrAll_1 : decode cX10_isKindOrAll 1 = .ok (.iconst (-1), 1) := by decide +kernel
theorem dX10_isKindOrAll_2 : decode cX10_isKindOrAll 2 = .ok (.if_icmp .eq 10, 3) := by decide +kernel
theorem dX10_isKindOrAll_5 : decode cX10_isKindOrAll 5 = .ok (.iload_n 0, 1) := by decide +kernel
theorem dX10_isKindOrAll_6 : decode cX10_isKindOrAll 6 = .ok (.invokestatic 62, 3) := by decide +kernel
theorem dX10_isKindOrAll_9 : decode cX10_isKindOrAll 9 = .ok (.ifCond .eq 7, 3) := by decide +kernel
theorem dX10_isKindOrAll_12 : decode cX10_isKindOrAll 12 = .ok (.iconst 1, 1) := by decide +kernel
theorem dX10_isKindOrAll_13 : decode cX10_isKindOrAll 13 = .ok (.goto 4, 3) := by decide +kernel
theorem dX10_isKindOrAll_16 : decode cX10_isKindOrAll 16 = .ok (.iconst 0, 1) := by decide +kernel
theorem dX10_isKindOrAll_17 : decode cX10_isKindOrAll 17 = .ok (.ireturn, 1) := by decide +kernel
theorem dX10_isCell_0 : decode cX10_isCell 0 = .ok (.iload_n 0, 1) := by decide +kernel
theorem dX10_isCell_1 : decode cX10_isCell 1 = .ok (.iconst 0, 1) := by decide +kernel
theorem dX10_isCell_2 : decode cX10_isCell 2 = .ok (.bipush 63, 2) := by decide +kernel
theorem dX10_isCell_4 : decode cX10_isCell 4 = .ok (.invokestatic 65, 3) := by decide +kernel
theorem dX10_isCell_7 : decode cX10_isCell 7 = .ok (.ireturn, 1) := by decide +kernel
theorem dX10_isWay_0 : decode cX10_isWay 0 = .ok (.iload_n 0, 1) := by decide +kernel
theorem dX10_isWay_1 : decode cX10_isWay 1 = .ok (.iconst 0, 1) := by decide +kernel
theorem dX10_isWay_2 : decode cX10_isWay 2 = .ok (.bipush 7, 2) := by decide +kernel
theorem dX10_isWay_4 : decode cX10_isWay 4 = .ok (.invokestatic 65, 3) := by decide +kernel
theorem dX10_isWay_7 : decode cX10_isWay 7 = .ok (.ireturn, 1) := by decide +kernel
theorem dX10_isImage_0 : decode cX10_isImage 0 = .ok (.iload_n 0, 1) := by decide +kernel
theorem dX10_isImage_1 : decode cX10_isImage 1 = .ok (.iconst 0, 1) := by decide +kernel
theorem dX10_isImage_2 : decode cX10_isImage 2 = .ok (.iconst 1, 1) := by decide +kernel
theorem dX10_isImage_3 : decode cX10_isImage 3 = .ok (.invokestatic 65, 3) := by decide +kernel
theorem dX10_isImage_6 : decode cX10_isImage 6 = .ok (.ireturn, 1) := by decide +kernel
theorem dX10_stepFrom_0 : decode cX10_stepFrom 0 = .ok (.iload_n 0, 1) := by decide +kernel
theorem dX10_stepFrom_1 : decode cX10_stepFrom 1 = .ok (.bipush 8, 2) := by decide +kernel
theorem dX10_stepFrom_3 : decode cX10_stepFrom 3 = .ok (.irem, 1) := by decide +kernel
theorem dX10_stepFrom_4 : decode cX10_stepFrom 4 = .ok (.getstatic 245, 3) := by decide +kernel
theorem dX10_stepFrom_7 : decode cX10_stepFrom 7 = .ok (.iload_n 1, 1) := by decide +kernel
theorem dX10_stepFrom_8 : decode cX10_stepFrom 8 = .ok (.bipush 7, 2) := by decide +kernel
theorem dX10_stepFrom_10 : decode cX10_stepFrom 10 = .ok (.iand, 1) := by decide +kernel
theorem dX10_stepFrom_11 : decode cX10_stepFrom 11 = .ok (.iaload, 1) := by decide +kernel
theorem dX10_stepFrom_12 : decode cX10_stepFrom 12 = .ok (.iadd, 1) := by decide +kernel
theorem dX10_stepFrom_13 : decode cX10_stepFrom 13 = .ok (.istore_n 2, 1) := by decide +kernel
theorem dX10_stepFrom_14 : decode cX10_stepFrom 14 = .ok (.iload_n 0, 1) := by decide +kernel
theorem dX10_stepFrom_15 : decode cX10_stepFrom 15 = .ok (.bipush 8, 2) := by decide +kernel
theorem dX10_stepFrom_17 : decode cX10_stepFrom 17 = .ok (.idiv, 1) := by decide +kernel
theorem dX10_stepFrom_18 : decode cX10_stepFrom 18 = .ok (.getstatic 248, 3) := by decide +kernel
theorem dX10_stepFrom_21 : decode cX10_stepFrom 21 = .ok (.iload_n 1, 1) := by decide +kernel
theorem dX10_stepFrom_22 : decode cX10_stepFrom 22 = .ok (.bipush 7, 2) := by decide +kernel
theorem dX10_stepFrom_24 : decode cX10_stepFrom 24 = .ok (.iand, 1) := by decide +kernel
theorem dX10_stepFrom_25 : decode cX10_stepFrom 25 = .ok (.iaload, 1) := by decide +kernel
theorem dX10_stepFrom_26 : decode cX10_stepFrom 26 = .ok (.iadd, 1) := by decide +kernel
theorem dX10_stepFrom_27 : decode cX10_stepFrom 27 = .ok (.istore_n 3, 1) := by decide +kernel
theorem dX10_stepFrom_28 : decode cX10_stepFrom 28 = .ok (.iload_n 2, 1) := by decide +kernel
theorem dX10_stepFrom_29 : decode cX10_stepFrom 29 = .ok (.iconst 0, 1) := by decide +kernel
theorem dX10_stepFrom_30 : decode cX10_stepFrom 30 = .ok (.bipush 7, 2) := by decide +kernel
theorem dX10_stepFrom_32 : decode cX10_stepFrom 32 = .ok (.invokestatic 65, 3) := by decide +kernel
theorem dX10_stepFrom_35 : decode cX10_stepFrom 35 = .ok (.ifCond .eq 22, 3) := by decide +kernel
theorem dX10_stepFrom_38 : decode cX10_stepFrom 38 = .ok (.iload_n 3, 1) := by decide +kernel
theorem dX10_stepFrom_39 : decode cX10_stepFrom 39 = .ok (.iconst 0, 1) := by decide +kernel
theorem dX10_stepFrom_40 : decode cX10_stepFrom 40 = .ok (.bipush 7, 2) := by decide +kernel
theorem dX10_stepFrom_42 : decode cX10_stepFrom 42 = .ok (.invokestatic 65, 3) := by decide +kernel
theorem dX10_stepFrom_45 : decode cX10_stepFrom 45 = .ok (.ifCond .eq 12, 3) := by decide +kernel
theorem dX10_stepFrom_48 : decode cX10_stepFrom 48 = .ok (.iload_n 2, 1) := by decide +kernel
theorem dX10_stepFrom_49 : decode cX10_stepFrom 49 = .ok (.bipush 8, 2) := by decide +kernel
theorem dX10_stepFrom_51 : decode cX10_stepFrom 51 = .ok (.iload_n 3, 1) := by decide +kernel
theorem dX10_stepFrom_52 : decode cX10_stepFrom 52 = .ok (.imul, 1) := by decide +kernel
theorem dX10_stepFrom_53 : decode cX10_stepFrom 53 = .ok (.iadd, 1) := by decide +kernel
theorem dX10_stepFrom_54 : decode cX10_stepFrom 54 = .ok (.goto 5, 3) := by decide +kernel
theorem dX10_stepFrom_57 : decode cX10_stepFrom 57 = .ok (.bipush (-6), 2) := by decide +kernel
theorem dX10_stepFrom_59 : decode cX10_stepFrom 59 = .ok (.ireturn, 1) := by decide +kernel
theorem dX10_cellsApart_0 : decode cX10_cellsApart 0 = .ok (.iload_n 0, 1) := by decide +kernel
theorem dX10_cellsApart_1 : decode cX10_cellsApart 1 = .ok (.bipush 8, 2) := by decide +kernel
theorem dX10_cellsApart_3 : decode cX10_cellsApart 3 = .ok (.irem, 1) := by decide +kernel
theorem dX10_cellsApart_4 : decode cX10_cellsApart 4 = .ok (.iload_n 1, 1) := by decide +kernel
theorem dX10_cellsApart_5 : decode cX10_cellsApart 5 = .ok (.bipush 8, 2) := by decide +kernel
theorem dX10_cellsApart_7 : decode cX10_cellsApart 7 = .ok (.irem, 1) := by decide +kernel
theorem dX10_cellsApart_8 : decode cX10_cellsApart 8 = .ok (.isub, 1) := by decide +kernel
theorem dX10_cellsApart_9 : decode cX10_cellsApart 9 = .ok (.invokestatic 251, 3) := by decide +kernel
theorem dX10_cellsApart_12 : decode cX10_cellsApart 12 = .ok (.istore_n 2, 1) := by decide +kernel
theorem dX10_cellsApart_13 : decode cX10_cellsApart 13 = .ok (.iload_n 0, 1) := by decide +kernel
theorem dX10_cellsApart_14 : decode cX10_cellsApart 14 = .ok (.bipush 8, 2) := by decide +kernel
theorem dX10_cellsApart_16 : decode cX10_cellsApart 16 = .ok (.idiv, 1) := by decide +kernel
theorem dX10_cellsApart_17 : decode cX10_cellsApart 17 = .ok (.iload_n 1, 1) := by decide +kernel
theorem dX10_cellsApart_18 : decode cX10_cellsApart 18 = .ok (.bipush 8, 2) := by decide +kernel
theorem dX10_cellsApart_20 : decode cX10_cellsApart 20 = .ok (.idiv, 1) := by decide +kernel
theorem dX10_cellsApart_21 : decode cX10_cellsApart 21 = .ok (.isub, 1) := by decide +kernel
theorem dX10_cellsApart_22 : decode cX10_cellsApart 22 = .ok (.invokestatic 251, 3) := by decide +kernel
theorem dX10_cellsApart_25 : decode cX10_cellsApart 25 = .ok (.istore_n 3, 1) := by decide +kernel
theorem dX10_cellsApart_26 : decode cX10_cellsApart 26 = .ok (.iload_n 2, 1) := by decide +kernel
theorem dX10_cellsApart_27 : decode cX10_cellsApart 27 = .ok (.iload_n 3, 1) := by decide +kernel
theorem dX10_cellsApart_28 : decode cX10_cellsApart 28 = .ok (.invokestatic 254, 3) := by decide +kernel
theorem dX10_cellsApart_31 : decode cX10_cellsApart 31 = .ok (.ireturn, 1) := by decide +kernel
theorem dX10_onEdge_0 : decode cX10_onEdge 0 = .ok (.iload_n 0, 1) := by decide +kernel
theorem dX10_onEdge_1 : decode cX10_onEdge 1 = .ok (.bipush 8, 2) := by decide +kernel
theorem dX10_onEdge_3 : decode cX10_onEdge 3 = .ok (.irem, 1) := by decide +kernel
theorem dX10_onEdge_4 : decode cX10_onEdge 4 = .ok (.istore_n 1, 1) := by decide +kernel
theorem dX10_onEdge_5 : decode cX10_onEdge 5 = .ok (.iload_n 0, 1) := by decide +kernel
theorem dX10_onEdge_6 : decode cX10_onEdge 6 = .ok (.bipush 8, 2) := by decide +kernel
theorem dX10_onEdge_8 : decode cX10_onEdge 8 = .ok (.idiv, 1) := by decide +kernel
theorem dX10_onEdge_9 : decode cX10_onEdge 9 = .ok (.istore_n 2, 1) := by decide +kernel
theorem dX10_onEdge_10 : decode cX10_onEdge 10 = .ok (.iload_n 1, 1) := by decide +kernel
theorem dX10_onEdge_11 : decode cX10_onEdge 11 = .ok (.ifCond .eq 19, 3) := by decide +kernel
theorem dX10_onEdge_14 : decode cX10_onEdge 14 = .ok (.iload_n 1, 1) := by decide +kernel
theorem dX10_onEdge_15 : decode cX10_onEdge 15 = .ok (.bipush 7, 2) := by decide +kernel
theorem dX10_onEdge_17 : decode cX10_onEdge 17 = .ok (.if_icmp .eq 13, 3) := by decide +kernel
theorem dX10_onEdge_20 : decode cX10_onEdge 20 = .ok (.iload_n 2, 1) := by decide +kernel
theorem dX10_onEdge_21 : decode cX10_onEdge 21 = .ok (.ifCond .eq 9, 3) := by decide +kernel
theorem dX10_onEdge_24 : decode cX10_onEdge 24 = .ok (.iload_n 2, 1) := by decide +kernel
theorem dX10_onEdge_25 : decode cX10_onEdge 25 = .ok (.bipush 7, 2) := by decide +kernel
theorem dX10_onEdge_27 : decode cX10_onEdge 27 = .ok (.if_icmp .ne 7, 3) := by decide +kernel
theorem dX10_onEdge_30 : decode cX10_onEdge 30 = .ok (.iconst 1, 1) := by decide +kernel
theorem dX10_onEdge_31 : decode cX10_onEdge 31 = .ok (.goto 4, 3) := by decide +kernel
theorem dX10_onEdge_34 : decode cX10_onEdge 34 = .ok (.iconst 0, 1) := by decide +kernel
theorem dX10_onEdge_35 : decode cX10_onEdge 35 = .ok (.ireturn, 1) := by decide +kernel
theorem dX10_bestWay_0 : decode cX10_bestWay 0 = .ok (.iload_n 1, 1) := by decide +kernel
theorem dX10_bestWay_1 : decode cX10_bestWay 1 = .ok (.bipush 8, 2) := by decide +kernel
theorem dX10_bestWay_3 : decode cX10_bestWay 3 = .ok (.irem, 1) := by decide +kernel
theorem dX10_bestWay_4 : decode cX10_bestWay 4 = .ok (.iload_n 0, 1) := by decide +kernel
theorem dX10_bestWay_5 : decode cX10_bestWay 5 = .ok (.bipush 8, 2) := by decide +kernel
theorem dX10_bestWay_7 : decode cX10_bestWay 7 = .ok (.irem, 1) := by decide +kernel
theorem dX10_bestWay_8 : decode cX10_bestWay 8 = .ok (.isub, 1) := by decide +kernel
theorem dX10_bestWay_9 : decode cX10_bestWay 9 = .ok (.istore_n 2, 1) := by decide +kernel
theorem dX10_bestWay_10 : decode cX10_bestWay 10 = .ok (.iload_n 1, 1) := by decide +kernel
theorem dX10_bestWay_11 : decode cX10_bestWay 11 = .ok (.bipush 8, 2) := by decide +kernel
theorem dX10_bestWay_13 : decode cX10_bestWay 13 = .ok (.idiv, 1) := by decide +kernel
theorem dX10_bestWay_14 : decode cX10_bestWay 14 = .ok (.iload_n 0, 1) := by decide +kernel
theorem dX10_bestWay_15 : decode cX10_bestWay 15 = .ok (.bipush 8, 2) := by decide +kernel
theorem dX10_bestWay_17 : decode cX10_bestWay 17 = .ok (.idiv, 1) := by decide +kernel
theorem dX10_bestWay_18 : decode cX10_bestWay 18 = .ok (.isub, 1) := by decide +kernel
theorem dX10_bestWay_19 : decode cX10_bestWay 19 = .ok (.istore_n 3, 1) := by decide +kernel
theorem dX10_bestWay_20 : decode cX10_bestWay 20 = .ok (.iconst 0, 1) := by decide +kernel
theorem dX10_bestWay_21 : decode cX10_bestWay 21 = .ok (.istore 4, 2) := by decide +kernel
theorem dX10_bestWay_23 : decode cX10_bestWay 23 = .ok (.ldc_w 257, 3) := by decide +kernel
theorem dX10_bestWay_26 : decode cX10_bestWay 26 = .ok (.istore 5, 2) := by decide +kernel
theorem dX10_bestWay_28 : decode cX10_bestWay 28 = .ok (.iconst 0, 1) := by decide +kernel
theorem dX10_bestWay_29 : decode cX10_bestWay 29 = .ok (.istore 6, 2) := by decide +kernel
theorem dX10_bestWay_31 : decode cX10_bestWay 31 = .ok (.iload 6, 2) := by decide +kernel
theorem dX10_bestWay_33 : decode cX10_bestWay 33 = .ok (.bipush 8, 2) := by decide +kernel
theorem dX10_bestWay_35 : decode cX10_bestWay 35 = .ok (.if_icmp .ge 62, 3) := by decide +kernel
theorem dX10_bestWay_38 : decode cX10_bestWay 38 = .ok (.iload 6, 2) := by decide +kernel
theorem dX10_bestWay_40 : decode cX10_bestWay 40 = .ok (.iconst 2, 1) := by decide +kernel
theorem dX10_bestWay_41 : decode cX10_bestWay 41 = .ok (.irem, 1) := by decide +kernel
theorem dX10_bestWay_42 : decode cX10_bestWay 42 = .ok (.ifCond .ne 8, 3) := by decide +kernel
theorem dX10_bestWay_45 : decode cX10_bestWay 45 = .ok (.bipush 10, 2) := by decide +kernel
theorem dX10_bestWay_47 : decode cX10_bestWay 47 = .ok (.goto 5, 3) := by decide +kernel
theorem dX10_bestWay_50 : decode cX10_bestWay 50 = .ok (.bipush 7, 2) := by decide +kernel
theorem dX10_bestWay_52 : decode cX10_bestWay 52 = .ok (.istore 7, 2) := by decide +kernel
theorem dX10_bestWay_54 : decode cX10_bestWay 54 = .ok (.getstatic 245, 3) := by decide +kernel
theorem dX10_bestWay_57 : decode cX10_bestWay 57 = .ok (.iload 6, 2) := by decide +kernel
theorem dX10_bestWay_59 : decode cX10_bestWay 59 = .ok (.iaload, 1) := by decide +kernel
theorem dX10_bestWay_60 : decode cX10_bestWay 60 = .ok (.iload_n 2, 1) := by decide +kernel
theorem dX10_bestWay_61 : decode cX10_bestWay 61 = .ok (.imul, 1) := by decide +kernel
theorem dX10_bestWay_62 : decode cX10_bestWay 62 = .ok (.getstatic 248, 3) := by decide +kernel
theorem dX10_bestWay_65 : decode cX10_bestWay 65 = .ok (.iload 6, 2) := by decide +kernel
theorem dX10_bestWay_67 : decode cX10_bestWay 67 = .ok (.iaload, 1) := by decide +kernel
theorem dX10_bestWay_68 : decode cX10_bestWay 68 = .ok (.iload_n 3, 1) := by decide +kernel
theorem dX10_bestWay_69 : decode cX10_bestWay 69 = .ok (.imul, 1) := by decide +kernel
theorem dX10_bestWay_70 : decode cX10_bestWay 70 = .ok (.iadd, 1) := by decide +kernel
theorem dX10_bestWay_71 : decode cX10_bestWay 71 = .ok (.iload 7, 2) := by decide +kernel
theorem dX10_bestWay_73 : decode cX10_bestWay 73 = .ok (.imul, 1) := by decide +kernel
theorem dX10_bestWay_74 : decode cX10_bestWay 74 = .ok (.istore 8, 2) := by decide +kernel
theorem dX10_bestWay_76 : decode cX10_bestWay 76 = .ok (.iload 8, 2) := by decide +kernel
theorem dX10_bestWay_78 : decode cX10_bestWay 78 = .ok (.iload 5, 2) := by decide +kernel
theorem dX10_bestWay_80 : decode cX10_bestWay 80 = .ok (.if_icmp .le 11, 3) := by decide +kernel
theorem dX10_bestWay_83 : decode cX10_bestWay 83 = .ok (.iload 8, 2) := by decide +kernel
theorem dX10_bestWay_85 : decode cX10_bestWay 85 = .ok (.istore 5, 2) := by decide +kernel
theorem dX10_bestWay_87 : decode cX10_bestWay 87 = .ok (.iload 6, 2) := by decide +kernel
theorem dX10_bestWay_89 : decode cX10_bestWay 89 = .ok (.istore 4, 2) := by decide +kernel
theorem dX10_bestWay_91 : decode cX10_bestWay 91 = .ok (.iinc 6 1, 3) := by decide +kernel
theorem dX10_bestWay_94 : decode cX10_bestWay 94 = .ok (.goto (-63), 3) := by decide +kernel
theorem dX10_bestWay_97 : decode cX10_bestWay 97 = .ok (.iload 4, 2) := by decide +kernel
theorem dX10_bestWay_99 : decode cX10_bestWay 99 = .ok (.ireturn, 1) := by decide +kernel
theorem dX10_turnsAllRound_0 : decode cX10_turnsAllRound 0 = .ok (.iconst 1, 1) := by decide +kernel
theorem dX10_turnsAllRound_1 : decode cX10_turnsAllRound 1 = .ok (.istore_n 1, 1) := by decide +kernel
theorem dX10_turnsAllRound_2 : decode cX10_turnsAllRound 2 = .ok (.iload_n 1, 1) := by decide +kernel
theorem dX10_turnsAllRound_3 : decode cX10_turnsAllRound 3 = .ok (.bipush 8, 2) := by decide +kernel
theorem dX10_turnsAllRound_5 : decode cX10_turnsAllRound 5 = .ok (.if_icmp .ge 20, 3) := by decide +kernel
theorem dX10_turnsAllRound_8 : decode cX10_turnsAllRound 8 = .ok (.iload_n 1, 1) := by decide +kernel
theorem dX10_turnsAllRound_9 : decode cX10_turnsAllRound 9 = .ok (.iload_n 0, 1) := by decide +kernel
theorem dX10_turnsAllRound_10 : decode cX10_turnsAllRound 10 = .ok (.imul, 1) := by decide +kernel
theorem dX10_turnsAllRound_11 : decode cX10_turnsAllRound 11 = .ok (.bipush 8, 2) := by decide +kernel
theorem dX10_turnsAllRound_13 : decode cX10_turnsAllRound 13 = .ok (.invokestatic 258, 3) := by decide +kernel
theorem dX10_turnsAllRound_16 : decode cX10_turnsAllRound 16 = .ok (.ifCond .eq 9, 3) := by decide +kernel
theorem dX10_turnsAllRound_19 : decode cX10_turnsAllRound 19 = .ok (.iinc 1 1, 3) := by decide +kernel
theorem dX10_turnsAllRound_22 : decode cX10_turnsAllRound 22 = .ok (.goto (-20), 3) := by decide +kernel
theorem dX10_turnsAllRound_25 : decode cX10_turnsAllRound 25 = .ok (.iload_n 1, 1) := by decide +kernel
theorem dX10_turnsAllRound_26 : decode cX10_turnsAllRound 26 = .ok (.ireturn, 1) := by decide +kernel
theorem dX11_init_0 : decode cX11_init 0 = .ok (.aload_n 0, 1) := by decide +kernel
theorem dX11_init_1 : decode cX11_init 1 = .ok (.invokespecial 1, 3) := by decide +kernel
theorem dX11_init_4 : decode cX11_init 4 = .ok (.aload_n 0, 1) := by decide +kernel
theorem dX11_init_5 : decode cX11_init 5 = .ok (.bipush 32, 2) := by decide +kernel
theorem dX11_init_7 : decode cX11_init 7 = .ok (.newarray .int, 2) := by decide +kernel
theorem dX11_init_9 : decode cX11_init 9 = .ok (.putfield 7, 3) := by decide +kernel
theorem dX11_init_12 : decode cX11_init 12 = .ok (.aload_n 0, 1) := by decide +kernel
theorem dX11_init_13 : decode cX11_init 13 = .ok (.sipush 256, 3) := by decide +kernel
theorem dX11_init_16 : decode cX11_init 16 = .ok (.newarray .int, 2) := by decide +kernel
theorem dX11_init_18 : decode cX11_init 18 = .ok (.putfield 13, 3) := by decide +kernel
theorem dX11_init_21 : decode cX11_init 21 = .ok (.aload_n 0, 1) := by decide +kernel
theorem dX11_init_22 : decode cX11_init 22 = .ok (.iconst 4, 1) := by decide +kernel
theorem dX11_init_23 : decode cX11_init 23 = .ok (.newarray .int, 2) := by decide +kernel
theorem dX11_init_25 : decode cX11_init 25 = .ok (.putfield 16, 3) := by decide +kernel
theorem dX11_init_28 : decode cX11_init 28 = .ok (.aload_n 0, 1) := by decide +kernel
theorem dX11_init_29 : decode cX11_init 29 = .ok (.bipush 64, 2) := by decide +kernel
theorem dX11_init_31 : decode cX11_init 31 = .ok (.newarray .int, 2) := by decide +kernel
theorem dX11_init_33 : decode cX11_init 33 = .ok (.putfield 19, 3) := by decide +kernel
theorem dX11_init_36 : decode cX11_init 36 = .ok (.aload_n 0, 1) := by decide +kernel
theorem dX11_init_37 : decode cX11_init 37 = .ok (.iconst 4, 1) := by decide +kernel
theorem dX11_init_38 : decode cX11_init 38 = .ok (.newarray .int, 2) := by decide +kernel
theorem dX11_init_40 : decode cX11_init 40 = .ok (.putfield 22, 3) := by decide +kernel
theorem dX11_init_43 : decode cX11_init 43 = .ok (.aload_n 0, 1) := by decide +kernel
theorem dX11_init_44 : decode cX11_init 44 = .ok (.bipush 40, 2) := by decide +kernel
theorem dX11_init_46 : decode cX11_init 46 = .ok (.newarray .int, 2) := by decide +kernel
theorem dX11_init_48 : decode cX11_init 48 = .ok (.putfield 25, 3) := by decide +kernel
theorem dX11_init_51 : decode cX11_init 51 = .ok (.aload_n 0, 1) := by decide +kernel
theorem dX11_init_52 : decode cX11_init 52 = .ok (.bipush 32, 2) := by decide +kernel
theorem dX11_init_54 : decode cX11_init 54 = .ok (.newarray .int, 2) := by decide +kernel
theorem dX11_init_56 : decode cX11_init 56 = .ok (.putfield 28, 3) := by decide +kernel
theorem dX11_init_59 : decode cX11_init 59 = .ok (.aload_n 0, 1) := by decide +kernel
theorem dX11_init_60 : decode cX11_init 60 = .ok (.sipush 256, 3) := by decide +kernel
theorem dX11_init_63 : decode cX11_init 63 = .ok (.newarray .int, 2) := by decide +kernel
theorem dX11_init_65 : decode cX11_init 65 = .ok (.putfield 31, 3) := by decide +kernel
theorem dX11_init_68 : decode cX11_init 68 = .ok (.aload_n 0, 1) := by decide +kernel
theorem dX11_init_69 : decode cX11_init 69 = .ok (.iconst 4, 1) := by decide +kernel
theorem dX11_init_70 : decode cX11_init 70 = .ok (.newarray .int, 2) := by decide +kernel
theorem dX11_init_72 : decode cX11_init 72 = .ok (.putfield 34, 3) := by decide +kernel
theorem dX11_init_75 : decode cX11_init 75 = .ok (.aload_n 0, 1) := by decide +kernel
theorem dX11_init_76 : decode cX11_init 76 = .ok (.bipush 74, 2) := by decide +kernel
theorem dX11_init_78 : decode cX11_init 78 = .ok (.newarray .int, 2) := by decide +kernel
theorem dX11_init_80 : decode cX11_init 80 = .ok (.putfield 37, 3) := by decide +kernel
theorem dX11_init_83 : decode cX11_init 83 = .ok (.aload_n 0, 1) := by decide +kernel
theorem dX11_init_84 : decode cX11_init 84 = .ok (.sipush 256, 3) := by decide +kernel
theorem dX11_init_87 : decode cX11_init 87 = .ok (.newarray .int, 2) := by decide +kernel
theorem dX11_init_89 : decode cX11_init 89 = .ok (.putfield 40, 3) := by decide +kernel
theorem dX11_init_92 : decode cX11_init 92 = .ok (.aload_n 0, 1) := by decide +kernel
theorem dX11_init_93 : decode cX11_init 93 = .ok (.sipush 800, 3) := by decide +kernel
theorem dX11_init_96 : decode cX11_init 96 = .ok (.newarray .int, 2) := by decide +kernel
theorem dX11_init_98 : decode cX11_init 98 = .ok (.putfield 43, 3) := by decide +kernel
theorem dX11_init_101 : decode cX11_init 101 = .ok (.aload_n 0, 1) := by decide +kernel
theorem dX11_init_102 : decode cX11_init 102 = .ok (.iconst 2, 1) := by decide +kernel
theorem dX11_init_103 : decode cX11_init 103 = .ok (.newarray .boolean, 2) := by decide +kernel
theorem dX11_init_105 : decode cX11_init 105 = .ok (.putfield 46, 3) := by decide +kernel
theorem dX11_init_108 : decode cX11_init 108 = .ok (.iconst 0, 1) := by decide +kernel
theorem dX11_init_109 : decode cX11_init 109 = .ok (.istore_n 1, 1) := by decide +kernel
theorem dX11_init_110 : decode cX11_init 110 = .ok (.iload_n 1, 1) := by decide +kernel
theorem dX11_init_111 : decode cX11_init 111 = .ok (.iconst 4, 1) := by decide +kernel
theorem dX11_init_112 : decode cX11_init 112 = .ok (.if_icmp .ge 58, 3) := by decide +kernel
theorem dX11_init_115 : decode cX11_init 115 = .ok (.aload_n 0, 1) := by decide +kernel
theorem dX11_init_116 : decode cX11_init 116 = .ok (.getfield 7, 3) := by decide +kernel
theorem dX11_init_119 : decode cX11_init 119 = .ok (.bipush 8, 2) := by decide +kernel
theorem dX11_init_121 : decode cX11_init 121 = .ok (.iload_n 1, 1) := by decide +kernel
theorem dX11_init_122 : decode cX11_init 122 = .ok (.imul, 1) := by decide +kernel
theorem dX11_init_123 : decode cX11_init 123 = .ok (.iconst 2, 1) := by decide +kernel
theorem dX11_init_124 : decode cX11_init 124 = .ok (.iadd, 1) := by decide +kernel
theorem dX11_init_125 : decode cX11_init 125 = .ok (.iload_n 1, 1) := by decide +kernel
theorem dX11_init_126 : decode cX11_init 126 = .ok (.iastore, 1) := by decide +kernel
theorem dX11_init_127 : decode cX11_init 127 = .ok (.aload_n 0, 1) := by decide +kernel
theorem dX11_init_128 : decode cX11_init 128 = .ok (.getfield 7, 3) := by decide +kernel
theorem dX11_init_131 : decode cX11_init 131 = .ok (.bipush 8, 2) := by decide +kernel
theorem dX11_init_133 : decode cX11_init 133 = .ok (.iload_n 1, 1) := by decide +kernel
theorem dX11_init_134 : decode cX11_init 134 = .ok (.imul, 1) := by decide +kernel
theorem dX11_init_135 : decode cX11_init 135 = .ok (.iconst 3, 1) := by decide +kernel
theorem dX11_init_136 : decode cX11_init 136 = .ok (.iadd, 1) := by decide +kernel
theorem dX11_init_137 : decode cX11_init 137 = .ok (.bipush 20, 2) := by decide +kernel
theorem dX11_init_139 : decode cX11_init 139 = .ok (.iastore, 1) := by decide +kernel
theorem dX11_init_140 : decode cX11_init 140 = .ok (.aload_n 0, 1) := by decide +kernel
theorem dX11_init_141 : decode cX11_init 141 = .ok (.getfield 7, 3) := by decide +kernel
theorem dX11_init_144 : decode cX11_init 144 = .ok (.bipush 8, 2) := by decide +kernel
theorem dX11_init_146 : decode cX11_init 146 = .ok (.iload_n 1, 1) := by decide +kernel
theorem dX11_init_147 : decode cX11_init 147 = .ok (.imul, 1) := by decide +kernel
theorem dX11_init_148 : decode cX11_init 148 = .ok (.iconst 4, 1) := by decide +kernel
theorem dX11_init_149 : decode cX11_init 149 = .ok (.iadd, 1) := by decide +kernel
theorem dX11_init_150 : decode cX11_init 150 = .ok (.iconst 2, 1) := by decide +kernel
theorem dX11_init_151 : decode cX11_init 151 = .ok (.iastore, 1) := by decide +kernel
theorem dX11_init_152 : decode cX11_init 152 = .ok (.aload_n 0, 1) := by decide +kernel
theorem dX11_init_153 : decode cX11_init 153 = .ok (.getfield 7, 3) := by decide +kernel
theorem dX11_init_156 : decode cX11_init 156 = .ok (.bipush 8, 2) := by decide +kernel
theorem dX11_init_158 : decode cX11_init 158 = .ok (.iload_n 1, 1) := by decide +kernel
theorem dX11_init_159 : decode cX11_init 159 = .ok (.imul, 1) := by decide +kernel
theorem dX11_init_160 : decode cX11_init 160 = .ok (.iconst 5, 1) := by decide +kernel
theorem dX11_init_161 : decode cX11_init 161 = .ok (.iadd, 1) := by decide +kernel
theorem dX11_init_162 : decode cX11_init 162 = .ok (.iconst 3, 1) := by decide +kernel
theorem dX11_init_163 : decode cX11_init 163 = .ok (.iastore, 1) := by decide +kernel
theorem dX11_init_164 : decode cX11_init 164 = .ok (.iinc 1 1, 3) := by decide +kernel
theorem dX11_init_167 : decode cX11_init 167 = .ok (.goto (-57), 3) := by decide +kernel
theorem dX11_init_170 : decode cX11_init 170 = .ok (.iconst 0, 1) := by decide +kernel
theorem dX11_init_171 : decode cX11_init 171 = .ok (.istore_n 1, 1) := by decide +kernel
theorem dX11_init_172 : decode cX11_init 172 = .ok (.iload_n 1, 1) := by decide +kernel
theorem dX11_init_173 : decode cX11_init 173 = .ok (.bipush 64, 2) := by decide +kernel
theorem dX11_init_175 : decode cX11_init 175 = .ok (.if_icmp .ge 17, 3) := by decide +kernel
theorem dX11_init_178 : decode cX11_init 178 = .ok (.aload_n 0, 1) := by decide +kernel
theorem dX11_init_179 : decode cX11_init 179 = .ok (.getfield 19, 3) := by decide +kernel
theorem dX11_init_182 : decode cX11_init 182 = .ok (.iload_n 1, 1) := by decide +kernel
theorem dX11_init_183 : decode cX11_init 183 = .ok (.bipush (-6), 2) := by decide +kernel
theorem dX11_init_185 : decode cX11_init 185 = .ok (.iastore, 1) := by decide +kernel
theorem dX11_init_186 : decode cX11_init 186 = .ok (.iinc 1 1, 3) := by decide +kernel
theorem dX11_init_189 : decode cX11_init 189 = .ok (.goto (-17), 3) := by decide +kernel
theorem dX11_init_192 : decode cX11_init 192 = .ok (.iconst 0, 1) := by decide +kernel
theorem dX11_init_193 : decode cX11_init 193 = .ok (.istore_n 1, 1) := by decide +kernel
theorem dX11_init_194 : decode cX11_init 194 = .ok (.iload_n 1, 1) := by decide +kernel
theorem dX11_init_195 : decode cX11_init 195 = .ok (.iconst 4, 1) := by decide +kernel
theorem dX11_init_196 : decode cX11_init 196 = .ok (.if_icmp .ge 16, 3) := by decide +kernel
theorem dX11_init_199 : decode cX11_init 199 = .ok (.aload_n 0, 1) := by decide +kernel
theorem dX11_init_200 : decode cX11_init 200 = .ok (.getfield 22, 3) := by decide +kernel
theorem dX11_init_203 : decode cX11_init 203 = .ok (.iload_n 1, 1) := by decide +kernel
theorem dX11_init_204 : decode cX11_init 204 = .ok (.iconst 5, 1) := by decide +kernel
theorem dX11_init_205 : decode cX11_init 205 = .ok (.iastore, 1) := by decide +kernel
theorem dX11_init_206 : decode cX11_init 206 = .ok (.iinc 1 1, 3) := by decide +kernel
theorem dX11_init_209 : decode cX11_init 209 = .ok (.goto (-15), 3) := by decide +kernel
theorem dX11_init_212 : decode cX11_init 212 = .ok (.return_, 1) := by decide +kernel
theorem dX11_in_0 : decode cX11_in 0 = .ok (.lload_n 0, 1) := by decide +kernel
theorem dX11_in_1 : decode cX11_in 1 = .ok (.lload_n 2, 1) := by decide +kernel
theorem dX11_in_2 : decode cX11_in 2 = .ok (.lcmp, 1) := by decide +kernel
theorem dX11_in_3 : decode cX11_in 3 = .ok (.ifCond .lt 14, 3) := by decide +kernel
theorem dX11_in_6 : decode cX11_in 6 = .ok (.lload_n 0, 1) := by decide +kernel
theorem dX11_in_7 : decode cX11_in 7 = .ok (.lload 4, 2) := by decide +kernel
theorem dX11_in_9 : decode cX11_in 9 = .ok (.lcmp, 1) := by decide +kernel
theorem dX11_in_10 : decode cX11_in 10 = .ok (.ifCond .gt 7, 3) := by decide +kernel
theorem dX11_in_13 : decode cX11_in 13 = .ok (.iconst 1, 1) := by decide +kernel
theorem dX11_in_14 : decode cX11_in 14 = .ok (.goto 4, 3) := by decide +kernel
theorem dX11_in_17 : decode cX11_in 17 = .ok (.iconst 0, 1) := by decide +kernel
theorem dX11_in_18 : decode cX11_in 18 = .ok (.ireturn, 1) := by decide +kernel
