theorem dX11_over_75 : decode cX11_over 75 = .ok (.iload 4, 2) := by decide +kernel
theorem dX11_over_77 : decode cX11_over 77 = .ok (.ireturn, 1) := by decide +kernel
theorem dX11_fruit_0 : decode cX11_fruit 0 = .ok (.iload_n 1, 1) := by decide +kernel
theorem dX11_fruit_1 : decode cX11_fruit 1 = .ok (.invokestatic 148, 3) := by decide +kernel
theorem dX11_fruit_4 : decode cX11_fruit 4 = .ok (.ifCond .ne 5, 3) := by decide +kernel
theorem dX11_fruit_7 : decode cX11_fruit 7 = .ok (.iconst (-1), 1) := by decide +kernel
theorem dX11_fruit_8 : decode cX11_fruit 8 = .ok (.ireturn, 1) := by decide +kernel
theorem dX11_fruit_9 : decode cX11_fruit 9 = .ok (.iload_n 2, 1) := by decide +kernel
theorem dX11_fruit_10 : decode cX11_fruit 10 = .ok (.i2l, 1) := by decide +kernel
theorem dX11_fruit_11 : decode cX11_fruit 11 = .ok (.lconst 1, 1) := by decide +kernel
theorem dX11_fruit_12 : decode cX11_fruit 12 = .ok (.ldc2_w 164, 3) := by decide +kernel
theorem dX11_fruit_15 : decode cX11_fruit 15 = .ok (.invokestatic 52, 3) := by decide +kernel
theorem dX11_fruit_18 : decode cX11_fruit 18 = .ok (.ifCond .ne 6, 3) := by decide +kernel
theorem dX11_fruit_21 : decode cX11_fruit 21 = .ok (.bipush (-2), 2) := by decide +kernel
theorem dX11_fruit_23 : decode cX11_fruit 23 = .ok (.ireturn, 1) := by decide +kernel
theorem dX11_fruit_24 : decode cX11_fruit 24 = .ok (.aload_n 0, 1) := by decide +kernel
theorem dX11_fruit_25 : decode cX11_fruit 25 = .ok (.getfield 22, 3) := by decide +kernel
theorem dX11_fruit_28 : decode cX11_fruit 28 = .ok (.iload_n 1, 1) := by decide +kernel
theorem dX11_fruit_29 : decode cX11_fruit 29 = .ok (.iaload, 1) := by decide +kernel
theorem dX11_fruit_30 : decode cX11_fruit 30 = .ok (.istore_n 3, 1) := by decide +kernel
theorem dX11_fruit_31 : decode cX11_fruit 31 = .ok (.aload_n 0, 1) := by decide +kernel
theorem dX11_fruit_32 : decode cX11_fruit 32 = .ok (.getfield 22, 3) := by decide +kernel
theorem dX11_fruit_35 : decode cX11_fruit 35 = .ok (.iload_n 1, 1) := by decide +kernel
theorem dX11_fruit_36 : decode cX11_fruit 36 = .ok (.iload_n 2, 1) := by decide +kernel
theorem dX11_fruit_37 : decode cX11_fruit 37 = .ok (.iastore, 1) := by decide +kernel
theorem dX11_fruit_38 : decode cX11_fruit 38 = .ok (.iload_n 3, 1) := by decide +kernel
theorem dX11_fruit_39 : decode cX11_fruit 39 = .ok (.ireturn, 1) := by decide +kernel
theorem dX11_harvest_0 : decode cX11_harvest 0 = .ok (.iconst 0, 1) := by decide +kernel
theorem dX11_harvest_1 : decode cX11_harvest 1 = .ok (.istore_n 1, 1) := by decide +kernel
theorem dX11_harvest_2 : decode cX11_harvest 2 = .ok (.iconst 0, 1) := by decide +kernel
theorem dX11_harvest_3 : decode cX11_harvest 3 = .ok (.istore_n 2, 1) := by decide +kernel
theorem dX11_harvest_4 : decode cX11_harvest 4 = .ok (.iload_n 2, 1) := by decide +kernel
theorem dX11_harvest_5 : decode cX11_harvest 5 = .ok (.bipush 64, 2) := by decide +kernel
theorem dX11_harvest_7 : decode cX11_harvest 7 = .ok (.if_icmp .ge 42, 3) := by decide +kernel
theorem dX11_harvest_10 : decode cX11_harvest 10 = .ok (.iconst 0, 1) := by decide +kernel
theorem dX11_harvest_11 : decode cX11_harvest 11 = .ok (.istore_n 3, 1) := by decide +kernel
theorem dX11_harvest_12 : decode cX11_harvest 12 = .ok (.iload_n 3, 1) := by decide +kernel
theorem dX11_harvest_13 : decode cX11_harvest 13 = .ok (.iconst 4, 1) := by decide +kernel
theorem dX11_harvest_14 : decode cX11_harvest 14 = .ok (.if_icmp .ge 29, 3) := by decide +kernel
theorem dX11_harvest_17 : decode cX11_harvest 17 = .ok (.iload_n 1, 1) := by decide +kernel
theorem dX11_harvest_18 : decode cX11_harvest 18 = .ok (.aload_n 0, 1) := by decide +kernel
theorem dX11_harvest_19 : decode cX11_harvest 19 = .ok (.getfield 22, 3) := by decide +kernel
theorem dX11_harvest_22 : decode cX11_harvest 22 = .ok (.iload_n 3, 1) := by decide +kernel
theorem dX11_harvest_23 : decode cX11_harvest 23 = .ok (.iaload, 1) := by decide +kernel
theorem dX11_harvest_24 : decode cX11_harvest 24 = .ok (.aload_n 0, 1) := by decide +kernel
theorem dX11_harvest_25 : decode cX11_harvest 25 = .ok (.getfield 13, 3) := by decide +kernel
theorem dX11_harvest_28 : decode cX11_harvest 28 = .ok (.iconst 4, 1) := by decide +kernel
theorem dX11_harvest_29 : decode cX11_harvest 29 = .ok (.iload_n 2, 1) := by decide +kernel
theorem dX11_harvest_30 : decode cX11_harvest 30 = .ok (.imul, 1) := by decide +kernel
theorem dX11_harvest_31 : decode cX11_harvest 31 = .ok (.iload_n 3, 1) := by decide +kernel
theorem dX11_harvest_32 : decode cX11_harvest 32 = .ok (.iadd, 1) := by decide +kernel
theorem dX11_harvest_33 : decode cX11_harvest 33 = .ok (.iaload, 1) := by decide +kernel
theorem dX11_harvest_34 : decode cX11_harvest 34 = .ok (.imul, 1) := by decide +kernel
theorem dX11_harvest_35 : decode cX11_harvest 35 = .ok (.iadd, 1) := by decide +kernel
theorem dX11_harvest_36 : decode cX11_harvest 36 = .ok (.istore_n 1, 1) := by decide +kernel
theorem dX11_harvest_37 : decode cX11_harvest 37 = .ok (.iinc 3 1, 3) := by decide +kernel
theorem dX11_harvest_40 : decode cX11_harvest 40 = .ok (.goto (-28), 3) := by decide +kernel
theorem dX11_harvest_43 : decode cX11_harvest 43 = .ok (.iinc 2 1, 3) := by decide +kernel
theorem dX11_harvest_46 : decode cX11_harvest 46 = .ok (.goto (-42), 3) := by decide +kernel
theorem dX11_harvest_49 : decode cX11_harvest 49 = .ok (.iload_n 1, 1) := by decide +kernel
theorem dX11_harvest_50 : decode cX11_harvest 50 = .ok (.ireturn, 1) := by decide +kernel
theorem dX11_walkedAll_0 : decode cX11_walkedAll 0 = .ok (.iconst 0, 1) := by decide +kernel
theorem dX11_walkedAll_1 : decode cX11_walkedAll 1 = .ok (.istore_n 1, 1) := by decide +kernel
theorem dX11_walkedAll_2 : decode cX11_walkedAll 2 = .ok (.iconst 0, 1) := by decide +kernel
theorem dX11_walkedAll_3 : decode cX11_walkedAll 3 = .ok (.istore_n 2, 1) := by decide +kernel
theorem dX11_walkedAll_4 : decode cX11_walkedAll 4 = .ok (.iload_n 2, 1) := by decide +kernel
theorem dX11_walkedAll_5 : decode cX11_walkedAll 5 = .ok (.iconst 4, 1) := by decide +kernel
theorem dX11_walkedAll_6 : decode cX11_walkedAll 6 = .ok (.if_icmp .ge 19, 3) := by decide +kernel
theorem dX11_walkedAll_9 : decode cX11_walkedAll 9 = .ok (.iload_n 1, 1) := by decide +kernel
theorem dX11_walkedAll_10 : decode cX11_walkedAll 10 = .ok (.aload_n 0, 1) := by decide +kernel
theorem dX11_walkedAll_11 : decode cX11_walkedAll 11 = .ok (.iload_n 2, 1) := by decide +kernel
theorem dX11_walkedAll_12 : decode cX11_walkedAll 12 = .ok (.bipush 6, 2) := by decide +kernel
theorem dX11_walkedAll_14 : decode cX11_walkedAll 14 = .ok (.invokevirtual 76, 3) := by decide +kernel
theorem dX11_walkedAll_17 : decode cX11_walkedAll 17 = .ok (.iadd, 1) := by decide +kernel
theorem dX11_walkedAll_18 : decode cX11_walkedAll 18 = .ok (.istore_n 1, 1) := by decide +kernel
theorem dX11_walkedAll_19 : decode cX11_walkedAll 19 = .ok (.iinc 2 1, 3) := by decide +kernel
theorem dX11_walkedAll_22 : decode cX11_walkedAll 22 = .ok (.goto (-18), 3) := by decide +kernel
theorem dX11_walkedAll_25 : decode cX11_walkedAll 25 = .ok (.iload_n 1, 1) := by decide +kernel
theorem dX11_walkedAll_26 : decode cX11_walkedAll 26 = .ok (.ireturn, 1) := by decide +kernel
theorem dX11_partOf_0 : decode cX11_partOf 0 = .ok (.aload_n 0, 1) := by decide +kernel
theorem dX11_partOf_1 : decode cX11_partOf 1 = .ok (.invokevirtual 219, 3) := by decide +kernel
theorem dX11_partOf_4 : decode cX11_partOf 4 = .ok (.ifCond .ne 7, 3) := by decide +kernel
theorem dX11_partOf_7 : decode cX11_partOf 7 = .ok (.iconst 1, 1) := by decide +kernel
theorem dX11_partOf_8 : decode cX11_partOf 8 = .ok (.goto 10, 3) := by decide +kernel
theorem dX11_partOf_11 : decode cX11_partOf 11 = .ok (.aload_n 0, 1) := by decide +kernel
theorem dX11_partOf_12 : decode cX11_partOf 12 = .ok (.iload_n 1, 1) := by decide +kernel
theorem dX11_partOf_13 : decode cX11_partOf 13 = .ok (.bipush 6, 2) := by decide +kernel
theorem dX11_partOf_15 : decode cX11_partOf 15 = .ok (.invokevirtual 76, 3) := by decide +kernel
theorem dX11_partOf_18 : decode cX11_partOf 18 = .ok (.ireturn, 1) := by decide +kernel
theorem dX11_restOf_0 : decode cX11_restOf 0 = .ok (.aload_n 0, 1) := by decide +kernel
theorem dX11_restOf_1 : decode cX11_restOf 1 = .ok (.invokevirtual 222, 3) := by decide +kernel
theorem dX11_restOf_4 : decode cX11_restOf 4 = .ok (.i2l, 1) := by decide +kernel
theorem dX11_restOf_5 : decode cX11_restOf 5 = .ok (.aload_n 0, 1) := by decide +kernel
theorem dX11_restOf_6 : decode cX11_restOf 6 = .ok (.iload_n 1, 1) := by decide +kernel
theorem dX11_restOf_7 : decode cX11_restOf 7 = .ok (.invokevirtual 225, 3) := by decide +kernel
theorem dX11_restOf_10 : decode cX11_restOf 10 = .ok (.i2l, 1) := by decide +kernel
theorem dX11_restOf_11 : decode cX11_restOf 11 = .ok (.lmul, 1) := by decide +kernel
theorem dX11_restOf_12 : decode cX11_restOf 12 = .ok (.iload_n 2, 1) := by decide +kernel
theorem dX11_restOf_13 : decode cX11_restOf 13 = .ok (.i2l, 1) := by decide +kernel
theorem dX11_restOf_14 : decode cX11_restOf 14 = .ok (.lrem, 1) := by decide +kernel
theorem dX11_restOf_15 : decode cX11_restOf 15 = .ok (.lreturn, 1) := by decide +kernel
theorem dX11_share_0 : decode cX11_share 0 = .ok (.iload_n 1, 1) := by decide +kernel
theorem dX11_share_1 : decode cX11_share 1 = .ok (.iconst (-1), 1) := by decide +kernel
theorem dX11_share_2 : decode cX11_share 2 = .ok (.if_icmp .eq 12, 3) := by decide +kernel
theorem dX11_share_5 : decode cX11_share 5 = .ok (.iload_n 1, 1) := by decide +kernel
theorem dX11_share_6 : decode cX11_share 6 = .ok (.invokestatic 72, 3) := by decide +kernel
theorem dX11_share_9 : decode cX11_share 9 = .ok (.ifCond .ne 5, 3) := by decide +kernel
theorem dX11_share_12 : decode cX11_share 12 = .ok (.iconst (-1), 1) := by decide +kernel
theorem dX11_share_13 : decode cX11_share 13 = .ok (.ireturn, 1) := by decide +kernel
theorem dX11_share_14 : decode cX11_share 14 = .ok (.aload_n 0, 1) := by decide +kernel
theorem dX11_share_15 : decode cX11_share 15 = .ok (.invokevirtual 222, 3) := by decide +kernel
theorem dX11_share_18 : decode cX11_share 18 = .ok (.istore_n 2, 1) := by decide +kernel
theorem dX11_share_19 : decode cX11_share 19 = .ok (.iload_n 1, 1) := by decide +kernel
theorem dX11_share_20 : decode cX11_share 20 = .ok (.iconst (-1), 1) := by decide +kernel
theorem dX11_share_21 : decode cX11_share 21 = .ok (.if_icmp .ne 5, 3) := by decide +kernel
theorem dX11_share_24 : decode cX11_share 24 = .ok (.iload_n 2, 1) := by decide +kernel
theorem dX11_share_25 : decode cX11_share 25 = .ok (.ireturn, 1) := by decide +kernel
theorem dX11_share_26 : decode cX11_share 26 = .ok (.aload_n 0, 1) := by decide +kernel
theorem dX11_share_27 : decode cX11_share 27 = .ok (.invokevirtual 219, 3) := by decide +kernel
theorem dX11_share_30 : decode cX11_share 30 = .ok (.ifCond .ne 7, 3) := by decide +kernel
theorem dX11_share_33 : decode cX11_share 33 = .ok (.iconst 4, 1) := by decide +kernel
theorem dX11_share_34 : decode cX11_share 34 = .ok (.goto 7, 3) := by decide +kernel
theorem dX11_share_37 : decode cX11_share 37 = .ok (.aload_n 0, 1) := by decide +kernel
theorem dX11_share_38 : decode cX11_share 38 = .ok (.invokevirtual 219, 3) := by decide +kernel
theorem dX11_share_41 : decode cX11_share 41 = .ok (.istore_n 3, 1) := by decide +kernel
theorem dX11_share_42 : decode cX11_share 42 = .ok (.iload_n 2, 1) := by decide +kernel
theorem dX11_share_43 : decode cX11_share 43 = .ok (.istore 4, 2) := by decide +kernel
theorem dX11_share_45 : decode cX11_share 45 = .ok (.iconst 0, 1) := by decide +kernel
theorem dX11_share_46 : decode cX11_share 46 = .ok (.istore 5, 2) := by decide +kernel
theorem dX11_share_48 : decode cX11_share 48 = .ok (.iconst 0, 1) := by decide +kernel
theorem dX11_share_49 : decode cX11_share 49 = .ok (.istore 6, 2) := by decide +kernel
theorem dX11_share_51 : decode cX11_share 51 = .ok (.iload 6, 2) := by decide +kernel
theorem dX11_share_53 : decode cX11_share 53 = .ok (.iconst 4, 1) := by decide +kernel
theorem dX11_share_54 : decode cX11_share 54 = .ok (.if_icmp .ge 74, 3) := by decide +kernel
theorem dX11_share_57 : decode cX11_share 57 = .ok (.iload 4, 2) := by decide +kernel
theorem dX11_share_59 : decode cX11_share 59 = .ok (.iload_n 2, 1) := by decide +kernel
theorem dX11_share_60 : decode cX11_share 60 = .ok (.i2l, 1) := by decide +kernel
theorem dX11_share_61 : decode cX11_share 61 = .ok (.aload_n 0, 1) := by decide +kernel
theorem dX11_share_62 : decode cX11_share 62 = .ok (.iload 6, 2) := by decide +kernel
theorem dX11_share_64 : decode cX11_share 64 = .ok (.invokevirtual 225, 3) := by decide +kernel
theorem dX11_share_67 : decode cX11_share 67 = .ok (.i2l, 1) := by decide +kernel
theorem dX11_share_68 : decode cX11_share 68 = .ok (.lmul, 1) := by decide +kernel
theorem dX11_share_69 : decode cX11_share 69 = .ok (.iload_n 3, 1) := by decide +kernel
theorem dX11_share_70 : decode cX11_share 70 = .ok (.i2l, 1) := by decide +kernel
theorem dX11_share_71 : decode cX11_share 71 = .ok (.ldiv, 1) := by decide +kernel
theorem dX11_share_72 : decode cX11_share 72 = .ok (.l2i, 1) := by decide +kernel
theorem dX11_share_73 : decode cX11_share 73 = .ok (.isub, 1) := by decide +kernel
theorem dX11_share_74 : decode cX11_share 74 = .ok (.istore 4, 2) := by decide +kernel
theorem dX11_share_76 : decode cX11_share 76 = .ok (.aload_n 0, 1) := by decide +kernel
theorem dX11_share_77 : decode cX11_share 77 = .ok (.iload 6, 2) := by decide +kernel
theorem dX11_share_79 : decode cX11_share 79 = .ok (.iload_n 3, 1) := by decide +kernel
theorem dX11_share_80 : decode cX11_share 80 = .ok (.invokevirtual 228, 3) := by decide +kernel
theorem dX11_share_83 : decode cX11_share 83 = .ok (.aload_n 0, 1) := by decide +kernel
theorem dX11_share_84 : decode cX11_share 84 = .ok (.iload_n 1, 1) := by decide +kernel
theorem dX11_share_85 : decode cX11_share 85 = .ok (.iload_n 3, 1) := by decide +kernel
theorem dX11_share_86 : decode cX11_share 86 = .ok (.invokevirtual 228, 3) := by decide +kernel
theorem dX11_share_89 : decode cX11_share 89 = .ok (.lsub, 1) := by decide +kernel
theorem dX11_share_90 : decode cX11_share 90 = .ok (.lstore 7, 2) := by decide +kernel
theorem dX11_share_92 : decode cX11_share 92 = .ok (.iload 5, 2) := by decide +kernel
theorem dX11_share_94 : decode cX11_share 94 = .ok (.lload 7, 2) := by decide +kernel
theorem dX11_share_96 : decode cX11_share 96 = .ok (.lconst 0, 1) := by decide +kernel
theorem dX11_share_97 : decode cX11_share 97 = .ok (.lcmp, 1) := by decide +kernel
theorem dX11_share_98 : decode cX11_share 98 = .ok (.ifCond .gt 16, 3) := by decide +kernel
theorem dX11_share_101 : decode cX11_share 101 = .ok (.lload 7, 2) := by decide +kernel
theorem dX11_share_103 : decode cX11_share 103 = .ok (.lconst 0, 1) := by decide +kernel
theorem dX11_share_104 : decode cX11_share 104 = .ok (.lcmp, 1) := by decide +kernel
theorem dX11_share_105 : decode cX11_share 105 = .ok (.ifCond .ne 13, 3) := by decide +kernel
theorem dX11_share_108 : decode cX11_share 108 = .ok (.iload 6, 2) := by decide +kernel
theorem dX11_share_110 : decode cX11_share 110 = .ok (.iload_n 1, 1) := by decide +kernel
theorem dX11_share_111 : decode cX11_share 111 = .ok (.if_icmp .ge 7, 3) := by decide +kernel
theorem dX11_share_114 : decode cX11_share 114 = .ok (.iconst 1, 1) := by decide +kernel
theorem dX11_share_115 : decode cX11_share 115 = .ok (.goto 4, 3) := by decide +kernel
theorem dX11_share_118 : decode cX11_share 118 = .ok (.iconst 0, 1) := by decide +kernel
theorem dX11_share_119 : decode cX11_share 119 = .ok (.iadd, 1) := by decide +kernel
theorem dX11_share_120 : decode cX11_share 120 = .ok (.istore 5, 2) := by decide +kernel
theorem dX11_share_122 : decode cX11_share 122 = .ok (.iinc 6 1, 3) := by decide +kernel
theorem dX11_share_125 : decode cX11_share 125 = .ok (.goto (-74), 3) := by decide +kernel
theorem dX11_share_128 : decode cX11_share 128 = .ok (.iload_n 2, 1) := by decide +kernel
theorem dX11_share_129 : decode cX11_share 129 = .ok (.i2l, 1) := by decide +kernel
theorem dX11_share_130 : decode cX11_share 130 = .ok (.aload_n 0, 1) := by decide +kernel
theorem dX11_share_131 : decode cX11_share 131 = .ok (.iload_n 1, 1) := by decide +kernel
theorem dX11_share_132 : decode cX11_share 132 = .ok (.invokevirtual 225, 3) := by decide +kernel
theorem dX11_share_135 : decode cX11_share 135 = .ok (.i2l, 1) := by decide +kernel
theorem dX11_share_136 : decode cX11_share 136 = .ok (.lmul, 1) := by decide +kernel
theorem dX11_share_137 : decode cX11_share 137 = .ok (.iload_n 3, 1) := by decide +kernel
theorem dX11_share_138 : decode cX11_share 138 = .ok (.i2l, 1) := by decide +kernel
theorem dX11_share_139 : decode cX11_share 139 = .ok (.ldiv, 1) := by decide +kernel
theorem dX11_share_140 : decode cX11_share 140 = .ok (.l2i, 1) := by decide +kernel
theorem dX11_share_141 : decode cX11_share 141 = .ok (.iload 5, 2) := by decide +kernel
theorem dX11_share_143 : decode cX11_share 143 = .ok (.iload 4, 2) := by decide +kernel
theorem dX11_share_145 : decode cX11_share 145 = .ok (.if_icmp .ge 7, 3) := by decide +kernel
theorem dX11_share_148 : decode cX11_share 148 = .ok (.iconst 1, 1) := by decide +kernel
theorem dX11_share_149 : decode cX11_share 149 = .ok (.goto 4, 3) := by decide +kernel
theorem dX11_share_152 : decode cX11_share 152 = .ok (.iconst 0, 1) := by decide +kernel
theorem dX11_share_153 : decode cX11_share 153 = .ok (.iadd, 1) := by decide +kernel
theorem dX11_share_154 : decode cX11_share 154 = .ok (.ireturn, 1) := by decide +kernel
theorem dX11_facing_0 : decode cX11_facing 0 = .ok (.iload_n 1, 1) := by decide +kernel
theorem dX11_facing_1 : decode cX11_facing 1 = .ok (.invokestatic 72, 3) := by decide +kernel
theorem dX11_facing_4 : decode cX11_facing 4 = .ok (.ifCond .ne 5, 3) := by decide +kernel
theorem dX11_facing_7 : decode cX11_facing 7 = .ok (.iconst (-1), 1) := by decide +kernel
theorem dX11_facing_8 : decode cX11_facing 8 = .ok (.ireturn, 1) := by decide +kernel
theorem dX11_facing_9 : decode cX11_facing 9 = .ok (.iload_n 2, 1) := by decide +kernel
theorem dX11_facing_10 : decode cX11_facing 10 = .ok (.i2l, 1) := by decide +kernel
theorem dX11_facing_11 : decode cX11_facing 11 = .ok (.lconst 0, 1) := by decide +kernel
theorem dX11_facing_12 : decode cX11_facing 12 = .ok (.ldc2_w 60, 3) := by decide +kernel
theorem dX11_facing_15 : decode cX11_facing 15 = .ok (.invokestatic 52, 3) := by decide +kernel
theorem dX11_facing_18 : decode cX11_facing 18 = .ok (.ifCond .ne 6, 3) := by decide +kernel
theorem dX11_facing_21 : decode cX11_facing 21 = .ok (.bipush (-2), 2) := by decide +kernel
theorem dX11_facing_23 : decode cX11_facing 23 = .ok (.ireturn, 1) := by decide +kernel
theorem dX11_facing_24 : decode cX11_facing 24 = .ok (.aload_n 0, 1) := by decide +kernel
theorem dX11_facing_25 : decode cX11_facing 25 = .ok (.iload_n 1, 1) := by decide +kernel
theorem dX11_facing_26 : decode cX11_facing 26 = .ok (.iconst 4, 1) := by decide +kernel
theorem dX11_facing_27 : decode cX11_facing 27 = .ok (.invokevirtual 76, 3) := by decide +kernel
theorem dX11_facing_30 : decode cX11_facing 30 = .ok (.iconst 2, 1) := by decide +kernel
theorem dX11_facing_31 : decode cX11_facing 31 = .ok (.isub, 1) := by decide +kernel
theorem dX11_facing_32 : decode cX11_facing 32 = .ok (.istore_n 3, 1) := by decide +kernel
theorem dX11_facing_33 : decode cX11_facing 33 = .ok (.iconst 1, 1) := by decide +kernel
theorem dX11_facing_34 : decode cX11_facing 34 = .ok (.aload_n 0, 1) := by decide +kernel
theorem dX11_facing_35 : decode cX11_facing 35 = .ok (.iload_n 1, 1) := by decide +kernel
theorem dX11_facing_36 : decode cX11_facing 36 = .ok (.iconst 1, 1) := by decide +kernel
theorem dX11_facing_37 : decode cX11_facing 37 = .ok (.invokevirtual 76, 3) := by decide +kernel
theorem dX11_facing_40 : decode cX11_facing 40 = .ok (.ishl, 1) := by decide +kernel
theorem dX11_facing_41 : decode cX11_facing 41 = .ok (.istore 4, 2) := by decide +kernel
theorem dX11_facing_43 : decode cX11_facing 43 = .ok (.iconst 0, 1) := by decide +kernel
theorem dX11_facing_44 : decode cX11_facing 44 = .ok (.istore 5, 2) := by decide +kernel
theorem dX11_facing_46 : decode cX11_facing 46 = .ok (.iload 5, 2) := by decide +kernel
theorem dX11_facing_48 : decode cX11_facing 48 = .ok (.bipush 8, 2) := by decide +kernel
theorem dX11_facing_50 : decode cX11_facing 50 = .ok (.if_icmp .gt 95, 3) := by decide +kernel
theorem dX11_facing_53 : decode cX11_facing 53 = .ok (.iload 4, 2) := by decide +kernel
theorem dX11_facing_55 : decode cX11_facing 55 = .ok (.iload_n 2, 1) := by decide +kernel
theorem dX11_facing_56 : decode cX11_facing 56 = .ok (.ishr, 1) := by decide +kernel
theorem dX11_facing_57 : decode cX11_facing 57 = .ok (.iconst 1, 1) := by decide +kernel
theorem dX11_facing_58 : decode cX11_facing 58 = .ok (.iand, 1) := by decide +kernel
theorem dX11_facing_59 : decode cX11_facing 59 = .ok (.iconst 1, 1) := by decide +kernel
theorem dX11_facing_60 : decode cX11_facing 60 = .ok (.if_icmp .ne 6, 3) := by decide +kernel
theorem dX11_facing_63 : decode cX11_facing 63 = .ok (.iload 5, 2) := by decide +kernel
theorem dX11_facing_65 : decode cX11_facing 65 = .ok (.ireturn, 1) := by decide +kernel
theorem dX11_facing_66 : decode cX11_facing 66 = .ok (.iload 4, 2) := by decide +kernel
theorem dX11_facing_68 : decode cX11_facing 68 = .ok (.istore 6, 2) := by decide +kernel
theorem dX11_facing_70 : decode cX11_facing 70 = .ok (.iconst 0, 1) := by decide +kernel
theorem dX11_facing_71 : decode cX11_facing 71 = .ok (.istore 7, 2) := by decide +kernel
theorem dX11_facing_73 : decode cX11_facing 73 = .ok (.iload 7, 2) := by decide +kernel
theorem dX11_facing_75 : decode cX11_facing 75 = .ok (.bipush 8, 2) := by decide +kernel
theorem dX11_facing_77 : decode cX11_facing 77 = .ok (.if_icmp .ge 58, 3) := by decide +kernel
theorem dX11_facing_80 : decode cX11_facing 80 = .ok (.iload 6, 2) := by decide +kernel
theorem dX11_facing_82 : decode cX11_facing 82 = .ok (.iload 4, 2) := by decide +kernel
theorem dX11_facing_84 : decode cX11_facing 84 = .ok (.iload 7, 2) := by decide +kernel
theorem dX11_facing_86 : decode cX11_facing 86 = .ok (.ishr, 1) := by decide +kernel
theorem dX11_facing_87 : decode cX11_facing 87 = .ok (.iconst 1, 1) := by decide +kernel
theorem dX11_facing_88 : decode cX11_facing 88 = .ok (.iand, 1) := by decide +kernel
theorem dX11_facing_89 : decode cX11_facing 89 = .ok (.iconst 1, 1) := by decide +kernel
theorem dX11_facing_90 : decode cX11_facing 90 = .ok (.if_icmp .ne 35, 3) := by decide +kernel
theorem dX11_facing_93 : decode cX11_facing 93 = .ok (.iconst 1, 1) := by decide +kernel
theorem dX11_facing_94 : decode cX11_facing 94 = .ok (.iload 7, 2) := by decide +kernel
theorem dX11_facing_96 : decode cX11_facing 96 = .ok (.iload_n 3, 1) := by decide +kernel
theorem dX11_facing_97 : decode cX11_facing 97 = .ok (.iadd, 1) := by decide +kernel
theorem dX11_facing_98 : decode cX11_facing 98 = .ok (.iconst 1, 1) := by decide +kernel
theorem dX11_facing_99 : decode cX11_facing 99 = .ok (.iadd, 1) := by decide +kernel
theorem dX11_facing_100 : decode cX11_facing 100 = .ok (.bipush 8, 2) := by decide +kernel
theorem dX11_facing_102 : decode cX11_facing 102 = .ok (.iadd, 1) := by decide +kernel
theorem dX11_facing_103 : decode cX11_facing 103 = .ok (.bipush 8, 2) := by decide +kernel
theorem dX11_facing_105 : decode cX11_facing 105 = .ok (.irem, 1) := by decide +kernel
theorem dX11_facing_106 : decode cX11_facing 106 = .ok (.ishl, 1) := by decide +kernel
theorem dX11_facing_107 : decode cX11_facing 107 = .ok (.iconst 1, 1) := by decide +kernel
theorem dX11_facing_108 : decode cX11_facing 108 = .ok (.iload 7, 2) := by decide +kernel
theorem dX11_facing_110 : decode cX11_facing 110 = .ok (.iload_n 3, 1) := by decide +kernel
theorem dX11_facing_111 : decode cX11_facing 111 = .ok (.iadd, 1) := by decide +kernel
theorem dX11_facing_112 : decode cX11_facing 112 = .ok (.iconst 1, 1) := by decide +kernel
theorem dX11_facing_113 : decode cX11_facing 113 = .ok (.isub, 1) := by decide +kernel
theorem dX11_facing_114 : decode cX11_facing 114 = .ok (.bipush 8, 2) := by decide +kernel
theorem dX11_facing_116 : decode cX11_facing 116 = .ok (.iadd, 1) := by decide +kernel
theorem dX11_facing_117 : decode cX11_facing 117 = .ok (.bipush 8, 2) := by decide +kernel
theorem dX11_facing_119 : decode cX11_facing 119 = .ok (.irem, 1) := by decide +kernel
theorem dX11_facing_120 : decode cX11_facing 120 = .ok (.ishl, 1) := by decide +kernel
theorem dX11_facing_121 : decode cX11_facing 121 = .ok (.ior, 1) := by decide +kernel
theorem dX11_facing_122 : decode cX11_facing 122 = .ok (.goto 4, 3) := by decide +kernel
theorem dX11_facing_125 : decode cX11_facing 125 = .ok (.iconst 0, 1) := by decide +kernel
theorem dX11_facing_126 : decode cX11_facing 126 = .ok (.ior, 1) := by decide +kernel
theorem dX11_facing_127 : decode cX11_facing 127 = .ok (.istore 6, 2) := by decide +kernel
theorem dX11_facing_129 : decode cX11_facing 129 = .ok (.iinc 7 1, 3) := by decide +kernel
theorem dX11_facing_132 : decode cX11_facing 132 = .ok (.goto (-59), 3) := by decide +kernel
theorem dX11_facing_135 : decode cX11_facing 135 = .ok (.iload 6, 2) := by decide +kernel
theorem dX11_facing_137 : decode cX11_facing 137 = .ok (.istore 4, 2) := by decide +kernel
theorem dX11_facing_139 : decode cX11_facing 139 = .ok (.iinc 5 1, 3) := by decide +kernel
theorem dX11_facing_142 : decode cX11_facing 142 = .ok (.goto (-96), 3) := by decide +kernel
theorem dX11_facing_145 : decode cX11_facing 145 = .ok (.bipush (-6), 2) := by decide +kernel
theorem dX11_facing_147 : decode cX11_facing 147 = .ok (.ireturn, 1) := by decide +kernel
theorem dX11_rest_0 : decode cX11_rest 0 = .ok (.iload_n 1, 1) := by decide +kernel
theorem dX11_rest_1 : decode cX11_rest 1 = .ok (.invokestatic 72, 3) := by decide +kernel
theorem dX11_rest_4 : decode cX11_rest 4 = .ok (.ifCond .ne 5, 3) := by decide +kernel
theorem dX11_rest_7 : decode cX11_rest 7 = .ok (.iconst (-1), 1) := by decide +kernel
theorem dX11_rest_8 : decode cX11_rest 8 = .ok (.ireturn, 1) := by decide +kernel
theorem dX11_rest_9 : decode cX11_rest 9 = .ok (.bipush (-6), 2) := by decide +kernel
theorem dX11_rest_11 : decode cX11_rest 11 = .ok (.istore_n 2, 1) := by decide +kernel
theorem dX11_rest_12 : decode cX11_rest 12 = .ok (.iconst 0, 1) := by decide +kernel
theorem dX11_rest_13 : decode cX11_rest 13 = .ok (.istore_n 3, 1) := by decide +kernel
theorem dX11_rest_14 : decode cX11_rest 14 = .ok (.iload_n 3, 1) := by decide +kernel
theorem dX11_rest_15 : decode cX11_rest 15 = .ok (.bipush 64, 2) := by decide +kernel
theorem dX11_rest_17 : decode cX11_rest 17 = .ok (.if_icmp .ge 62, 3) := by decide +kernel
theorem dX11_rest_20 : decode cX11_rest 20 = .ok (.iload_n 2, 1) := by decide +kernel
theorem dX11_rest_21 : decode cX11_rest 21 = .ok (.ifCond .lt 26, 3) := by decide +kernel
theorem dX11_rest_24 : decode cX11_rest 24 = .ok (.iload_n 3, 1) := by decide +kernel
theorem dX11_rest_25 : decode cX11_rest 25 = .ok (.aload_n 0, 1) := by decide +kernel
theorem dX11_rest_26 : decode cX11_rest 26 = .ok (.iload_n 1, 1) := by decide +kernel
theorem dX11_rest_27 : decode cX11_rest 27 = .ok (.iconst 0, 1) := by decide +kernel
theorem dX11_rest_28 : decode cX11_rest 28 = .ok (.invokevirtual 76, 3) := by decide +kernel
theorem dX11_rest_31 : decode cX11_rest 31 = .ok (.invokestatic 114, 3) := by decide +kernel
theorem dX11_rest_34 : decode cX11_rest 34 = .ok (.iload_n 2, 1) := by decide +kernel
theorem dX11_rest_35 : decode cX11_rest 35 = .ok (.aload_n 0, 1) := by decide +kernel
theorem dX11_rest_36 : decode cX11_rest 36 = .ok (.iload_n 1, 1) := by decide +kernel
theorem dX11_rest_37 : decode cX11_rest 37 = .ok (.iconst 0, 1) := by decide +kernel
theorem dX11_rest_38 : decode cX11_rest 38 = .ok (.invokevirtual 76, 3) := by decide +kernel
theorem dX11_rest_41 : decode cX11_rest 41 = .ok (.invokestatic 114, 3) := by decide +kernel
theorem dX11_rest_44 : decode cX11_rest 44 = .ok (.if_icmp .ge 7, 3) := by decide +kernel
theorem dX11_rest_47 : decode cX11_rest 47 = .ok (.iconst 1, 1) := by decide +kernel
theorem dX11_rest_48 : decode cX11_rest 48 = .ok (.goto 4, 3) := by decide +kernel
theorem dX11_rest_51 : decode cX11_rest 51 = .ok (.iconst 0, 1) := by decide +kernel
theorem dX11_rest_52 : decode cX11_rest 52 = .ok (.istore 4, 2) := by decide +kernel
theorem dX11_rest_54 : decode cX11_rest 54 = .ok (.aload_n 0, 1) := by decide +kernel
theorem dX11_rest_55 : decode cX11_rest 55 = .ok (.iload_n 3, 1) := by decide +kernel
theorem dX11_rest_56 : decode cX11_rest 56 = .ok (.invokevirtual 151, 3) := by decide +kernel
theorem dX11_rest_59 : decode cX11_rest 59 = .ok (.ifCond .ne 12, 3) := by decide +kernel
theorem dX11_rest_62 : decode cX11_rest 62 = .ok (.iload 4, 2) := by decide +kernel
theorem dX11_rest_64 : decode cX11_rest 64 = .ok (.ifCond .eq 7, 3) := by decide +kernel
theorem dX11_rest_67 : decode cX11_rest 67 = .ok (.iload_n 3, 1) := by decide +kernel
theorem dX11_rest_68 : decode cX11_rest 68 = .ok (.goto 4, 3) := by decide +kernel
theorem dX11_rest_71 : decode cX11_rest 71 = .ok (.iload_n 2, 1) := by decide +kernel
theorem dX11_rest_72 : decode cX11_rest 72 = .ok (.istore_n 2, 1) := by decide +kernel
theorem dX11_rest_73 : decode cX11_rest 73 = .ok (.iinc 3 1, 3) := by decide +kernel
theorem dX11_rest_76 : decode cX11_rest 76 = .ok (.goto (-62), 3) := by decide +kernel
theorem dX11_rest_79 : decode cX11_rest 79 = .ok (.iload_n 2, 1) := by decide +kernel
theorem dX11_rest_80 : decode cX11_rest 80 = .ok (.ireturn, 1) := by decide +kernel
theorem dX11_pass_0 : decode cX11_pass 0 = .ok (.aload_n 0, 1) := by decide +kernel
theorem dX11_pass_1 : decode cX11_pass 1 = .ok (.getfield 232, 3) := by decide +kernel
theorem dX11_pass_4 : decode cX11_pass 4 = .ok (.ifCond .eq 7, 3) := by decide +kernel
theorem dX11_pass_7 : decode cX11_pass 7 = .ok (.iload_n 1, 1) := by decide +kernel
theorem dX11_pass_8 : decode cX11_pass 8 = .ok (.goto 12, 3) := by decide +kernel
theorem dX11_pass_11 : decode cX11_pass 11 = .ok (.aload_n 0, 1) := by decide +kernel
theorem dX11_pass_12 : decode cX11_pass 12 = .ok (.getfield 43, 3) := by decide +kernel
theorem dX11_pass_15 : decode cX11_pass 15 = .ok (.aload_n 0, 1) := by decide +kernel
theorem dX11_pass_16 : decode cX11_pass 16 = .ok (.getfield 236, 3) := by decide +kernel
theorem dX11_pass_19 : decode cX11_pass 19 = .ok (.iaload, 1) := by decide +kernel
theorem dX11_pass_20 : decode cX11_pass 20 = .ok (.istore_n 2, 1) := by decide +kernel
theorem dX11_pass_21 : decode cX11_pass 21 = .ok (.aload_n 0, 1) := by decide +kernel
theorem dX11_pass_22 : decode cX11_pass 22 = .ok (.getfield 43, 3) := by decide +kernel
theorem dX11_pass_25 : decode cX11_pass 25 = .ok (.aload_n 0, 1) := by decide +kernel
theorem dX11_pass_26 : decode cX11_pass 26 = .ok (.getfield 236, 3) := by decide +kernel
theorem dX11_pass_29 : decode cX11_pass 29 = .ok (.iload_n 2, 1) := by decide +kernel
theorem dX11_pass_30 : decode cX11_pass 30 = .ok (.iastore, 1) := by decide +kernel
theorem dX11_pass_31 : decode cX11_pass 31 = .ok (.aload_n 0, 1) := by decide +kernel
theorem dX11_pass_32 : decode cX11_pass 32 = .ok (.dup, 1) := by decide +kernel
theorem dX11_pass_33 : decode cX11_pass 33 = .ok (.getfield 236, 3) := by decide +kernel
theorem dX11_pass_36 : decode cX11_pass 36 = .ok (.iconst 1, 1) := by decide +kernel
theorem dX11_pass_37 : decode cX11_pass 37 = .ok (.iadd, 1) := by decide +kernel
theorem dX11_pass_38 : decode cX11_pass 38 = .ok (.putfield 236, 3) := by decide +kernel
theorem dX11_pass_41 : decode cX11_pass 41 = .ok (.iload_n 2, 1) := by decide +kernel
theorem dX11_pass_42 : decode cX11_pass 42 = .ok (.ireturn, 1) := by decide +kernel
theorem dX11_passAll_0 : decode cX11_passAll 0 = .ok (.iconst 0, 1) := by decide +kernel
theorem dX11_passAll_1 : decode cX11_passAll 1 = .ok (.istore_n 1, 1) := by decide +kernel
theorem dX11_passAll_2 : decode cX11_passAll 2 = .ok (.iload_n 1, 1) := by decide +kernel
theorem dX11_passAll_3 : decode cX11_passAll 3 = .ok (.bipush 32, 2) := by decide +kernel
theorem dX11_passAll_5 : decode cX11_passAll 5 = .ok (.if_icmp .ge 25, 3) := by decide +kernel
theorem dX11_passAll_8 : decode cX11_passAll 8 = .ok (.aload_n 0, 1) := by decide +kernel
theorem dX11_passAll_9 : decode cX11_passAll 9 = .ok (.getfield 7, 3) := by decide +kernel
theorem dX11_passAll_12 : decode cX11_passAll 12 = .ok (.iload_n 1, 1) := by decide +kernel
theorem dX11_passAll_13 : decode cX11_passAll 13 = .ok (.aload_n 0, 1) := by decide +kernel
theorem dX11_passAll_14 : decode cX11_passAll 14 = .ok (.aload_n 0, 1) := by decide +kernel
theorem dX11_passAll_15 : decode cX11_passAll 15 = .ok (.getfield 7, 3) := by decide +kernel
theorem dX11_passAll_18 : decode cX11_passAll 18 = .ok (.iload_n 1, 1) := by decide +kernel
theorem dX11_passAll_19 : decode cX11_passAll 19 = .ok (.iaload, 1) := by decide +kernel
theorem dX11_passAll_20 : decode cX11_passAll 20 = .ok (.invokevirtual 239, 3) := by decide +kernel
theorem dX11_passAll_23 : decode cX11_passAll 23 = .ok (.iastore, 1) := by decide +kernel
theorem dX11_passAll_24 : decode cX11_passAll 24 = .ok (.iinc 1 1, 3) := by decide +kernel
theorem dX11_passAll_27 : decode cX11_passAll 27 = .ok (.goto (-25), 3) := by decide +kernel
theorem dX11_passAll_30 : decode cX11_passAll 30 = .ok (.iconst 0, 1) := by decide +kernel
theorem dX11_passAll_31 : decode cX11_passAll 31 = .ok (.istore_n 1, 1) := by decide +kernel
theorem dX11_passAll_32 : decode cX11_passAll 32 = .ok (.iload_n 1, 1) := by decide +kernel
theorem dX11_passAll_33 : decode cX11_passAll 33 = .ok (.sipush 256, 3) := by decide +kernel
theorem dX11_passAll_36 : decode cX11_passAll 36 = .ok (.if_icmp .ge 25, 3) := by decide +kernel
theorem dX11_passAll_39 : decode cX11_passAll 39 = .ok (.aload_n 0, 1) := by decide +kernel
theorem dX11_passAll_40 : decode cX11_passAll 40 = .ok (.getfield 13, 3) := by decide +kernel
theorem dX11_passAll_43 : decode cX11_passAll 43 = .ok (.iload_n 1, 1) := by decide +kernel
theorem dX11_passAll_44 : decode cX11_passAll 44 = .ok (.aload_n 0, 1) := by decide +kernel
theorem dX11_passAll_45 : decode cX11_passAll 45 = .ok (.aload_n 0, 1) := by decide +kernel
theorem dX11_passAll_46 : decode cX11_passAll 46 = .ok (.getfield 13, 3) := by decide +kernel
theorem dX11_passAll_49 : decode cX11_passAll 49 = .ok (.iload_n 1, 1) := by decide +kernel
theorem dX11_passAll_50 : decode cX11_passAll 50 = .ok (.iaload, 1) := by decide +kernel
theorem dX11_passAll_51 : decode cX11_passAll 51 = .ok (.invokevirtual 239, 3) := by decide +kernel
theorem dX11_passAll_54 : decode cX11_passAll 54 = .ok (.iastore, 1) := by decide +kernel
theorem dX11_passAll_55 : decode cX11_passAll 55 = .ok (.iinc 1 1, 3) := by decide +kernel
theorem dX11_passAll_58 : decode cX11_passAll 58 = .ok (.goto (-26), 3) := by decide +kernel
theorem dX11_passAll_61 : decode cX11_passAll 61 = .ok (.iconst 0, 1) := by decide +kernel
theorem dX11_passAll_62 : decode cX11_passAll 62 = .ok (.istore_n 1, 1) := by decide +kernel
theorem dX11_passAll_63 : decode cX11_passAll 63 = .ok (.iload_n 1, 1) := by decide +kernel
theorem dX11_passAll_64 : decode cX11_passAll 64 = .ok (.iconst 4, 1) := by decide +kernel
theorem dX11_passAll_65 : decode cX11_passAll 65 = .ok (.if_icmp .ge 25, 3) := by decide +kernel
theorem dX11_passAll_68 : decode cX11_passAll 68 = .ok (.aload_n 0, 1) := by decide +kernel
theorem dX11_passAll_69 : decode cX11_passAll 69 = .ok (.getfield 16, 3) := by decide +kernel
theorem dX11_passAll_72 : decode cX11_passAll 72 = .ok (.iload_n 1, 1) := by decide +kernel
theorem dX11_passAll_73 : decode cX11_passAll 73 = .ok (.aload_n 0, 1) := by decide +kernel
theorem dX11_passAll_74 : decode cX11_passAll 74 = .ok (.aload_n 0, 1) := by decide +kernel
theorem dX11_passAll_75 : decode cX11_passAll 75 = .ok (.getfield 16, 3) := by decide +kernel
theorem dX11_passAll_78 : decode cX11_passAll 78 = .ok (.iload_n 1, 1) := by decide +kernel
theorem dX11_passAll_79 : decode cX11_passAll 79 = .ok (.iaload, 1) := by decide +kernel
theorem dX11_passAll_80 : decode cX11_passAll 80 = .ok (.invokevirtual 239, 3) := by decide +kernel
theorem dX11_passAll_83 : decode cX11_passAll 83 = .ok (.iastore, 1) := by decide +kernel
theorem dX11_passAll_84 : decode cX11_passAll 84 = .ok (.iinc 1 1, 3) := by decide +kernel
theorem dX11_passAll_87 : decode cX11_passAll 87 = .ok (.goto (-24), 3) := by decide +kernel
theorem dX11_passAll_90 : decode cX11_passAll 90 = .ok (.aload_n 0, 1) := by decide +kernel
theorem dX11_passAll_91 : decode cX11_passAll 91 = .ok (.aload_n 0, 1) := by decide +kernel
theorem dX11_passAll_92 : decode cX11_passAll 92 = .ok (.aload_n 0, 1) := by decide +kernel
theorem dX11_passAll_93 : decode cX11_passAll 93 = .ok (.getfield 83, 3) := by decide +kernel
theorem dX11_passAll_96 : decode cX11_passAll 96 = .ok (.invokevirtual 239, 3) := by decide +kernel
theorem dX11_passAll_99 : decode cX11_passAll 99 = .ok (.putfield 83, 3) := by decide +kernel
theorem dX11_passAll_102 : decode cX11_passAll 102 = .ok (.iconst 0, 1) := by decide +kernel
theorem dX11_passAll_103 : decode cX11_passAll 103 = .ok (.istore_n 1, 1) := by decide +kernel
theorem dX11_passAll_104 : decode cX11_passAll 104 = .ok (.iload_n 1, 1) := by decide +kernel
theorem dX11_passAll_105 : decode cX11_passAll 105 = .ok (.bipush 64, 2) := by decide +kernel
theorem dX11_passAll_107 : decode cX11_passAll 107 = .ok (.if_icmp .ge 25, 3) := by decide +kernel
theorem dX11_passAll_110 : decode cX11_passAll 110 = .ok (.aload_n 0, 1) := by decide +kernel
theorem dX11_passAll_111 : decode cX11_passAll 111 = .ok (.getfield 19, 3) := by decide +kernel
theorem dX11_passAll_114 : decode cX11_passAll 114 = .ok (.iload_n 1, 1) := by decide +kernel
theorem dX11_passAll_115 : decode cX11_passAll 115 = .ok (.aload_n 0, 1) := by decide +kernel
theorem dX11_passAll_116 : decode cX11_passAll 116 = .ok (.aload_n 0, 1) := by decide +kernel
theorem dX11_passAll_117 : decode cX11_passAll 117 = .ok (.getfield 19, 3) := by decide +kernel
theorem dX11_passAll_120 : decode cX11_passAll 120 = .ok (.iload_n 1, 1) := by decide +kernel
theorem dX11_passAll_121 : decode cX11_passAll 121 = .ok (.iaload, 1) := by decide +kernel
theorem dX11_passAll_122 : decode cX11_passAll 122 = .ok (.invokevirtual 239, 3) := by decide +kernel
theorem dX11_passAll_125 : decode cX11_passAll 125 = .ok (.iastore, 1) := by decide +kernel
theorem dX11_passAll_126 : decode cX11_passAll 126 = .ok (.iinc 1 1, 3) := by decide +kernel
theorem dX11_passAll_129 : decode cX11_passAll 129 = .ok (.goto (-25), 3) := by decide +kernel
theorem dX11_passAll_132 : decode cX11_passAll 132 = .ok (.iconst 0, 1) := by decide +kernel
theorem dX11_passAll_133 : decode cX11_passAll 133 = .ok (.istore_n 1, 1) := by decide +kernel
theorem dX11_passAll_134 : decode cX11_passAll 134 = .ok (.iload_n 1, 1) := by decide +kernel
theorem dX11_passAll_135 : decode cX11_passAll 135 = .ok (.iconst 4, 1) := by decide +kernel
theorem dX11_passAll_136 : decode cX11_passAll 136 = .ok (.if_icmp .ge 25, 3) := by decide +kernel
theorem dX11_passAll_139 : decode cX11_passAll 139 = .ok (.aload_n 0, 1) := by decide +kernel
theorem dX11_passAll_140 : decode cX11_passAll 140 = .ok (.getfield 22, 3) := by decide +kernel
theorem dX11_passAll_143 : decode cX11_passAll 143 = .ok (.iload_n 1, 1) := by decide +kernel
theorem dX11_passAll_144 : decode cX11_passAll 144 = .ok (.aload_n 0, 1) := by decide +kernel
theorem dX11_passAll_145 : decode cX11_passAll 145 = .ok (.aload_n 0, 1) := by decide +kernel
theorem dX11_passAll_146 : decode cX11_passAll 146 = .ok (.getfield 22, 3) := by decide +kernel
theorem dX11_passAll_149 : decode cX11_passAll 149 = .ok (.iload_n 1, 1) := by decide +kernel
theorem dX11_passAll_150 : decode cX11_passAll 150 = .ok (.iaload, 1) := by decide +kernel
theorem dX11_passAll_151 : decode cX11_passAll 151 = .ok (.invokevirtual 239, 3) := by decide +kernel
theorem dX11_passAll_154 : decode cX11_passAll 154 = .ok (.iastore, 1) := by decide +kernel
theorem dX11_passAll_155 : decode cX11_passAll 155 = .ok (.iinc 1 1, 3) := by decide +kernel
theorem dX11_passAll_158 : decode cX11_passAll 158 = .ok (.goto (-24), 3) := by decide +kernel
theorem dX11_passAll_161 : decode cX11_passAll 161 = .ok (.return_, 1) := by decide +kernel
theorem dX11_layImage_0 : decode cX11_layImage 0 = .ok (.sipush 400, 3) := by decide +kernel
theorem dX11_layImage_3 : decode cX11_layImage 3 = .ok (.iload_n 1, 1) := by decide +kernel
theorem dX11_layImage_4 : decode cX11_layImage 4 = .ok (.imul, 1) := by decide +kernel
theorem dX11_layImage_5 : decode cX11_layImage 5 = .ok (.istore_n 2, 1) := by decide +kernel
theorem dX11_layImage_6 : decode cX11_layImage 6 = .ok (.iconst 0, 1) := by decide +kernel
theorem dX11_layImage_7 : decode cX11_layImage 7 = .ok (.istore_n 3, 1) := by decide +kernel
theorem dX11_layImage_8 : decode cX11_layImage 8 = .ok (.iload_n 3, 1) := by decide +kernel
theorem dX11_layImage_9 : decode cX11_layImage 9 = .ok (.bipush 32, 2) := by decide +kernel
theorem dX11_layImage_11 : decode cX11_layImage 11 = .ok (.if_icmp .ge 23, 3) := by decide +kernel
theorem dX11_layImage_14 : decode cX11_layImage 14 = .ok (.aload_n 0, 1) := by decide +kernel
theorem dX11_layImage_15 : decode cX11_layImage 15 = .ok (.getfield 28, 3) := by decide +kernel
theorem dX11_layImage_18 : decode cX11_layImage 18 = .ok (.iload_n 3, 1) := by decide +kernel
theorem dX11_layImage_19 : decode cX11_layImage 19 = .ok (.aload_n 0, 1) := by decide +kernel
theorem dX11_layImage_20 : decode cX11_layImage 20 = .ok (.getfield 43, 3) := by decide +kernel
theorem dX11_layImage_23 : decode cX11_layImage 23 = .ok (.iload_n 2, 1) := by decide +kernel
theorem dX11_layImage_24 : decode cX11_layImage 24 = .ok (.iload_n 3, 1) := by decide +kernel
theorem dX11_layImage_25 : decode cX11_layImage 25 = .ok (.iadd, 1) := by decide +kernel
theorem dX11_layImage_26 : decode cX11_layImage 26 = .ok (.iaload, 1) := by decide +kernel
theorem dX11_layImage_27 : decode cX11_layImage 27 = .ok (.iastore, 1) := by decide +kernel
theorem dX11_layImage_28 : decode cX11_layImage 28 = .ok (.iinc 3 1, 3) := by decide +kernel
theorem dX11_layImage_31 : decode cX11_layImage 31 = .ok (.goto (-23), 3) := by decide +kernel
theorem dX11_layImage_34 : decode cX11_layImage 34 = .ok (.iinc 2 32, 3) := by decide +kernel
theorem dX11_layImage_37 : decode cX11_layImage 37 = .ok (.iconst 0, 1) := by decide +kernel
theorem dX11_layImage_38 : decode cX11_layImage 38 = .ok (.istore_n 3, 1) := by decide +kernel
theorem dX11_layImage_39 : decode cX11_layImage 39 = .ok (.iload_n 3, 1) := by decide +kernel
theorem dX11_layImage_40 : decode cX11_layImage 40 = .ok (.sipush 256, 3) := by decide +kernel
theorem dX11_layImage_43 : decode cX11_layImage 43 = .ok (.if_icmp .ge 23, 3) := by decide +kernel
theorem dX11_layImage_46 : decode cX11_layImage 46 = .ok (.aload_n 0, 1) := by decide +kernel
theorem dX11_layImage_47 : decode cX11_layImage 47 = .ok (.getfield 31, 3) := by decide +kernel
theorem dX11_layImage_50 : decode cX11_layImage 50 = .ok (.iload_n 3, 1) := by decide +kernel
theorem dX11_layImage_51 : decode cX11_layImage 51 = .ok (.aload_n 0, 1) := by decide +kernel
theorem dX11_layImage_52 : decode cX11_layImage 52 = .ok (.getfield 43, 3) := by decide +kernel
theorem dX11_layImage_55 : decode cX11_layImage 55 = .ok (.iload_n 2, 1) := by decide +kernel
theorem dX11_layImage_56 : decode cX11_layImage 56 = .ok (.iload_n 3, 1) := by decide +kernel
theorem dX11_layImage_57 : decode cX11_layImage 57 = .ok (.iadd, 1) := by decide +kernel
theorem dX11_layImage_58 : decode cX11_layImage 58 = .ok (.iaload, 1) := by decide +kernel
theorem dX11_layImage_59 : decode cX11_layImage 59 = .ok (.iastore, 1) := by decide +kernel
theorem dX11_layImage_60 : decode cX11_layImage 60 = .ok (.iinc 3 1, 3) := by decide +kernel
theorem dX11_layImage_63 : decode cX11_layImage 63 = .ok (.goto (-24), 3) := by decide +kernel
theorem dX11_layImage_66 : decode cX11_layImage 66 = .ok (.iinc 2 256, 6) := by decide +kernel
theorem dX11_layImage_72 : decode cX11_layImage 72 = .ok (.iconst 0, 1) := by decide +kernel
theorem dX11_layImage_73 : decode cX11_layImage 73 = .ok (.istore_n 3, 1) := by decide +kernel
theorem dX11_layImage_74 : decode cX11_layImage 74 = .ok (.iload_n 3, 1) := by decide +kernel
theorem dX11_layImage_75 : decode cX11_layImage 75 = .ok (.iconst 4, 1) := by decide +kernel
theorem dX11_layImage_76 : decode cX11_layImage 76 = .ok (.if_icmp .ge 23, 3) := by decide +kernel
theorem dX11_layImage_79 : decode cX11_layImage 79 = .ok (.aload_n 0, 1) := by decide +kernel
theorem dX11_layImage_80 : decode cX11_layImage 80 = .ok (.getfield 34, 3) := by decide +kernel
theorem dX11_layImage_83 : decode cX11_layImage 83 = .ok (.iload_n 3, 1) := by decide +kernel
theorem dX11_layImage_84 : decode cX11_layImage 84 = .ok (.aload_n 0, 1) := by decide +kernel
theorem dX11_layImage_85 : decode cX11_layImage 85 = .ok (.getfield 43, 3) := by decide +kernel
theorem dX11_layImage_88 : decode cX11_layImage 88 = .ok (.iload_n 2, 1) := by decide +kernel
theorem dX11_layImage_89 : decode cX11_layImage 89 = .ok (.iload_n 3, 1) := by decide +kernel
theorem dX11_layImage_90 : decode cX11_layImage 90 = .ok (.iadd, 1) := by decide +kernel
theorem dX11_layImage_91 : decode cX11_layImage 91 = .ok (.iaload, 1) := by decide +kernel
theorem dX11_layImage_92 : decode cX11_layImage 92 = .ok (.iastore, 1) := by decide +kernel
theorem dX11_layImage_93 : decode cX11_layImage 93 = .ok (.iinc 3 1, 3) := by decide +kernel
theorem dX11_layImage_96 : decode cX11_layImage 96 = .ok (.goto (-22), 3) := by decide +kernel
theorem dX11_layImage_99 : decode cX11_layImage 99 = .ok (.aload_n 0, 1) := by decide +kernel
theorem dX11_layImage_100 : decode cX11_layImage 100 = .ok (.aload_n 0, 1) := by decide +kernel
theorem dX11_layImage_101 : decode cX11_layImage 101 = .ok (.getfield 43, 3) := by decide +kernel
theorem dX11_layImage_104 : decode cX11_layImage 104 = .ok (.iload_n 2, 1) := by decide +kernel
theorem dX11_layImage_105 : decode cX11_layImage 105 = .ok (.iconst 4, 1) := by decide +kernel
theorem dX11_layImage_106 : decode cX11_layImage 106 = .ok (.iadd, 1) := by decide +kernel
theorem dX11_layImage_107 : decode cX11_layImage 107 = .ok (.iaload, 1) := by decide +kernel
theorem dX11_layImage_108 : decode cX11_layImage 108 = .ok (.putfield 111, 3) := by decide +kernel
theorem dX11_layImage_111 : decode cX11_layImage 111 = .ok (.return_, 1) := by decide +kernel
theorem dX11_image_0 : decode cX11_image 0 = .ok (.iload_n 1, 1) := by decide +kernel
theorem dX11_image_1 : decode cX11_image 1 = .ok (.i2l, 1) := by decide +kernel
theorem dX11_image_2 : decode cX11_image 2 = .ok (.lconst 0, 1) := by decide +kernel
theorem dX11_image_3 : decode cX11_image 3 = .ok (.lconst 1, 1) := by decide +kernel
theorem dX11_image_4 : decode cX11_image 4 = .ok (.invokestatic 52, 3) := by decide +kernel
theorem dX11_image_7 : decode cX11_image 7 = .ok (.ifCond .ne 6, 3) := by decide +kernel
theorem dX11_image_10 : decode cX11_image 10 = .ok (.bipush (-2), 2) := by decide +kernel
theorem dX11_image_12 : decode cX11_image 12 = .ok (.ireturn, 1) := by decide +kernel
theorem dX11_image_13 : decode cX11_image 13 = .ok (.aload_n 0, 1) := by decide +kernel
theorem dX11_image_14 : decode cX11_image 14 = .ok (.sipush 400, 3) := by decide +kernel
theorem dX11_image_17 : decode cX11_image 17 = .ok (.iload_n 1, 1) := by decide +kernel
theorem dX11_image_18 : decode cX11_image 18 = .ok (.imul, 1) := by decide +kernel
theorem dX11_image_19 : decode cX11_image 19 = .ok (.putfield 236, 3) := by decide +kernel
theorem dX11_image_22 : decode cX11_image 22 = .ok (.aload_n 0, 1) := by decide +kernel
theorem dX11_image_23 : decode cX11_image 23 = .ok (.iconst 1, 1) := by decide +kernel
theorem dX11_image_24 : decode cX11_image 24 = .ok (.putfield 232, 3) := by decide +kernel
theorem dX11_image_27 : decode cX11_image 27 = .ok (.aload_n 0, 1) := by decide +kernel
theorem dX11_image_28 : decode cX11_image 28 = .ok (.invokevirtual 242, 3) := by decide +kernel
theorem dX11_image_31 : decode cX11_image 31 = .ok (.aload_n 0, 1) := by decide +kernel
theorem dX11_image_32 : decode cX11_image 32 = .ok (.getfield 46, 3) := by decide +kernel
theorem dX11_image_35 : decode cX11_image 35 = .ok (.iload_n 1, 1) := by decide +kernel
theorem dX11_image_36 : decode cX11_image 36 = .ok (.iconst 1, 1) := by decide +kernel
theorem dX11_image_37 : decode cX11_image 37 = .ok (.bastore, 1) := by decide +kernel
theorem dX11_image_38 : decode cX11_image 38 = .ok (.iconst 1, 1) := by decide +kernel
theorem dX11_image_39 : decode cX11_image 39 = .ok (.ireturn, 1) := by decide +kernel
theorem dX11_restore_0 : decode cX11_restore 0 = .ok (.iload_n 1, 1) := by decide +kernel
theorem dX11_restore_1 : decode cX11_restore 1 = .ok (.i2l, 1) := by decide +kernel
theorem dX11_restore_2 : decode cX11_restore 2 = .ok (.lconst 0, 1) := by decide +kernel
theorem dX11_restore_3 : decode cX11_restore 3 = .ok (.lconst 1, 1) := by decide +kernel
theorem dX11_restore_4 : decode cX11_restore 4 = .ok (.invokestatic 52, 3) := by decide +kernel
theorem dX11_restore_7 : decode cX11_restore 7 = .ok (.ifCond .ne 6, 3) := by decide +kernel
theorem dX11_restore_10 : decode cX11_restore 10 = .ok (.bipush (-2), 2) := by decide +kernel
theorem dX11_restore_12 : decode cX11_restore 12 = .ok (.ireturn, 1) := by decide +kernel
theorem dX11_restore_13 : decode cX11_restore 13 = .ok (.aload_n 0, 1) := by decide +kernel
theorem dX11_restore_14 : decode cX11_restore 14 = .ok (.getfield 46, 3) := by decide +kernel
theorem dX11_restore_17 : decode cX11_restore 17 = .ok (.iload_n 1, 1) := by decide +kernel
theorem dX11_restore_18 : decode cX11_restore 18 = .ok (.baload, 1) := by decide +kernel
theorem dX11_restore_19 : decode cX11_restore 19 = .ok (.ifCond .ne 6, 3) := by decide +kernel
theorem dX11_restore_22 : decode cX11_restore 22 = .ok (.bipush (-3), 2) := by decide +kernel
theorem dX11_restore_24 : decode cX11_restore 24 = .ok (.ireturn, 1) := by decide +kernel
theorem dX11_restore_25 : decode cX11_restore 25 = .ok (.aload_n 0, 1) := by decide +kernel
theorem dX11_restore_26 : decode cX11_restore 26 = .ok (.sipush 400, 3) := by decide +kernel
theorem dX11_restore_29 : decode cX11_restore 29 = .ok (.iload_n 1, 1) := by decide +kernel
theorem dX11_restore_30 : decode cX11_restore 30 = .ok (.imul, 1) := by decide +kernel
theorem dX11_restore_31 : decode cX11_restore 31 = .ok (.putfield 236, 3) := by decide +kernel
theorem dX11_restore_34 : decode cX11_restore 34 = .ok (.aload_n 0, 1) := by decide +kernel
theorem dX11_restore_35 : decode cX11_restore 35 = .ok (.iconst 0, 1) := by decide +kernel
theorem dX11_restore_36 : decode cX11_restore 36 = .ok (.putfield 232, 3) := by decide +kernel
theorem dX11_restore_39 : decode cX11_restore 39 = .ok (.aload_n 0, 1) := by decide +kernel
theorem dX11_restore_40 : decode cX11_restore 40 = .ok (.invokevirtual 242, 3) := by decide +kernel
theorem dX11_restore_43 : decode cX11_restore 43 = .ok (.iconst 1, 1) := by decide +kernel
theorem dX11_restore_44 : decode cX11_restore 44 = .ok (.ireturn, 1) := by decide +kernel
theorem dX11_bags_0 : decode cX11_bags 0 = .ok (.iconst 0, 1) := by decide +kernel
theorem dX11_bags_1 : decode cX11_bags 1 = .ok (.istore_n 1, 1) := by decide +kernel
theorem dX11_bags_2 : decode cX11_bags 2 = .ok (.iconst 0, 1) := by decide +kernel
theorem dX11_bags_3 : decode cX11_bags 3 = .ok (.istore_n 2, 1) := by decide +kernel
theorem dX11_bags_4 : decode cX11_bags 4 = .ok (.iload_n 2, 1) := by decide +kernel
theorem dX11_bags_5 : decode cX11_bags 5 = .ok (.iconst 4, 1) := by decide +kernel
theorem dX11_bags_6 : decode cX11_bags 6 = .ok (.if_icmp .ge 18, 3) := by decide +kernel
theorem dX11_bags_9 : decode cX11_bags 9 = .ok (.iload_n 1, 1) := by decide +kernel
theorem dX11_bags_10 : decode cX11_bags 10 = .ok (.aload_n 0, 1) := by decide +kernel
theorem dX11_bags_11 : decode cX11_bags 11 = .ok (.iload_n 2, 1) := by decide +kernel
theorem dX11_bags_12 : decode cX11_bags 12 = .ok (.iconst 3, 1) := by decide +kernel
theorem dX11_bags_13 : decode cX11_bags 13 = .ok (.invokevirtual 76, 3) := by decide +kernel
theorem dX11_bags_16 : decode cX11_bags 16 = .ok (.iadd, 1) := by decide +kernel
theorem dX11_bags_17 : decode cX11_bags 17 = .ok (.istore_n 1, 1) := by decide +kernel
theorem dX11_bags_18 : decode cX11_bags 18 = .ok (.iinc 2 1, 3) := by decide +kernel
theorem dX11_bags_21 : decode cX11_bags 21 = .ok (.goto (-17), 3) := by decide +kernel
theorem dX11_bags_24 : decode cX11_bags 24 = .ok (.iload_n 1, 1) := by decide +kernel
theorem dX11_bags_25 : decode cX11_bags 25 = .ok (.ireturn, 1) := by decide +kernel
theorem dX11_told_0 : decode cX11_told 0 = .ok (.iload_n 1, 1) := by decide +kernel
theorem dX11_told_1 : decode cX11_told 1 = .ok (.i2l, 1) := by decide +kernel
theorem dX11_told_2 : decode cX11_told 2 = .ok (.ldc2_w 183, 3) := by decide +kernel
theorem dX11_told_5 : decode cX11_told 5 = .ok (.ldc2_w 58, 3) := by decide +kernel
theorem dX11_told_8 : decode cX11_told 8 = .ok (.invokestatic 52, 3) := by decide +kernel
theorem dX11_told_11 : decode cX11_told 11 = .ok (.ifCond .eq 27, 3) := by decide +kernel
theorem dX11_told_14 : decode cX11_told 14 = .ok (.iload_n 1, 1) := by decide +kernel
theorem dX11_told_15 : decode cX11_told 15 = .ok (.iconst 2, 1) := by decide +kernel
theorem dX11_told_16 : decode cX11_told 16 = .ok (.isub, 1) := by decide +kernel
theorem dX11_told_17 : decode cX11_told 17 = .ok (.aload_n 0, 1) := by decide +kernel
theorem dX11_told_18 : decode cX11_told 18 = .ok (.getfield 83, 3) := by decide +kernel
theorem dX11_told_21 : decode cX11_told 21 = .ok (.if_icmp .ge 14, 3) := by decide +kernel
theorem dX11_told_24 : decode cX11_told 24 = .ok (.aload_n 0, 1) := by decide +kernel
theorem dX11_told_25 : decode cX11_told 25 = .ok (.getfield 16, 3) := by decide +kernel
theorem dX11_told_28 : decode cX11_told 28 = .ok (.iload_n 1, 1) := by decide +kernel
theorem dX11_told_29 : decode cX11_told 29 = .ok (.iconst 2, 1) := by decide +kernel
theorem dX11_told_30 : decode cX11_told 30 = .ok (.isub, 1) := by decide +kernel
theorem dX11_told_31 : decode cX11_told 31 = .ok (.iaload, 1) := by decide +kernel
theorem dX11_told_32 : decode cX11_told 32 = .ok (.goto 5, 3) := by decide +kernel
theorem dX11_told_35 : decode cX11_told 35 = .ok (.bipush (-6), 2) := by decide +kernel
theorem dX11_told_37 : decode cX11_told 37 = .ok (.ireturn, 1) := by decide +kernel
theorem dX11_told_38 : decode cX11_told 38 = .ok (.iload_n 1, 1) := by decide +kernel
theorem dX11_told_39 : decode cX11_told 39 = .ok (.i2l, 1) := by decide +kernel
theorem dX11_told_40 : decode cX11_told 40 = .ok (.ldc2_w 245, 3) := by decide +kernel
theorem dX11_told_43 : decode cX11_told 43 = .ok (.ldc2_w 164, 3) := by decide +kernel
theorem dX11_told_46 : decode cX11_told 46 = .ok (.invokestatic 52, 3) := by decide +kernel
theorem dX11_told_49 : decode cX11_told 49 = .ok (.ifCond .eq 13, 3) := by decide +kernel
theorem dX11_told_52 : decode cX11_told 52 = .ok (.aload_n 0, 1) := by decide +kernel
theorem dX11_told_53 : decode cX11_told 53 = .ok (.getfield 22, 3) := by decide +kernel
theorem dX11_told_56 : decode cX11_told 56 = .ok (.iload_n 1, 1) := by decide +kernel
theorem dX11_told_57 : decode cX11_told 57 = .ok (.bipush 6, 2) := by decide +kernel
theorem dX11_told_59 : decode cX11_told 59 = .ok (.isub, 1) := by decide +kernel
theorem dX11_told_60 : decode cX11_told 60 = .ok (.iaload, 1) := by decide +kernel
theorem dX11_told_61 : decode cX11_told 61 = .ok (.ireturn, 1) := by decide +kernel
theorem dX11_told_62 : decode cX11_told 62 = .ok (.iload_n 1, 1) := by decide +kernel
theorem dX11_told_63 : decode cX11_told 63 = .ok (.lookupswitch 65 #[(0, 41), (1, 46), (10, 51), (11, 60)], 41) := by decide +kernel
theorem dX11_told_104 : decode cX11_told 104 = .ok (.aload_n 0, 1) := by decide +kernel
theorem dX11_told_105 : decode cX11_told 105 = .ok (.getfield 91, 3) := by decide +kernel
theorem dX11_told_108 : decode cX11_told 108 = .ok (.ireturn, 1) := by decide +kernel
theorem dX11_told_109 : decode cX11_told 109 = .ok (.aload_n 0, 1) := by decide +kernel
theorem dX11_told_110 : decode cX11_told 110 = .ok (.getfield 83, 3) := by decide +kernel
theorem dX11_told_113 : decode cX11_told 113 = .ok (.ireturn, 1) := by decide +kernel
theorem dX11_told_114 : decode cX11_told 114 = .ok (.aload_n 0, 1) := by decide +kernel
theorem dX11_told_115 : decode cX11_told 115 = .ok (.bipush (-6), 2) := by decide +kernel
theorem dX11_told_117 : decode cX11_told 117 = .ok (.iconst (-1), 1) := by decide +kernel
theorem dX11_told_118 : decode cX11_told 118 = .ok (.iconst 1, 1) := by decide +kernel
theorem dX11_told_119 : decode cX11_told 119 = .ok (.invokevirtual 215, 3) := by decide +kernel
theorem dX11_told_122 : decode cX11_told 122 = .ok (.ireturn, 1) := by decide +kernel
theorem dX11_told_123 : decode cX11_told 123 = .ok (.aload_n 0, 1) := by decide +kernel
theorem dX11_told_124 : decode cX11_told 124 = .ok (.invokevirtual 247, 3) := by decide +kernel
theorem dX11_told_127 : decode cX11_told 127 = .ok (.ireturn, 1) := by decide +kernel
theorem dX11_told_128 : decode cX11_told 128 = .ok (.bipush (-2), 2) := by decide +kernel
theorem dX11_told_130 : decode cX11_told 130 = .ok (.ireturn, 1) := by decide +kernel
theorem dJ9_floorMod_7cf53_0 : decode cJ9_floorMod_7cf53 0 = .ok (.iload_n 0, 1) := by decide +kernel
theorem dJ9_floorMod_7cf53_1 : decode cJ9_floorMod_7cf53 1 = .ok (.iload_n 1, 1) := by decide +kernel
theorem dJ9_floorMod_7cf53_2 : decode cJ9_floorMod_7cf53 2 = .ok (.irem, 1) := by decide +kernel
theorem dJ9_floorMod_7cf53_3 : decode cJ9_floorMod_7cf53 3 = .ok (.istore_n 2, 1) := by decide +kernel
theorem dJ9_floorMod_7cf53_4 : decode cJ9_floorMod_7cf53 4 = .ok (.iload_n 0, 1) := by decide +kernel
theorem dJ9_floorMod_7cf53_5 : decode cJ9_floorMod_7cf53 5 = .ok (.iload_n 1, 1) := by decide +kernel
theorem dJ9_floorMod_7cf53_6 : decode cJ9_floorMod_7cf53 6 = .ok (.ixor, 1) := by decide +kernel
theorem dJ9_floorMod_7cf53_7 : decode cJ9_floorMod_7cf53 7 = .ok (.ifCond .ge 11, 3) := by decide +kernel
theorem dJ9_floorMod_7cf53_10 : decode cJ9_floorMod_7cf53 10 = .ok (.iload_n 2, 1) := by decide +kernel
theorem dJ9_floorMod_7cf53_11 : decode cJ9_floorMod_7cf53 11 = .ok (.ifCond .eq 7, 3) := by decide +kernel
theorem dJ9_floorMod_7cf53_14 : decode cJ9_floorMod_7cf53 14 = .ok (.iload_n 2, 1) := by decide +kernel
theorem dJ9_floorMod_7cf53_15 : decode cJ9_floorMod_7cf53 15 = .ok (.iload_n 1, 1) := by decide +kernel
theorem dJ9_floorMod_7cf53_16 : decode cJ9_floorMod_7cf53 16 = .ok (.iadd, 1) := by decide +kernel
theorem dJ9_floorMod_7cf53_17 : decode cJ9_floorMod_7cf53 17 = .ok (.ireturn, 1) := by decide +kernel
theorem dJ9_floorMod_7cf53_18 : decode cJ9_floorMod_7cf53 18 = .ok (.iload_n 2, 1) := by decide +kernel
theorem dJ9_floorMod_7cf53_19 : decode cJ9_floorMod_7cf53 19 = .ok (.ireturn, 1) := by decide +kernel
theorem dJ9_abs_0f7a4_0 : decode cJ9_abs_0f7a4 0 = .ok (.iload_n 0, 1) := by decide +kernel
theorem dJ9_abs_0f7a4_1 : decode cJ9_abs_0f7a4 1 = .ok (.ifCond .ge 8, 3) := by decide +kernel
theorem dJ9_abs_0f7a4_4 : decode cJ9_abs_0f7a4 4 = .ok (.iload_n 0, 1) := by decide +kernel
theorem dJ9_abs_0f7a4_5 : decode cJ9_abs_0f7a4 5 = .ok (.ineg, 1) := by decide +kernel
theorem dJ9_abs_0f7a4_6 : decode cJ9_abs_0f7a4 6 = .ok (.goto 4, 3) := by decide +kernel
theorem dJ9_abs_0f7a4_9 : decode cJ9_abs_0f7a4 9 = .ok (.iload_n 0, 1) := by decide +kernel
theorem dJ9_abs_0f7a4_10 : decode cJ9_abs_0f7a4 10 = .ok (.ireturn, 1) := by decide +kernel
theorem dJ9_max_7cf53_0 : decode cJ9_max_7cf53 0 = .ok (.iload_n 0, 1) := by decide +kernel
theorem dJ9_max_7cf53_1 : decode cJ9_max_7cf53 1 = .ok (.iload_n 1, 1) := by decide +kernel
theorem dJ9_max_7cf53_2 : decode cJ9_max_7cf53 2 = .ok (.if_icmp .lt 7, 3) := by decide +kernel
theorem dJ9_max_7cf53_5 : decode cJ9_max_7cf53 5 = .ok (.iload_n 0, 1) := by decide +kernel
theorem dJ9_max_7cf53_6 : decode cJ9_max_7cf53 6 = .ok (.goto 4, 3) := by decide +kernel
theorem dJ9_max_7cf53_9 : decode cJ9_max_7cf53 9 = .ok (.iload_n 1, 1) := by decide +kernel
theorem dJ9_max_7cf53_10 : decode cJ9_max_7cf53 10 = .ok (.ireturn, 1) := by decide +kernel
theorem dJ9_min_7cf53_0 : decode cJ9_min_7cf53 0 = .ok (.iload_n 0, 1) := by decide +kernel
theorem dJ9_min_7cf53_1 : decode cJ9_min_7cf53 1 = .ok (.iload_n 1, 1) := by decide +kernel
theorem dJ9_min_7cf53_2 : decode cJ9_min_7cf53 2 = .ok (.if_icmp .gt 7, 3) := by decide +kernel
theorem dJ9_min_7cf53_5 : decode cJ9_min_7cf53 5 = .ok (.iload_n 0, 1) := by decide +kernel
theorem dJ9_min_7cf53_6 : decode cJ9_min_7cf53 6 = .ok (.goto 4, 3) := by decide +kernel
theorem dJ9_min_7cf53_9 : decode cJ9_min_7cf53 9 = .ok (.iload_n 1, 1) := by decide +kernel
theorem dJ9_min_7cf53_10 : decode cJ9_min_7cf53 10 = .ok (.ireturn, 1) := by decide +kernel
theorem dL_law_0 : decode cL_law 0 = .ok (.new 7, 3) := by decide +kernel
theorem dL_law_3 : decode cL_law 3 = .ok (.dup, 1) := by decide +kernel
theorem dL_law_4 : decode cL_law 4 = .ok (.invokespecial 9, 3) := by decide +kernel
theorem dL_law_7 : decode cL_law 7 = .ok (.astore_n 1, 1) := by decide +kernel
theorem dL_law_8 : decode cL_law 8 = .ok (.new 10, 3) := by decide +kernel
theorem dL_law_11 : decode cL_law 11 = .ok (.dup, 1) := by decide +kernel
theorem dL_law_12 : decode cL_law 12 = .ok (.invokespecial 12, 3) := by decide +kernel
theorem dL_law_15 : decode cL_law 15 = .ok (.astore_n 2, 1) := by decide +kernel
theorem dL_law_16 : decode cL_law 16 = .ok (.iconst 0, 1) := by decide +kernel
theorem dL_law_17 : decode cL_law 17 = .ok (.istore_n 3, 1) := by decide +kernel
theorem dL_law_18 : decode cL_law 18 = .ok (.iload_n 3, 1) := by decide +kernel
theorem dL_law_19 : decode cL_law 19 = .ok (.aload_n 0, 1) := by decide +kernel
theorem dL_law_20 : decode cL_law 20 = .ok (.arraylength, 1) := by decide +kernel
theorem dL_law_21 : decode cL_law 21 = .ok (.iconst 4, 1) := by decide +kernel
theorem dL_law_22 : decode cL_law 22 = .ok (.isub, 1) := by decide +kernel
theorem dL_law_23 : decode cL_law 23 = .ok (.if_icmp .gt 863, 3) := by decide +kernel
theorem dL_law_26 : decode cL_law 26 = .ok (.aload_n 0, 1) := by decide +kernel
theorem dL_law_27 : decode cL_law 27 = .ok (.iload_n 3, 1) := by decide +kernel
theorem dL_law_28 : decode cL_law 28 = .ok (.iaload, 1) := by decide +kernel
theorem dL_law_29 : decode cL_law 29 = .ok (.bipush 31, 2) := by decide +kernel
theorem dL_law_31 : decode cL_law 31 = .ok (.iand, 1) := by decide +kernel
theorem dL_law_32 : decode cL_law 32 = .ok (.tableswitch 848 0 25 #[120, 163, 186, 199, 222, 235, 248, 261, 294, 327, 360, 393, 426, 469, 502, 545, 568, 601, 634, 667, 700, 723, 756, 779, 802, 825], 120) := by decide +kernel
theorem dL_law_152 : decode cL_law 152 = .ok (.aload_n 1, 1) := by decide +kernel
theorem dL_law_153 : decode cL_law 153 = .ok (.aload_n 0, 1) := by decide +kernel
theorem dL_law_154 : decode cL_law 154 = .ok (.iload_n 3, 1) := by decide +kernel
theorem dL_law_155 : decode cL_law 155 = .ok (.iconst 1, 1) := by decide +kernel
theorem dL_law_156 : decode cL_law 156 = .ok (.iadd, 1) := by decide +kernel
theorem dL_law_157 : decode cL_law 157 = .ok (.iaload, 1) := by decide +kernel
theorem dL_law_158 : decode cL_law 158 = .ok (.aload_n 0, 1) := by decide +kernel
theorem dL_law_159 : decode cL_law 159 = .ok (.iload_n 3, 1) := by decide +kernel
theorem dL_law_160 : decode cL_law 160 = .ok (.iconst 2, 1) := by decide +kernel
theorem dL_law_161 : decode cL_law 161 = .ok (.iadd, 1) := by decide +kernel
theorem dL_law_162 : decode cL_law 162 = .ok (.iaload, 1) := by decide +kernel
theorem dL_law_163 : decode cL_law 163 = .ok (.aload_n 0, 1) := by decide +kernel
theorem dL_law_164 : decode cL_law 164 = .ok (.iload_n 3, 1) := by decide +kernel
theorem dL_law_165 : decode cL_law 165 = .ok (.iconst 3, 1) := by decide +kernel
theorem dL_law_166 : decode cL_law 166 = .ok (.iadd, 1) := by decide +kernel
theorem dL_law_167 : decode cL_law 167 = .ok (.iaload, 1) := by decide +kernel
theorem dL_law_168 : decode cL_law 168 = .ok (.invokevirtual 13, 3) := by decide +kernel
theorem dL_law_171 : decode cL_law 171 = .ok (.pop, 1) := by decide +kernel
theorem dL_law_172 : decode cL_law 172 = .ok (.aload_n 2, 1) := by decide +kernel
theorem dL_law_173 : decode cL_law 173 = .ok (.aload_n 0, 1) := by decide +kernel
theorem dL_law_174 : decode cL_law 174 = .ok (.iload_n 3, 1) := by decide +kernel
theorem dL_law_175 : decode cL_law 175 = .ok (.iconst 1, 1) := by decide +kernel
theorem dL_law_176 : decode cL_law 176 = .ok (.iadd, 1) := by decide +kernel
theorem dL_law_177 : decode cL_law 177 = .ok (.iaload, 1) := by decide +kernel
theorem dL_law_178 : decode cL_law 178 = .ok (.aload_n 0, 1) := by decide +kernel
theorem dL_law_179 : decode cL_law 179 = .ok (.iload_n 3, 1) := by decide +kernel
theorem dL_law_180 : decode cL_law 180 = .ok (.iconst 2, 1) := by decide +kernel
theorem dL_law_181 : decode cL_law 181 = .ok (.iadd, 1) := by decide +kernel
theorem dL_law_182 : decode cL_law 182 = .ok (.iaload, 1) := by decide +kernel
theorem dL_law_183 : decode cL_law 183 = .ok (.aload_n 0, 1) := by decide +kernel
theorem dL_law_184 : decode cL_law 184 = .ok (.iload_n 3, 1) := by decide +kernel
theorem dL_law_185 : decode cL_law 185 = .ok (.iconst 3, 1) := by decide +kernel
theorem dL_law_186 : decode cL_law 186 = .ok (.iadd, 1) := by decide +kernel
theorem dL_law_187 : decode cL_law 187 = .ok (.iaload, 1) := by decide +kernel
theorem dL_law_188 : decode cL_law 188 = .ok (.invokevirtual 17, 3) := by decide +kernel
theorem dL_law_191 : decode cL_law 191 = .ok (.pop, 1) := by decide +kernel
theorem dL_law_192 : decode cL_law 192 = .ok (.goto 688, 3) := by decide +kernel
theorem dL_law_195 : decode cL_law 195 = .ok (.aload_n 1, 1) := by decide +kernel
theorem dL_law_196 : decode cL_law 196 = .ok (.aload_n 0, 1) := by decide +kernel
theorem dL_law_197 : decode cL_law 197 = .ok (.iload_n 3, 1) := by decide +kernel
theorem dL_law_198 : decode cL_law 198 = .ok (.iconst 1, 1) := by decide +kernel
theorem dL_law_199 : decode cL_law 199 = .ok (.iadd, 1) := by decide +kernel
theorem dL_law_200 : decode cL_law 200 = .ok (.iaload, 1) := by decide +kernel
theorem dL_law_201 : decode cL_law 201 = .ok (.invokevirtual 18, 3) := by decide +kernel
theorem dL_law_204 : decode cL_law 204 = .ok (.pop, 1) := by decide +kernel
theorem dL_law_205 : decode cL_law 205 = .ok (.aload_n 2, 1) := by decide +kernel
theorem dL_law_206 : decode cL_law 206 = .ok (.aload_n 0, 1) := by decide +kernel
theorem dL_law_207 : decode cL_law 207 = .ok (.iload_n 3, 1) := by decide +kernel
theorem dL_law_208 : decode cL_law 208 = .ok (.iconst 1, 1) := by decide +kernel
theorem dL_law_209 : decode cL_law 209 = .ok (.iadd, 1) := by decide +kernel
theorem dL_law_210 : decode cL_law 210 = .ok (.iaload, 1) := by decide +kernel
theorem dL_law_211 : decode cL_law 211 = .ok (.invokevirtual 22, 3) := by decide +kernel
theorem dL_law_214 : decode cL_law 214 = .ok (.pop, 1) := by decide +kernel
theorem dL_law_215 : decode cL_law 215 = .ok (.goto 665, 3) := by decide +kernel
theorem dL_law_218 : decode cL_law 218 = .ok (.aload_n 1, 1) := by decide +kernel
theorem dL_law_219 : decode cL_law 219 = .ok (.invokevirtual 23, 3) := by decide +kernel
theorem dL_law_222 : decode cL_law 222 = .ok (.aload_n 2, 1) := by decide +kernel
theorem dL_law_223 : decode cL_law 223 = .ok (.invokevirtual 27, 3) := by decide +kernel
theorem dL_law_226 : decode cL_law 226 = .ok (.if_icmp .eq 654, 3) := by decide +kernel
theorem dL_law_229 : decode cL_law 229 = .ok (.iconst 0, 1) := by decide +kernel
theorem dL_law_230 : decode cL_law 230 = .ok (.ireturn, 1) := by decide +kernel
theorem dL_law_231 : decode cL_law 231 = .ok (.aload_n 1, 1) := by decide +kernel
theorem dL_law_232 : decode cL_law 232 = .ok (.aload_n 0, 1) := by decide +kernel
theorem dL_law_233 : decode cL_law 233 = .ok (.iload_n 3, 1) := by decide +kernel
theorem dL_law_234 : decode cL_law 234 = .ok (.iconst 1, 1) := by decide +kernel
theorem dL_law_235 : decode cL_law 235 = .ok (.iadd, 1) := by decide +kernel
theorem dL_law_236 : decode cL_law 236 = .ok (.iaload, 1) := by decide +kernel
theorem dL_law_237 : decode cL_law 237 = .ok (.invokevirtual 28, 3) := by decide +kernel
theorem dL_law_240 : decode cL_law 240 = .ok (.pop, 1) := by decide +kernel
theorem dL_law_241 : decode cL_law 241 = .ok (.aload_n 2, 1) := by decide +kernel
theorem dL_law_242 : decode cL_law 242 = .ok (.aload_n 0, 1) := by decide +kernel
theorem dL_law_243 : decode cL_law 243 = .ok (.iload_n 3, 1) := by decide +kernel
theorem dL_law_244 : decode cL_law 244 = .ok (.iconst 1, 1) := by decide +kernel
theorem dL_law_245 : decode cL_law 245 = .ok (.iadd, 1) := by decide +kernel
theorem dL_law_246 : decode cL_law 246 = .ok (.iaload, 1) := by decide +kernel
theorem dL_law_247 : decode cL_law 247 = .ok (.invokevirtual 31, 3) := by decide +kernel
theorem dL_law_250 : decode cL_law 250 = .ok (.pop, 1) := by decide +kernel
theorem dL_law_251 : decode cL_law 251 = .ok (.goto 629, 3) := by decide +kernel
theorem dL_law_254 : decode cL_law 254 = .ok (.aload_n 1, 1) := by decide +kernel
theorem dL_law_255 : decode cL_law 255 = .ok (.invokevirtual 32, 3) := by decide +kernel
theorem dL_law_258 : decode cL_law 258 = .ok (.pop, 1) := by decide +kernel
theorem dL_law_259 : decode cL_law 259 = .ok (.aload_n 2, 1) := by decide +kernel
theorem dL_law_260 : decode cL_law 260 = .ok (.invokevirtual 35, 3) := by decide +kernel
theorem dL_law_263 : decode cL_law 263 = .ok (.pop, 1) := by decide +kernel
theorem dL_law_264 : decode cL_law 264 = .ok (.goto 616, 3) := by decide +kernel
theorem dL_law_267 : decode cL_law 267 = .ok (.aload_n 1, 1) := by decide +kernel
theorem dL_law_268 : decode cL_law 268 = .ok (.invokevirtual 36, 3) := by decide +kernel
theorem dL_law_271 : decode cL_law 271 = .ok (.pop, 1) := by decide +kernel
theorem dL_law_272 : decode cL_law 272 = .ok (.aload_n 2, 1) := by decide +kernel
theorem dL_law_273 : decode cL_law 273 = .ok (.invokevirtual 39, 3) := by decide +kernel
theorem dL_law_276 : decode cL_law 276 = .ok (.pop, 1) := by decide +kernel
theorem dL_law_277 : decode cL_law 277 = .ok (.goto 603, 3) := by decide +kernel
theorem dL_law_280 : decode cL_law 280 = .ok (.aload_n 1, 1) := by decide +kernel
theorem dL_law_281 : decode cL_law 281 = .ok (.invokevirtual 40, 3) := by decide +kernel
theorem dL_law_284 : decode cL_law 284 = .ok (.pop, 1) := by decide +kernel
theorem dL_law_285 : decode cL_law 285 = .ok (.aload_n 2, 1) := by decide +kernel
theorem dL_law_286 : decode cL_law 286 = .ok (.invokevirtual 43, 3) := by decide +kernel
theorem dL_law_289 : decode cL_law 289 = .ok (.pop, 1) := by decide +kernel
theorem dL_law_290 : decode cL_law 290 = .ok (.goto 590, 3) := by decide +kernel
theorem dL_law_293 : decode cL_law 293 = .ok (.aload_n 1, 1) := by decide +kernel
theorem dL_law_294 : decode cL_law 294 = .ok (.aload_n 0, 1) := by decide +kernel
theorem dL_law_295 : decode cL_law 295 = .ok (.iload_n 3, 1) := by decide +kernel
theorem dL_law_296 : decode cL_law 296 = .ok (.iconst 1, 1) := by decide +kernel
theorem dL_law_297 : decode cL_law 297 = .ok (.iadd, 1) := by decide +kernel
theorem dL_law_298 : decode cL_law 298 = .ok (.iaload, 1) := by decide +kernel
theorem dL_law_299 : decode cL_law 299 = .ok (.aload_n 0, 1) := by decide +kernel
theorem dL_law_300 : decode cL_law 300 = .ok (.iload_n 3, 1) := by decide +kernel
theorem dL_law_301 : decode cL_law 301 = .ok (.iconst 2, 1) := by decide +kernel
theorem dL_law_302 : decode cL_law 302 = .ok (.iadd, 1) := by decide +kernel
theorem dL_law_303 : decode cL_law 303 = .ok (.iaload, 1) := by decide +kernel
theorem dL_law_304 : decode cL_law 304 = .ok (.invokevirtual 44, 3) := by decide +kernel
theorem dL_law_307 : decode cL_law 307 = .ok (.pop, 1) := by decide +kernel
theorem dL_law_308 : decode cL_law 308 = .ok (.aload_n 2, 1) := by decide +kernel
theorem dL_law_309 : decode cL_law 309 = .ok (.aload_n 0, 1) := by decide +kernel
theorem dL_law_310 : decode cL_law 310 = .ok (.iload_n 3, 1) := by decide +kernel
theorem dL_law_311 : decode cL_law 311 = .ok (.iconst 1, 1) := by decide +kernel
theorem dL_law_312 : decode cL_law 312 = .ok (.iadd, 1) := by decide +kernel
theorem dL_law_313 : decode cL_law 313 = .ok (.iaload, 1) := by decide +kernel
theorem dL_law_314 : decode cL_law 314 = .ok (.aload_n 0, 1) := by decide +kernel
theorem dL_law_315 : decode cL_law 315 = .ok (.iload_n 3, 1) := by decide +kernel
theorem dL_law_316 : decode cL_law 316 = .ok (.iconst 2, 1) := by decide +kernel
theorem dL_law_317 : decode cL_law 317 = .ok (.iadd, 1) := by decide +kernel
theorem dL_law_318 : decode cL_law 318 = .ok (.iaload, 1) := by decide +kernel
theorem dL_law_319 : decode cL_law 319 = .ok (.invokevirtual 48, 3) := by decide +kernel
theorem dL_law_322 : decode cL_law 322 = .ok (.pop, 1) := by decide +kernel
theorem dL_law_323 : decode cL_law 323 = .ok (.goto 557, 3) := by decide +kernel
theorem dL_law_326 : decode cL_law 326 = .ok (.aload_n 1, 1) := by decide +kernel
theorem dL_law_327 : decode cL_law 327 = .ok (.aload_n 0, 1) := by decide +kernel
theorem dL_law_328 : decode cL_law 328 = .ok (.iload_n 3, 1) := by decide +kernel
theorem dL_law_329 : decode cL_law 329 = .ok (.iconst 1, 1) := by decide +kernel
theorem dL_law_330 : decode cL_law 330 = .ok (.iadd, 1) := by decide +kernel
theorem dL_law_331 : decode cL_law 331 = .ok (.iaload, 1) := by decide +kernel
theorem dL_law_332 : decode cL_law 332 = .ok (.aload_n 0, 1) := by decide +kernel
theorem dL_law_333 : decode cL_law 333 = .ok (.iload_n 3, 1) := by decide +kernel
theorem dL_law_334 : decode cL_law 334 = .ok (.iconst 2, 1) := by decide +kernel
theorem dL_law_335 : decode cL_law 335 = .ok (.iadd, 1) := by decide +kernel
theorem dL_law_336 : decode cL_law 336 = .ok (.iaload, 1) := by decide +kernel
theorem dL_law_337 : decode cL_law 337 = .ok (.invokevirtual 49, 3) := by decide +kernel
theorem dL_law_340 : decode cL_law 340 = .ok (.pop, 1) := by decide +kernel
theorem dL_law_341 : decode cL_law 341 = .ok (.aload_n 2, 1) := by decide +kernel
theorem dL_law_342 : decode cL_law 342 = .ok (.aload_n 0, 1) := by decide +kernel
theorem dL_law_343 : decode cL_law 343 = .ok (.iload_n 3, 1) := by decide +kernel
theorem dL_law_344 : decode cL_law 344 = .ok (.iconst 1, 1) := by decide +kernel
theorem dL_law_345 : decode cL_law 345 = .ok (.iadd, 1) := by decide +kernel
theorem dL_law_346 : decode cL_law 346 = .ok (.iaload, 1) := by decide +kernel
theorem dL_law_347 : decode cL_law 347 = .ok (.aload_n 0, 1) := by decide +kernel
theorem dL_law_348 : decode cL_law 348 = .ok (.iload_n 3, 1) := by decide +kernel
theorem dL_law_349 : decode cL_law 349 = .ok (.iconst 2, 1) := by decide +kernel
theorem dL_law_350 : decode cL_law 350 = .ok (.iadd, 1) := by decide +kernel
theorem dL_law_351 : decode cL_law 351 = .ok (.iaload, 1) := by decide +kernel
theorem dL_law_352 : decode cL_law 352 = .ok (.invokevirtual 52, 3) := by decide +kernel
theorem dL_law_355 : decode cL_law 355 = .ok (.pop, 1) := by decide +kernel
theorem dL_law_356 : decode cL_law 356 = .ok (.goto 524, 3) := by decide +kernel
theorem dL_law_359 : decode cL_law 359 = .ok (.aload_n 1, 1) := by decide +kernel
theorem dL_law_360 : decode cL_law 360 = .ok (.aload_n 0, 1) := by decide +kernel
theorem dL_law_361 : decode cL_law 361 = .ok (.iload_n 3, 1) := by decide +kernel
theorem dL_law_362 : decode cL_law 362 = .ok (.iconst 1, 1) := by decide +kernel
theorem dL_law_363 : decode cL_law 363 = .ok (.iadd, 1) := by decide +kernel
theorem dL_law_364 : decode cL_law 364 = .ok (.iaload, 1) := by decide +kernel
theorem dL_law_365 : decode cL_law 365 = .ok (.aload_n 0, 1) := by decide +kernel
theorem dL_law_366 : decode cL_law 366 = .ok (.iload_n 3, 1) := by decide +kernel
theorem dL_law_367 : decode cL_law 367 = .ok (.iconst 2, 1) := by decide +kernel
theorem dL_law_368 : decode cL_law 368 = .ok (.iadd, 1) := by decide +kernel
theorem dL_law_369 : decode cL_law 369 = .ok (.iaload, 1) := by decide +kernel
theorem dL_law_370 : decode cL_law 370 = .ok (.invokevirtual 53, 3) := by decide +kernel
theorem dL_law_373 : decode cL_law 373 = .ok (.pop, 1) := by decide +kernel
theorem dL_law_374 : decode cL_law 374 = .ok (.aload_n 2, 1) := by decide +kernel
theorem dL_law_375 : decode cL_law 375 = .ok (.aload_n 0, 1) := by decide +kernel
theorem dL_law_376 : decode cL_law 376 = .ok (.iload_n 3, 1) := by decide +kernel
theorem dL_law_377 : decode cL_law 377 = .ok (.iconst 1, 1) := by decide +kernel
theorem dL_law_378 : decode cL_law 378 = .ok (.iadd, 1) := by decide +kernel
theorem dL_law_379 : decode cL_law 379 = .ok (.iaload, 1) := by decide +kernel
theorem dL_law_380 : decode cL_law 380 = .ok (.aload_n 0, 1) := by decide +kernel
theorem dL_law_381 : decode cL_law 381 = .ok (.iload_n 3, 1) := by decide +kernel
theorem dL_law_382 : decode cL_law 382 = .ok (.iconst 2, 1) := by decide +kernel
theorem dL_law_383 : decode cL_law 383 = .ok (.iadd, 1) := by decide +kernel
theorem dL_law_384 : decode cL_law 384 = .ok (.iaload, 1) := by decide +kernel
theorem dL_law_385 : decode cL_law 385 = .ok (.invokevirtual 56, 3) := by decide +kernel
theorem dL_law_388 : decode cL_law 388 = .ok (.pop, 1) := by decide +kernel
theorem dL_law_389 : decode cL_law 389 = .ok (.goto 491, 3) := by decide +kernel
theorem dL_law_392 : decode cL_law 392 = .ok (.aload_n 1, 1) := by decide +kernel
theorem dL_law_393 : decode cL_law 393 = .ok (.aload_n 0, 1) := by decide +kernel
theorem dL_law_394 : decode cL_law 394 = .ok (.iload_n 3, 1) := by decide +kernel
theorem dL_law_395 : decode cL_law 395 = .ok (.iconst 1, 1) := by decide +kernel
theorem dL_law_396 : decode cL_law 396 = .ok (.iadd, 1) := by decide +kernel
theorem dL_law_397 : decode cL_law 397 = .ok (.iaload, 1) := by decide +kernel
theorem dL_law_398 : decode cL_law 398 = .ok (.aload_n 0, 1) := by decide +kernel
theorem dL_law_399 : decode cL_law 399 = .ok (.iload_n 3, 1) := by decide +kernel
theorem dL_law_400 : decode cL_law 400 = .ok (.iconst 2, 1) := by decide +kernel
theorem dL_law_401 : decode cL_law 401 = .ok (.iadd, 1) := by decide +kernel
theorem dL_law_402 : decode cL_law 402 = .ok (.iaload, 1) := by decide +kernel
theorem dL_law_403 : decode cL_law 403 = .ok (.invokevirtual 57, 3) := by decide +kernel
theorem dL_law_406 : decode cL_law 406 = .ok (.pop, 1) := by decide +kernel
theorem dL_law_407 : decode cL_law 407 = .ok (.aload_n 2, 1) := by decide +kernel
theorem dL_law_408 : decode cL_law 408 = .ok (.aload_n 0, 1) := by decide +kernel
theorem dL_law_409 : decode cL_law 409 = .ok (.iload_n 3, 1) := by decide +kernel
theorem dL_law_410 : decode cL_law 410 = .ok (.iconst 1, 1) := by decide +kernel
theorem dL_law_411 : decode cL_law 411 = .ok (.iadd, 1) := by decide +kernel
theorem dL_law_412 : decode cL_law 412 = .ok (.iaload, 1) := by decide +kernel
theorem dL_law_413 : decode cL_law 413 = .ok (.aload_n 0, 1) := by decide +kernel
theorem dL_law_414 : decode cL_law 414 = .ok (.iload_n 3, 1) := by decide +kernel
theorem dL_law_415 : decode cL_law 415 = .ok (.iconst 2, 1) := by decide +kernel
theorem dL_law_416 : decode cL_law 416 = .ok (.iadd, 1) := by decide +kernel
