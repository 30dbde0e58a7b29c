theorem dX11_up_37 : decode cX11_up 37 = .ok (.aload_n 0, 1) := by decide +kernel
theorem dX11_up_38 : decode cX11_up 38 = .ok (.getfield 13, 3) := by decide +kernel
theorem dX11_up_41 : decode cX11_up 41 = .ok (.iconst 4, 1) := by decide +kernel
theorem dX11_up_42 : decode cX11_up 42 = .ok (.iload_n 1, 1) := by decide +kernel
theorem dX11_up_43 : decode cX11_up 43 = .ok (.imul, 1) := by decide +kernel
theorem dX11_up_44 : decode cX11_up 44 = .ok (.iload_n 2, 1) := by decide +kernel
theorem dX11_up_45 : decode cX11_up 45 = .ok (.iadd, 1) := by decide +kernel
theorem dX11_up_46 : decode cX11_up 46 = .ok (.iaload, 1) := by decide +kernel
theorem dX11_up_47 : decode cX11_up 47 = .ok (.ireturn, 1) := by decide +kernel
theorem dX11_row_0 : decode cX11_row 0 = .ok (.iload_n 2, 1) := by decide +kernel
theorem dX11_row_1 : decode cX11_row 1 = .ok (.iconst (-1), 1) := by decide +kernel
theorem dX11_row_2 : decode cX11_row 2 = .ok (.if_icmp .eq 12, 3) := by decide +kernel
theorem dX11_row_5 : decode cX11_row 5 = .ok (.iload_n 2, 1) := by decide +kernel
theorem dX11_row_6 : decode cX11_row 6 = .ok (.invokestatic 148, 3) := by decide +kernel
theorem dX11_row_9 : decode cX11_row 9 = .ok (.ifCond .ne 5, 3) := by decide +kernel
theorem dX11_row_12 : decode cX11_row 12 = .ok (.iconst (-1), 1) := by decide +kernel
theorem dX11_row_13 : decode cX11_row 13 = .ok (.ireturn, 1) := by decide +kernel
theorem dX11_row_14 : decode cX11_row 14 = .ok (.iload_n 1, 1) := by decide +kernel
theorem dX11_row_15 : decode cX11_row 15 = .ok (.invokestatic 80, 3) := by decide +kernel
theorem dX11_row_18 : decode cX11_row 18 = .ok (.ifCond .ne 6, 3) := by decide +kernel
theorem dX11_row_21 : decode cX11_row 21 = .ok (.bipush (-2), 2) := by decide +kernel
theorem dX11_row_23 : decode cX11_row 23 = .ok (.ireturn, 1) := by decide +kernel
theorem dX11_row_24 : decode cX11_row 24 = .ok (.aload_n 0, 1) := by decide +kernel
theorem dX11_row_25 : decode cX11_row 25 = .ok (.getfield 19, 3) := by decide +kernel
theorem dX11_row_28 : decode cX11_row 28 = .ok (.iload_n 1, 1) := by decide +kernel
theorem dX11_row_29 : decode cX11_row 29 = .ok (.iaload, 1) := by decide +kernel
theorem dX11_row_30 : decode cX11_row 30 = .ok (.istore_n 3, 1) := by decide +kernel
theorem dX11_row_31 : decode cX11_row 31 = .ok (.aload_n 0, 1) := by decide +kernel
theorem dX11_row_32 : decode cX11_row 32 = .ok (.getfield 19, 3) := by decide +kernel
theorem dX11_row_35 : decode cX11_row 35 = .ok (.iload_n 1, 1) := by decide +kernel
theorem dX11_row_36 : decode cX11_row 36 = .ok (.iload_n 2, 1) := by decide +kernel
theorem dX11_row_37 : decode cX11_row 37 = .ok (.iconst (-1), 1) := by decide +kernel
theorem dX11_row_38 : decode cX11_row 38 = .ok (.if_icmp .ne 8, 3) := by decide +kernel
theorem dX11_row_41 : decode cX11_row 41 = .ok (.bipush (-6), 2) := by decide +kernel
theorem dX11_row_43 : decode cX11_row 43 = .ok (.goto 4, 3) := by decide +kernel
theorem dX11_row_46 : decode cX11_row 46 = .ok (.iload_n 2, 1) := by decide +kernel
theorem dX11_row_47 : decode cX11_row 47 = .ok (.iastore, 1) := by decide +kernel
theorem dX11_row_48 : decode cX11_row 48 = .ok (.iload_n 3, 1) := by decide +kernel
theorem dX11_row_49 : decode cX11_row 49 = .ok (.ireturn, 1) := by decide +kernel
theorem dX11_strayed_0 : decode cX11_strayed 0 = .ok (.iload_n 1, 1) := by decide +kernel
theorem dX11_strayed_1 : decode cX11_strayed 1 = .ok (.iconst (-1), 1) := by decide +kernel
theorem dX11_strayed_2 : decode cX11_strayed 2 = .ok (.if_icmp .eq 12, 3) := by decide +kernel
theorem dX11_strayed_5 : decode cX11_strayed 5 = .ok (.iload_n 1, 1) := by decide +kernel
theorem dX11_strayed_6 : decode cX11_strayed 6 = .ok (.invokestatic 148, 3) := by decide +kernel
theorem dX11_strayed_9 : decode cX11_strayed 9 = .ok (.ifCond .ne 5, 3) := by decide +kernel
theorem dX11_strayed_12 : decode cX11_strayed 12 = .ok (.iconst (-1), 1) := by decide +kernel
theorem dX11_strayed_13 : decode cX11_strayed 13 = .ok (.ireturn, 1) := by decide +kernel
theorem dX11_strayed_14 : decode cX11_strayed 14 = .ok (.iload_n 2, 1) := by decide +kernel
theorem dX11_strayed_15 : decode cX11_strayed 15 = .ok (.i2l, 1) := by decide +kernel
theorem dX11_strayed_16 : decode cX11_strayed 16 = .ok (.lconst 0, 1) := by decide +kernel
theorem dX11_strayed_17 : decode cX11_strayed 17 = .ok (.lconst 1, 1) := by decide +kernel
theorem dX11_strayed_18 : decode cX11_strayed 18 = .ok (.invokestatic 52, 3) := by decide +kernel
theorem dX11_strayed_21 : decode cX11_strayed 21 = .ok (.ifCond .ne 6, 3) := by decide +kernel
theorem dX11_strayed_24 : decode cX11_strayed 24 = .ok (.bipush (-2), 2) := by decide +kernel
theorem dX11_strayed_26 : decode cX11_strayed 26 = .ok (.ireturn, 1) := by decide +kernel
theorem dX11_strayed_27 : decode cX11_strayed 27 = .ok (.iconst 0, 1) := by decide +kernel
theorem dX11_strayed_28 : decode cX11_strayed 28 = .ok (.istore_n 3, 1) := by decide +kernel
theorem dX11_strayed_29 : decode cX11_strayed 29 = .ok (.iconst 0, 1) := by decide +kernel
theorem dX11_strayed_30 : decode cX11_strayed 30 = .ok (.istore 4, 2) := by decide +kernel
theorem dX11_strayed_32 : decode cX11_strayed 32 = .ok (.iload 4, 2) := by decide +kernel
theorem dX11_strayed_34 : decode cX11_strayed 34 = .ok (.bipush 64, 2) := by decide +kernel
theorem dX11_strayed_36 : decode cX11_strayed 36 = .ok (.if_icmp .ge 119, 3) := by decide +kernel
theorem dX11_strayed_39 : decode cX11_strayed 39 = .ok (.iconst 0, 1) := by decide +kernel
theorem dX11_strayed_40 : decode cX11_strayed 40 = .ok (.istore 5, 2) := by decide +kernel
theorem dX11_strayed_42 : decode cX11_strayed 42 = .ok (.iload 5, 2) := by decide +kernel
theorem dX11_strayed_44 : decode cX11_strayed 44 = .ok (.iconst 4, 1) := by decide +kernel
theorem dX11_strayed_45 : decode cX11_strayed 45 = .ok (.if_icmp .ge 104, 3) := by decide +kernel
theorem dX11_strayed_48 : decode cX11_strayed 48 = .ok (.iload_n 1, 1) := by decide +kernel
theorem dX11_strayed_49 : decode cX11_strayed 49 = .ok (.iconst (-1), 1) := by decide +kernel
theorem dX11_strayed_50 : decode cX11_strayed 50 = .ok (.if_icmp .eq 9, 3) := by decide +kernel
theorem dX11_strayed_53 : decode cX11_strayed 53 = .ok (.iload_n 1, 1) := by decide +kernel
theorem dX11_strayed_54 : decode cX11_strayed 54 = .ok (.iload 5, 2) := by decide +kernel
theorem dX11_strayed_56 : decode cX11_strayed 56 = .ok (.if_icmp .ne 7, 3) := by decide +kernel
theorem dX11_strayed_59 : decode cX11_strayed 59 = .ok (.iconst 1, 1) := by decide +kernel
theorem dX11_strayed_60 : decode cX11_strayed 60 = .ok (.goto 4, 3) := by decide +kernel
theorem dX11_strayed_63 : decode cX11_strayed 63 = .ok (.iconst 0, 1) := by decide +kernel
theorem dX11_strayed_64 : decode cX11_strayed 64 = .ok (.istore 6, 2) := by decide +kernel
theorem dX11_strayed_66 : decode cX11_strayed 66 = .ok (.aload_n 0, 1) := by decide +kernel
theorem dX11_strayed_67 : decode cX11_strayed 67 = .ok (.getfield 13, 3) := by decide +kernel
theorem dX11_strayed_70 : decode cX11_strayed 70 = .ok (.iconst 4, 1) := by decide +kernel
theorem dX11_strayed_71 : decode cX11_strayed 71 = .ok (.iload 4, 2) := by decide +kernel
theorem dX11_strayed_73 : decode cX11_strayed 73 = .ok (.imul, 1) := by decide +kernel
theorem dX11_strayed_74 : decode cX11_strayed 74 = .ok (.iload 5, 2) := by decide +kernel
theorem dX11_strayed_76 : decode cX11_strayed 76 = .ok (.iadd, 1) := by decide +kernel
theorem dX11_strayed_77 : decode cX11_strayed 77 = .ok (.iaload, 1) := by decide +kernel
theorem dX11_strayed_78 : decode cX11_strayed 78 = .ok (.istore 7, 2) := by decide +kernel
theorem dX11_strayed_80 : decode cX11_strayed 80 = .ok (.iload_n 2, 1) := by decide +kernel
theorem dX11_strayed_81 : decode cX11_strayed 81 = .ok (.ifCond .ne 24, 3) := by decide +kernel
theorem dX11_strayed_84 : decode cX11_strayed 84 = .ok (.aload_n 0, 1) := by decide +kernel
theorem dX11_strayed_85 : decode cX11_strayed 85 = .ok (.getfield 19, 3) := by decide +kernel
theorem dX11_strayed_88 : decode cX11_strayed 88 = .ok (.iload 4, 2) := by decide +kernel
theorem dX11_strayed_90 : decode cX11_strayed 90 = .ok (.iaload, 1) := by decide +kernel
theorem dX11_strayed_91 : decode cX11_strayed 91 = .ok (.iload 5, 2) := by decide +kernel
theorem dX11_strayed_93 : decode cX11_strayed 93 = .ok (.if_icmp .ne 7, 3) := by decide +kernel
theorem dX11_strayed_96 : decode cX11_strayed 96 = .ok (.iconst 0, 1) := by decide +kernel
theorem dX11_strayed_97 : decode cX11_strayed 97 = .ok (.goto 30, 3) := by decide +kernel
theorem dX11_strayed_100 : decode cX11_strayed 100 = .ok (.iload 7, 2) := by decide +kernel
theorem dX11_strayed_102 : decode cX11_strayed 102 = .ok (.goto 25, 3) := by decide +kernel
theorem dX11_strayed_105 : decode cX11_strayed 105 = .ok (.aload_n 0, 1) := by decide +kernel
theorem dX11_strayed_106 : decode cX11_strayed 106 = .ok (.getfield 19, 3) := by decide +kernel
theorem dX11_strayed_109 : decode cX11_strayed 109 = .ok (.iload 4, 2) := by decide +kernel
theorem dX11_strayed_111 : decode cX11_strayed 111 = .ok (.iaload, 1) := by decide +kernel
theorem dX11_strayed_112 : decode cX11_strayed 112 = .ok (.iload 5, 2) := by decide +kernel
theorem dX11_strayed_114 : decode cX11_strayed 114 = .ok (.if_icmp .ne 12, 3) := by decide +kernel
theorem dX11_strayed_117 : decode cX11_strayed 117 = .ok (.iload 7, 2) := by decide +kernel
theorem dX11_strayed_119 : decode cX11_strayed 119 = .ok (.ifCond .ne 7, 3) := by decide +kernel
theorem dX11_strayed_122 : decode cX11_strayed 122 = .ok (.iconst 1, 1) := by decide +kernel
theorem dX11_strayed_123 : decode cX11_strayed 123 = .ok (.goto 4, 3) := by decide +kernel
theorem dX11_strayed_126 : decode cX11_strayed 126 = .ok (.iconst 0, 1) := by decide +kernel
theorem dX11_strayed_127 : decode cX11_strayed 127 = .ok (.istore 8, 2) := by decide +kernel
theorem dX11_strayed_129 : decode cX11_strayed 129 = .ok (.iload_n 3, 1) := by decide +kernel
theorem dX11_strayed_130 : decode cX11_strayed 130 = .ok (.iload 6, 2) := by decide +kernel
theorem dX11_strayed_132 : decode cX11_strayed 132 = .ok (.ifCond .eq 8, 3) := by decide +kernel
theorem dX11_strayed_135 : decode cX11_strayed 135 = .ok (.iload 8, 2) := by decide +kernel
theorem dX11_strayed_137 : decode cX11_strayed 137 = .ok (.goto 4, 3) := by decide +kernel
theorem dX11_strayed_140 : decode cX11_strayed 140 = .ok (.iconst 0, 1) := by decide +kernel
theorem dX11_strayed_141 : decode cX11_strayed 141 = .ok (.iadd, 1) := by decide +kernel
theorem dX11_strayed_142 : decode cX11_strayed 142 = .ok (.istore_n 3, 1) := by decide +kernel
theorem dX11_strayed_143 : decode cX11_strayed 143 = .ok (.iinc 5 1, 3) := by decide +kernel
theorem dX11_strayed_146 : decode cX11_strayed 146 = .ok (.goto (-104), 3) := by decide +kernel
theorem dX11_strayed_149 : decode cX11_strayed 149 = .ok (.iinc 4 1, 3) := by decide +kernel
theorem dX11_strayed_152 : decode cX11_strayed 152 = .ok (.goto (-120), 3) := by decide +kernel
theorem dX11_strayed_155 : decode cX11_strayed 155 = .ok (.iload_n 3, 1) := by decide +kernel
theorem dX11_strayed_156 : decode cX11_strayed 156 = .ok (.ireturn, 1) := by decide +kernel
theorem dX11_isAsNow_0 : decode cX11_isAsNow 0 = .ok (.iconst 1, 1) := by decide +kernel
theorem dX11_isAsNow_1 : decode cX11_isAsNow 1 = .ok (.istore_n 1, 1) := by decide +kernel
theorem dX11_isAsNow_2 : decode cX11_isAsNow 2 = .ok (.iconst 0, 1) := by decide +kernel
theorem dX11_isAsNow_3 : decode cX11_isAsNow 3 = .ok (.istore_n 2, 1) := by decide +kernel
theorem dX11_isAsNow_4 : decode cX11_isAsNow 4 = .ok (.iload_n 2, 1) := by decide +kernel
theorem dX11_isAsNow_5 : decode cX11_isAsNow 5 = .ok (.sipush 256, 3) := by decide +kernel
theorem dX11_isAsNow_8 : decode cX11_isAsNow 8 = .ok (.if_icmp .ge 34, 3) := by decide +kernel
theorem dX11_isAsNow_11 : decode cX11_isAsNow 11 = .ok (.iload_n 1, 1) := by decide +kernel
theorem dX11_isAsNow_12 : decode cX11_isAsNow 12 = .ok (.ifCond .eq 30, 3) := by decide +kernel
theorem dX11_isAsNow_15 : decode cX11_isAsNow 15 = .ok (.aload_n 0, 1) := by decide +kernel
theorem dX11_isAsNow_16 : decode cX11_isAsNow 16 = .ok (.getfield 31, 3) := by decide +kernel
theorem dX11_isAsNow_19 : decode cX11_isAsNow 19 = .ok (.iload_n 2, 1) := by decide +kernel
theorem dX11_isAsNow_20 : decode cX11_isAsNow 20 = .ok (.iaload, 1) := by decide +kernel
theorem dX11_isAsNow_21 : decode cX11_isAsNow 21 = .ok (.aload_n 0, 1) := by decide +kernel
theorem dX11_isAsNow_22 : decode cX11_isAsNow 22 = .ok (.getfield 13, 3) := by decide +kernel
theorem dX11_isAsNow_25 : decode cX11_isAsNow 25 = .ok (.iload_n 2, 1) := by decide +kernel
theorem dX11_isAsNow_26 : decode cX11_isAsNow 26 = .ok (.iaload, 1) := by decide +kernel
theorem dX11_isAsNow_27 : decode cX11_isAsNow 27 = .ok (.if_icmp .ne 7, 3) := by decide +kernel
theorem dX11_isAsNow_30 : decode cX11_isAsNow 30 = .ok (.iconst 1, 1) := by decide +kernel
theorem dX11_isAsNow_31 : decode cX11_isAsNow 31 = .ok (.goto 4, 3) := by decide +kernel
theorem dX11_isAsNow_34 : decode cX11_isAsNow 34 = .ok (.iconst 0, 1) := by decide +kernel
theorem dX11_isAsNow_35 : decode cX11_isAsNow 35 = .ok (.istore_n 1, 1) := by decide +kernel
theorem dX11_isAsNow_36 : decode cX11_isAsNow 36 = .ok (.iinc 2 1, 3) := by decide +kernel
theorem dX11_isAsNow_39 : decode cX11_isAsNow 39 = .ok (.goto (-35), 3) := by decide +kernel
theorem dX11_isAsNow_42 : decode cX11_isAsNow 42 = .ok (.iload_n 1, 1) := by decide +kernel
theorem dX11_isAsNow_43 : decode cX11_isAsNow 43 = .ok (.ireturn, 1) := by decide +kernel
theorem dX11_guessed_0 : decode cX11_guessed 0 = .ok (.iload_n 1, 1) := by decide +kernel
theorem dX11_guessed_1 : decode cX11_guessed 1 = .ok (.invokestatic 72, 3) := by decide +kernel
theorem dX11_guessed_4 : decode cX11_guessed 4 = .ok (.ifCond .ne 5, 3) := by decide +kernel
theorem dX11_guessed_7 : decode cX11_guessed 7 = .ok (.iconst (-1), 1) := by decide +kernel
theorem dX11_guessed_8 : decode cX11_guessed 8 = .ok (.ireturn, 1) := by decide +kernel
theorem dX11_guessed_9 : decode cX11_guessed 9 = .ok (.iload_n 2, 1) := by decide +kernel
theorem dX11_guessed_10 : decode cX11_guessed 10 = .ok (.i2l, 1) := by decide +kernel
theorem dX11_guessed_11 : decode cX11_guessed 11 = .ok (.lconst 0, 1) := by decide +kernel
theorem dX11_guessed_12 : decode cX11_guessed 12 = .ok (.lconst 1, 1) := by decide +kernel
theorem dX11_guessed_13 : decode cX11_guessed 13 = .ok (.invokestatic 52, 3) := by decide +kernel
theorem dX11_guessed_16 : decode cX11_guessed 16 = .ok (.ifCond .ne 6, 3) := by decide +kernel
theorem dX11_guessed_19 : decode cX11_guessed 19 = .ok (.bipush (-2), 2) := by decide +kernel
theorem dX11_guessed_21 : decode cX11_guessed 21 = .ok (.ireturn, 1) := by decide +kernel
theorem dX11_guessed_22 : decode cX11_guessed 22 = .ok (.aload_n 0, 1) := by decide +kernel
theorem dX11_guessed_23 : decode cX11_guessed 23 = .ok (.getfield 46, 3) := by decide +kernel
theorem dX11_guessed_26 : decode cX11_guessed 26 = .ok (.iload_n 2, 1) := by decide +kernel
theorem dX11_guessed_27 : decode cX11_guessed 27 = .ok (.baload, 1) := by decide +kernel
theorem dX11_guessed_28 : decode cX11_guessed 28 = .ok (.ifCond .ne 6, 3) := by decide +kernel
theorem dX11_guessed_31 : decode cX11_guessed 31 = .ok (.bipush (-3), 2) := by decide +kernel
theorem dX11_guessed_33 : decode cX11_guessed 33 = .ok (.ireturn, 1) := by decide +kernel
theorem dX11_guessed_34 : decode cX11_guessed 34 = .ok (.aload_n 0, 1) := by decide +kernel
theorem dX11_guessed_35 : decode cX11_guessed 35 = .ok (.invokevirtual 135, 3) := by decide +kernel
theorem dX11_guessed_38 : decode cX11_guessed 38 = .ok (.ifCond .lt 6, 3) := by decide +kernel
theorem dX11_guessed_41 : decode cX11_guessed 41 = .ok (.bipush (-5), 2) := by decide +kernel
theorem dX11_guessed_43 : decode cX11_guessed 43 = .ok (.ireturn, 1) := by decide +kernel
theorem dX11_guessed_44 : decode cX11_guessed 44 = .ok (.iconst 0, 1) := by decide +kernel
theorem dX11_guessed_45 : decode cX11_guessed 45 = .ok (.istore_n 3, 1) := by decide +kernel
theorem dX11_guessed_46 : decode cX11_guessed 46 = .ok (.iconst 0, 1) := by decide +kernel
theorem dX11_guessed_47 : decode cX11_guessed 47 = .ok (.istore 4, 2) := by decide +kernel
theorem dX11_guessed_49 : decode cX11_guessed 49 = .ok (.iload 4, 2) := by decide +kernel
theorem dX11_guessed_51 : decode cX11_guessed 51 = .ok (.iconst 5, 1) := by decide +kernel
theorem dX11_guessed_52 : decode cX11_guessed 52 = .ok (.if_icmp .ge 51, 3) := by decide +kernel
theorem dX11_guessed_55 : decode cX11_guessed 55 = .ok (.aload_n 0, 1) := by decide +kernel
theorem dX11_guessed_56 : decode cX11_guessed 56 = .ok (.iload_n 2, 1) := by decide +kernel
theorem dX11_guessed_57 : decode cX11_guessed 57 = .ok (.invokevirtual 154, 3) := by decide +kernel
theorem dX11_guessed_60 : decode cX11_guessed 60 = .ok (.aload_n 0, 1) := by decide +kernel
theorem dX11_guessed_61 : decode cX11_guessed 61 = .ok (.getfield 28, 3) := by decide +kernel
theorem dX11_guessed_64 : decode cX11_guessed 64 = .ok (.bipush 8, 2) := by decide +kernel
theorem dX11_guessed_66 : decode cX11_guessed 66 = .ok (.iload_n 1, 1) := by decide +kernel
theorem dX11_guessed_67 : decode cX11_guessed 67 = .ok (.imul, 1) := by decide +kernel
theorem dX11_guessed_68 : decode cX11_guessed 68 = .ok (.iconst 4, 1) := by decide +kernel
theorem dX11_guessed_69 : decode cX11_guessed 69 = .ok (.iadd, 1) := by decide +kernel
theorem dX11_guessed_70 : decode cX11_guessed 70 = .ok (.iload 4, 2) := by decide +kernel
theorem dX11_guessed_72 : decode cX11_guessed 72 = .ok (.iastore, 1) := by decide +kernel
theorem dX11_guessed_73 : decode cX11_guessed 73 = .ok (.aload_n 0, 1) := by decide +kernel
theorem dX11_guessed_74 : decode cX11_guessed 74 = .ok (.bipush 40, 2) := by decide +kernel
theorem dX11_guessed_76 : decode cX11_guessed 76 = .ok (.invokevirtual 145, 3) := by decide +kernel
theorem dX11_guessed_79 : decode cX11_guessed 79 = .ok (.iload_n 3, 1) := by decide +kernel
theorem dX11_guessed_80 : decode cX11_guessed 80 = .ok (.aload_n 0, 1) := by decide +kernel
theorem dX11_guessed_81 : decode cX11_guessed 81 = .ok (.invokevirtual 157, 3) := by decide +kernel
theorem dX11_guessed_84 : decode cX11_guessed 84 = .ok (.ifCond .eq 10, 3) := by decide +kernel
theorem dX11_guessed_87 : decode cX11_guessed 87 = .ok (.iconst 1, 1) := by decide +kernel
theorem dX11_guessed_88 : decode cX11_guessed 88 = .ok (.iload 4, 2) := by decide +kernel
theorem dX11_guessed_90 : decode cX11_guessed 90 = .ok (.ishl, 1) := by decide +kernel
theorem dX11_guessed_91 : decode cX11_guessed 91 = .ok (.goto 4, 3) := by decide +kernel
theorem dX11_guessed_94 : decode cX11_guessed 94 = .ok (.iconst 0, 1) := by decide +kernel
theorem dX11_guessed_95 : decode cX11_guessed 95 = .ok (.ior, 1) := by decide +kernel
theorem dX11_guessed_96 : decode cX11_guessed 96 = .ok (.istore_n 3, 1) := by decide +kernel
theorem dX11_guessed_97 : decode cX11_guessed 97 = .ok (.iinc 4 1, 3) := by decide +kernel
theorem dX11_guessed_100 : decode cX11_guessed 100 = .ok (.goto (-51), 3) := by decide +kernel
theorem dX11_guessed_103 : decode cX11_guessed 103 = .ok (.iload_n 3, 1) := by decide +kernel
theorem dX11_guessed_104 : decode cX11_guessed 104 = .ok (.ireturn, 1) := by decide +kernel
theorem dX11_be_0 : decode cX11_be 0 = .ok (.sipush 1000, 3) := by decide +kernel
theorem dX11_be_3 : decode cX11_be 3 = .ok (.iload_n 1, 1) := by decide +kernel
theorem dX11_be_4 : decode cX11_be 4 = .ok (.sipush 200, 3) := by decide +kernel
theorem dX11_be_7 : decode cX11_be 7 = .ok (.iadd, 1) := by decide +kernel
theorem dX11_be_8 : decode cX11_be 8 = .ok (.imul, 1) := by decide +kernel
theorem dX11_be_9 : decode cX11_be 9 = .ok (.iload_n 2, 1) := by decide +kernel
theorem dX11_be_10 : decode cX11_be 10 = .ok (.iadd, 1) := by decide +kernel
theorem dX11_be_11 : decode cX11_be 11 = .ok (.sipush 200, 3) := by decide +kernel
theorem dX11_be_14 : decode cX11_be 14 = .ok (.iadd, 1) := by decide +kernel
theorem dX11_be_15 : decode cX11_be 15 = .ok (.istore_n 3, 1) := by decide +kernel
theorem dX11_be_16 : decode cX11_be 16 = .ok (.iconst 0, 1) := by decide +kernel
theorem dX11_be_17 : decode cX11_be 17 = .ok (.istore 4, 2) := by decide +kernel
theorem dX11_be_19 : decode cX11_be 19 = .ok (.iload 4, 2) := by decide +kernel
theorem dX11_be_21 : decode cX11_be 21 = .ok (.aload_n 0, 1) := by decide +kernel
theorem dX11_be_22 : decode cX11_be 22 = .ok (.getfield 161, 3) := by decide +kernel
theorem dX11_be_25 : decode cX11_be 25 = .ok (.if_icmp .ge 21, 3) := by decide +kernel
theorem dX11_be_28 : decode cX11_be 28 = .ok (.aload_n 0, 1) := by decide +kernel
theorem dX11_be_29 : decode cX11_be 29 = .ok (.getfield 37, 3) := by decide +kernel
theorem dX11_be_32 : decode cX11_be 32 = .ok (.iload 4, 2) := by decide +kernel
theorem dX11_be_34 : decode cX11_be 34 = .ok (.iaload, 1) := by decide +kernel
theorem dX11_be_35 : decode cX11_be 35 = .ok (.iload_n 3, 1) := by decide +kernel
theorem dX11_be_36 : decode cX11_be 36 = .ok (.if_icmp .ne 4, 3) := by decide +kernel
theorem dX11_be_39 : decode cX11_be 39 = .ok (.return_, 1) := by decide +kernel
theorem dX11_be_40 : decode cX11_be 40 = .ok (.iinc 4 1, 3) := by decide +kernel
theorem dX11_be_43 : decode cX11_be 43 = .ok (.goto (-24), 3) := by decide +kernel
theorem dX11_be_46 : decode cX11_be 46 = .ok (.aload_n 0, 1) := by decide +kernel
theorem dX11_be_47 : decode cX11_be 47 = .ok (.getfield 37, 3) := by decide +kernel
theorem dX11_be_50 : decode cX11_be 50 = .ok (.aload_n 0, 1) := by decide +kernel
theorem dX11_be_51 : decode cX11_be 51 = .ok (.getfield 161, 3) := by decide +kernel
theorem dX11_be_54 : decode cX11_be 54 = .ok (.iload_n 3, 1) := by decide +kernel
theorem dX11_be_55 : decode cX11_be 55 = .ok (.iastore, 1) := by decide +kernel
theorem dX11_be_56 : decode cX11_be 56 = .ok (.aload_n 0, 1) := by decide +kernel
theorem dX11_be_57 : decode cX11_be 57 = .ok (.dup, 1) := by decide +kernel
theorem dX11_be_58 : decode cX11_be 58 = .ok (.getfield 161, 3) := by decide +kernel
theorem dX11_be_61 : decode cX11_be 61 = .ok (.iconst 1, 1) := by decide +kernel
theorem dX11_be_62 : decode cX11_be 62 = .ok (.iadd, 1) := by decide +kernel
theorem dX11_be_63 : decode cX11_be 63 = .ok (.putfield 161, 3) := by decide +kernel
theorem dX11_be_66 : decode cX11_be 66 = .ok (.return_, 1) := by decide +kernel
theorem dX11_spiral_0 : decode cX11_spiral 0 = .ok (.iload_n 1, 1) := by decide +kernel
theorem dX11_spiral_1 : decode cX11_spiral 1 = .ok (.i2l, 1) := by decide +kernel
theorem dX11_spiral_2 : decode cX11_spiral 2 = .ok (.lconst 1, 1) := by decide +kernel
theorem dX11_spiral_3 : decode cX11_spiral 3 = .ok (.ldc2_w 164, 3) := by decide +kernel
theorem dX11_spiral_6 : decode cX11_spiral 6 = .ok (.invokestatic 52, 3) := by decide +kernel
theorem dX11_spiral_9 : decode cX11_spiral 9 = .ok (.ifCond .eq 25, 3) := by decide +kernel
theorem dX11_spiral_12 : decode cX11_spiral 12 = .ok (.iload_n 2, 1) := by decide +kernel
theorem dX11_spiral_13 : decode cX11_spiral 13 = .ok (.i2l, 1) := by decide +kernel
theorem dX11_spiral_14 : decode cX11_spiral 14 = .ok (.lconst 0, 1) := by decide +kernel
theorem dX11_spiral_15 : decode cX11_spiral 15 = .ok (.ldc2_w 166, 3) := by decide +kernel
theorem dX11_spiral_18 : decode cX11_spiral 18 = .ok (.invokestatic 52, 3) := by decide +kernel
theorem dX11_spiral_21 : decode cX11_spiral 21 = .ok (.ifCond .eq 13, 3) := by decide +kernel
theorem dX11_spiral_24 : decode cX11_spiral 24 = .ok (.iload_n 3, 1) := by decide +kernel
theorem dX11_spiral_25 : decode cX11_spiral 25 = .ok (.i2l, 1) := by decide +kernel
theorem dX11_spiral_26 : decode cX11_spiral 26 = .ok (.lconst 0, 1) := by decide +kernel
theorem dX11_spiral_27 : decode cX11_spiral 27 = .ok (.lconst 1, 1) := by decide +kernel
theorem dX11_spiral_28 : decode cX11_spiral 28 = .ok (.invokestatic 52, 3) := by decide +kernel
theorem dX11_spiral_31 : decode cX11_spiral 31 = .ok (.ifCond .ne 6, 3) := by decide +kernel
theorem dX11_spiral_34 : decode cX11_spiral 34 = .ok (.bipush (-2), 2) := by decide +kernel
theorem dX11_spiral_36 : decode cX11_spiral 36 = .ok (.ireturn, 1) := by decide +kernel
theorem dX11_spiral_37 : decode cX11_spiral 37 = .ok (.iload_n 2, 1) := by decide +kernel
theorem dX11_spiral_38 : decode cX11_spiral 38 = .ok (.iconst 1, 1) := by decide +kernel
theorem dX11_spiral_39 : decode cX11_spiral 39 = .ok (.if_icmp .ne 6, 3) := by decide +kernel
theorem dX11_spiral_42 : decode cX11_spiral 42 = .ok (.bipush (-6), 2) := by decide +kernel
theorem dX11_spiral_44 : decode cX11_spiral 44 = .ok (.ireturn, 1) := by decide +kernel
theorem dX11_spiral_45 : decode cX11_spiral 45 = .ok (.aload_n 0, 1) := by decide +kernel
theorem dX11_spiral_46 : decode cX11_spiral 46 = .ok (.iconst 0, 1) := by decide +kernel
theorem dX11_spiral_47 : decode cX11_spiral 47 = .ok (.putfield 161, 3) := by decide +kernel
theorem dX11_spiral_50 : decode cX11_spiral 50 = .ok (.aload_n 0, 1) := by decide +kernel
theorem dX11_spiral_51 : decode cX11_spiral 51 = .ok (.iconst 0, 1) := by decide +kernel
theorem dX11_spiral_52 : decode cX11_spiral 52 = .ok (.iconst 0, 1) := by decide +kernel
theorem dX11_spiral_53 : decode cX11_spiral 53 = .ok (.invokevirtual 168, 3) := by decide +kernel
theorem dX11_spiral_56 : decode cX11_spiral 56 = .ok (.iconst 0, 1) := by decide +kernel
theorem dX11_spiral_57 : decode cX11_spiral 57 = .ok (.istore 4, 2) := by decide +kernel
theorem dX11_spiral_59 : decode cX11_spiral 59 = .ok (.iconst 0, 1) := by decide +kernel
theorem dX11_spiral_60 : decode cX11_spiral 60 = .ok (.istore 5, 2) := by decide +kernel
theorem dX11_spiral_62 : decode cX11_spiral 62 = .ok (.iconst 0, 1) := by decide +kernel
theorem dX11_spiral_63 : decode cX11_spiral 63 = .ok (.istore 6, 2) := by decide +kernel
theorem dX11_spiral_65 : decode cX11_spiral 65 = .ok (.iconst 0, 1) := by decide +kernel
theorem dX11_spiral_66 : decode cX11_spiral 66 = .ok (.istore 7, 2) := by decide +kernel
theorem dX11_spiral_68 : decode cX11_spiral 68 = .ok (.iload 7, 2) := by decide +kernel
theorem dX11_spiral_70 : decode cX11_spiral 70 = .ok (.ifCond .eq 8, 3) := by decide +kernel
theorem dX11_spiral_73 : decode cX11_spiral 73 = .ok (.iload 6, 2) := by decide +kernel
theorem dX11_spiral_75 : decode cX11_spiral 75 = .ok (.ifCond .eq 66, 3) := by decide +kernel
theorem dX11_spiral_78 : decode cX11_spiral 78 = .ok (.iconst 0, 1) := by decide +kernel
theorem dX11_spiral_79 : decode cX11_spiral 79 = .ok (.istore 8, 2) := by decide +kernel
theorem dX11_spiral_81 : decode cX11_spiral 81 = .ok (.iload 8, 2) := by decide +kernel
theorem dX11_spiral_83 : decode cX11_spiral 83 = .ok (.iload_n 1, 1) := by decide +kernel
theorem dX11_spiral_84 : decode cX11_spiral 84 = .ok (.if_icmp .ge 37, 3) := by decide +kernel
theorem dX11_spiral_87 : decode cX11_spiral 87 = .ok (.iload 4, 2) := by decide +kernel
theorem dX11_spiral_89 : decode cX11_spiral 89 = .ok (.iload 6, 2) := by decide +kernel
theorem dX11_spiral_91 : decode cX11_spiral 91 = .ok (.invokestatic 66, 3) := by decide +kernel
theorem dX11_spiral_94 : decode cX11_spiral 94 = .ok (.iadd, 1) := by decide +kernel
theorem dX11_spiral_95 : decode cX11_spiral 95 = .ok (.istore 4, 2) := by decide +kernel
theorem dX11_spiral_97 : decode cX11_spiral 97 = .ok (.iload 5, 2) := by decide +kernel
theorem dX11_spiral_99 : decode cX11_spiral 99 = .ok (.iload 6, 2) := by decide +kernel
theorem dX11_spiral_101 : decode cX11_spiral 101 = .ok (.invokestatic 69, 3) := by decide +kernel
theorem dX11_spiral_104 : decode cX11_spiral 104 = .ok (.iadd, 1) := by decide +kernel
theorem dX11_spiral_105 : decode cX11_spiral 105 = .ok (.istore 5, 2) := by decide +kernel
theorem dX11_spiral_107 : decode cX11_spiral 107 = .ok (.aload_n 0, 1) := by decide +kernel
theorem dX11_spiral_108 : decode cX11_spiral 108 = .ok (.iload 4, 2) := by decide +kernel
theorem dX11_spiral_110 : decode cX11_spiral 110 = .ok (.iload 5, 2) := by decide +kernel
theorem dX11_spiral_112 : decode cX11_spiral 112 = .ok (.invokevirtual 168, 3) := by decide +kernel
theorem dX11_spiral_115 : decode cX11_spiral 115 = .ok (.iinc 8 1, 3) := by decide +kernel
theorem dX11_spiral_118 : decode cX11_spiral 118 = .ok (.goto (-37), 3) := by decide +kernel
theorem dX11_spiral_121 : decode cX11_spiral 121 = .ok (.iload 6, 2) := by decide +kernel
theorem dX11_spiral_123 : decode cX11_spiral 123 = .ok (.iload_n 2, 1) := by decide +kernel
theorem dX11_spiral_124 : decode cX11_spiral 124 = .ok (.iadd, 1) := by decide +kernel
theorem dX11_spiral_125 : decode cX11_spiral 125 = .ok (.iconst 1, 1) := by decide +kernel
theorem dX11_spiral_126 : decode cX11_spiral 126 = .ok (.isub, 1) := by decide +kernel
theorem dX11_spiral_127 : decode cX11_spiral 127 = .ok (.bipush 8, 2) := by decide +kernel
theorem dX11_spiral_129 : decode cX11_spiral 129 = .ok (.iadd, 1) := by decide +kernel
theorem dX11_spiral_130 : decode cX11_spiral 130 = .ok (.bipush 8, 2) := by decide +kernel
theorem dX11_spiral_132 : decode cX11_spiral 132 = .ok (.irem, 1) := by decide +kernel
theorem dX11_spiral_133 : decode cX11_spiral 133 = .ok (.istore 6, 2) := by decide +kernel
theorem dX11_spiral_135 : decode cX11_spiral 135 = .ok (.iinc 7 1, 3) := by decide +kernel
theorem dX11_spiral_138 : decode cX11_spiral 138 = .ok (.goto (-70), 3) := by decide +kernel
theorem dX11_spiral_141 : decode cX11_spiral 141 = .ok (.iload_n 3, 1) := by decide +kernel
theorem dX11_spiral_142 : decode cX11_spiral 142 = .ok (.ifCond .ne 8, 3) := by decide +kernel
theorem dX11_spiral_145 : decode cX11_spiral 145 = .ok (.iload 7, 2) := by decide +kernel
theorem dX11_spiral_147 : decode cX11_spiral 147 = .ok (.goto 7, 3) := by decide +kernel
theorem dX11_spiral_150 : decode cX11_spiral 150 = .ok (.aload_n 0, 1) := by decide +kernel
theorem dX11_spiral_151 : decode cX11_spiral 151 = .ok (.getfield 161, 3) := by decide +kernel
theorem dX11_spiral_154 : decode cX11_spiral 154 = .ok (.ireturn, 1) := by decide +kernel
theorem dX11_strayedNow_0 : decode cX11_strayedNow 0 = .ok (.iconst 0, 1) := by decide +kernel
theorem dX11_strayedNow_1 : decode cX11_strayedNow 1 = .ok (.istore_n 1, 1) := by decide +kernel
theorem dX11_strayedNow_2 : decode cX11_strayedNow 2 = .ok (.iconst 0, 1) := by decide +kernel
theorem dX11_strayedNow_3 : decode cX11_strayedNow 3 = .ok (.istore_n 2, 1) := by decide +kernel
theorem dX11_strayedNow_4 : decode cX11_strayedNow 4 = .ok (.iload_n 2, 1) := by decide +kernel
theorem dX11_strayedNow_5 : decode cX11_strayedNow 5 = .ok (.bipush 64, 2) := by decide +kernel
theorem dX11_strayedNow_7 : decode cX11_strayedNow 7 = .ok (.if_icmp .ge 49, 3) := by decide +kernel
theorem dX11_strayedNow_10 : decode cX11_strayedNow 10 = .ok (.iconst 0, 1) := by decide +kernel
theorem dX11_strayedNow_11 : decode cX11_strayedNow 11 = .ok (.istore_n 3, 1) := by decide +kernel
theorem dX11_strayedNow_12 : decode cX11_strayedNow 12 = .ok (.iload_n 3, 1) := by decide +kernel
theorem dX11_strayedNow_13 : decode cX11_strayedNow 13 = .ok (.iconst 4, 1) := by decide +kernel
theorem dX11_strayedNow_14 : decode cX11_strayedNow 14 = .ok (.if_icmp .ge 36, 3) := by decide +kernel
theorem dX11_strayedNow_17 : decode cX11_strayedNow 17 = .ok (.iload_n 1, 1) := by decide +kernel
theorem dX11_strayedNow_18 : decode cX11_strayedNow 18 = .ok (.aload_n 0, 1) := by decide +kernel
theorem dX11_strayedNow_19 : decode cX11_strayedNow 19 = .ok (.getfield 19, 3) := by decide +kernel
theorem dX11_strayedNow_22 : decode cX11_strayedNow 22 = .ok (.iload_n 2, 1) := by decide +kernel
theorem dX11_strayedNow_23 : decode cX11_strayedNow 23 = .ok (.iaload, 1) := by decide +kernel
theorem dX11_strayedNow_24 : decode cX11_strayedNow 24 = .ok (.iload_n 3, 1) := by decide +kernel
theorem dX11_strayedNow_25 : decode cX11_strayedNow 25 = .ok (.if_icmp .ne 7, 3) := by decide +kernel
theorem dX11_strayedNow_28 : decode cX11_strayedNow 28 = .ok (.iconst 0, 1) := by decide +kernel
theorem dX11_strayedNow_29 : decode cX11_strayedNow 29 = .ok (.goto 13, 3) := by decide +kernel
theorem dX11_strayedNow_32 : decode cX11_strayedNow 32 = .ok (.aload_n 0, 1) := by decide +kernel
theorem dX11_strayedNow_33 : decode cX11_strayedNow 33 = .ok (.getfield 31, 3) := by decide +kernel
theorem dX11_strayedNow_36 : decode cX11_strayedNow 36 = .ok (.iconst 4, 1) := by decide +kernel
theorem dX11_strayedNow_37 : decode cX11_strayedNow 37 = .ok (.iload_n 2, 1) := by decide +kernel
theorem dX11_strayedNow_38 : decode cX11_strayedNow 38 = .ok (.imul, 1) := by decide +kernel
theorem dX11_strayedNow_39 : decode cX11_strayedNow 39 = .ok (.iload_n 3, 1) := by decide +kernel
theorem dX11_strayedNow_40 : decode cX11_strayedNow 40 = .ok (.iadd, 1) := by decide +kernel
theorem dX11_strayedNow_41 : decode cX11_strayedNow 41 = .ok (.iaload, 1) := by decide +kernel
theorem dX11_strayedNow_42 : decode cX11_strayedNow 42 = .ok (.iadd, 1) := by decide +kernel
theorem dX11_strayedNow_43 : decode cX11_strayedNow 43 = .ok (.istore_n 1, 1) := by decide +kernel
theorem dX11_strayedNow_44 : decode cX11_strayedNow 44 = .ok (.iinc 3 1, 3) := by decide +kernel
theorem dX11_strayedNow_47 : decode cX11_strayedNow 47 = .ok (.goto (-35), 3) := by decide +kernel
theorem dX11_strayedNow_50 : decode cX11_strayedNow 50 = .ok (.iinc 2 1, 3) := by decide +kernel
theorem dX11_strayedNow_53 : decode cX11_strayedNow 53 = .ok (.goto (-49), 3) := by decide +kernel
theorem dX11_strayedNow_56 : decode cX11_strayedNow 56 = .ok (.iload_n 1, 1) := by decide +kernel
theorem dX11_strayedNow_57 : decode cX11_strayedNow 57 = .ok (.ireturn, 1) := by decide +kernel
theorem dX11_tryBells_0 : decode cX11_tryBells 0 = .ok (.aload_n 0, 1) := by decide +kernel
theorem dX11_tryBells_1 : decode cX11_tryBells 1 = .ok (.invokevirtual 139, 3) := by decide +kernel
theorem dX11_tryBells_4 : decode cX11_tryBells 4 = .ok (.aload_n 0, 1) := by decide +kernel
theorem dX11_tryBells_5 : decode cX11_tryBells 5 = .ok (.iload_n 1, 1) := by decide +kernel
theorem dX11_tryBells_6 : decode cX11_tryBells 6 = .ok (.putfield 111, 3) := by decide +kernel
theorem dX11_tryBells_9 : decode cX11_tryBells 9 = .ok (.aload_n 0, 1) := by decide +kernel
theorem dX11_tryBells_10 : decode cX11_tryBells 10 = .ok (.getfield 34, 3) := by decide +kernel
theorem dX11_tryBells_13 : decode cX11_tryBells 13 = .ok (.iconst 0, 1) := by decide +kernel
theorem dX11_tryBells_14 : decode cX11_tryBells 14 = .ok (.iload_n 2, 1) := by decide +kernel
theorem dX11_tryBells_15 : decode cX11_tryBells 15 = .ok (.iastore, 1) := by decide +kernel
theorem dX11_tryBells_16 : decode cX11_tryBells 16 = .ok (.aload_n 0, 1) := by decide +kernel
theorem dX11_tryBells_17 : decode cX11_tryBells 17 = .ok (.getfield 34, 3) := by decide +kernel
theorem dX11_tryBells_20 : decode cX11_tryBells 20 = .ok (.iconst 1, 1) := by decide +kernel
theorem dX11_tryBells_21 : decode cX11_tryBells 21 = .ok (.iload_n 3, 1) := by decide +kernel
theorem dX11_tryBells_22 : decode cX11_tryBells 22 = .ok (.iastore, 1) := by decide +kernel
theorem dX11_tryBells_23 : decode cX11_tryBells 23 = .ok (.aload_n 0, 1) := by decide +kernel
theorem dX11_tryBells_24 : decode cX11_tryBells 24 = .ok (.bipush 40, 2) := by decide +kernel
theorem dX11_tryBells_26 : decode cX11_tryBells 26 = .ok (.invokevirtual 145, 3) := by decide +kernel
theorem dX11_tryBells_29 : decode cX11_tryBells 29 = .ok (.aload_n 0, 1) := by decide +kernel
theorem dX11_tryBells_30 : decode cX11_tryBells 30 = .ok (.invokevirtual 171, 3) := by decide +kernel
theorem dX11_tryBells_33 : decode cX11_tryBells 33 = .ok (.istore 4, 2) := by decide +kernel
theorem dX11_tryBells_35 : decode cX11_tryBells 35 = .ok (.aload_n 0, 1) := by decide +kernel
theorem dX11_tryBells_36 : decode cX11_tryBells 36 = .ok (.getfield 174, 3) := by decide +kernel
theorem dX11_tryBells_39 : decode cX11_tryBells 39 = .ok (.ifCond .lt 12, 3) := by decide +kernel
theorem dX11_tryBells_42 : decode cX11_tryBells 42 = .ok (.iload 4, 2) := by decide +kernel
theorem dX11_tryBells_44 : decode cX11_tryBells 44 = .ok (.aload_n 0, 1) := by decide +kernel
theorem dX11_tryBells_45 : decode cX11_tryBells 45 = .ok (.getfield 174, 3) := by decide +kernel
theorem dX11_tryBells_48 : decode cX11_tryBells 48 = .ok (.if_icmp .ge 38, 3) := by decide +kernel
theorem dX11_tryBells_51 : decode cX11_tryBells 51 = .ok (.aload_n 0, 1) := by decide +kernel
theorem dX11_tryBells_52 : decode cX11_tryBells 52 = .ok (.iload 4, 2) := by decide +kernel
theorem dX11_tryBells_54 : decode cX11_tryBells 54 = .ok (.putfield 174, 3) := by decide +kernel
theorem dX11_tryBells_57 : decode cX11_tryBells 57 = .ok (.aload_n 0, 1) := by decide +kernel
theorem dX11_tryBells_58 : decode cX11_tryBells 58 = .ok (.iload_n 1, 1) := by decide +kernel
theorem dX11_tryBells_59 : decode cX11_tryBells 59 = .ok (.ifCond .le 7, 3) := by decide +kernel
theorem dX11_tryBells_62 : decode cX11_tryBells 62 = .ok (.iload_n 2, 1) := by decide +kernel
theorem dX11_tryBells_63 : decode cX11_tryBells 63 = .ok (.goto 5, 3) := by decide +kernel
theorem dX11_tryBells_66 : decode cX11_tryBells 66 = .ok (.bipush (-6), 2) := by decide +kernel
theorem dX11_tryBells_68 : decode cX11_tryBells 68 = .ok (.putfield 177, 3) := by decide +kernel
theorem dX11_tryBells_71 : decode cX11_tryBells 71 = .ok (.aload_n 0, 1) := by decide +kernel
theorem dX11_tryBells_72 : decode cX11_tryBells 72 = .ok (.iload_n 1, 1) := by decide +kernel
theorem dX11_tryBells_73 : decode cX11_tryBells 73 = .ok (.iconst 1, 1) := by decide +kernel
theorem dX11_tryBells_74 : decode cX11_tryBells 74 = .ok (.if_icmp .le 7, 3) := by decide +kernel
theorem dX11_tryBells_77 : decode cX11_tryBells 77 = .ok (.iload_n 3, 1) := by decide +kernel
theorem dX11_tryBells_78 : decode cX11_tryBells 78 = .ok (.goto 5, 3) := by decide +kernel
theorem dX11_tryBells_81 : decode cX11_tryBells 81 = .ok (.bipush (-6), 2) := by decide +kernel
theorem dX11_tryBells_83 : decode cX11_tryBells 83 = .ok (.putfield 180, 3) := by decide +kernel
theorem dX11_tryBells_86 : decode cX11_tryBells 86 = .ok (.return_, 1) := by decide +kernel
theorem dX11_bells_0 : decode cX11_bells 0 = .ok (.iload_n 1, 1) := by decide +kernel
theorem dX11_bells_1 : decode cX11_bells 1 = .ok (.i2l, 1) := by decide +kernel
theorem dX11_bells_2 : decode cX11_bells 2 = .ok (.lconst 0, 1) := by decide +kernel
theorem dX11_bells_3 : decode cX11_bells 3 = .ok (.ldc2_w 183, 3) := by decide +kernel
theorem dX11_bells_6 : decode cX11_bells 6 = .ok (.invokestatic 52, 3) := by decide +kernel
theorem dX11_bells_9 : decode cX11_bells 9 = .ok (.ifCond .eq 15, 3) := by decide +kernel
theorem dX11_bells_12 : decode cX11_bells 12 = .ok (.iload_n 2, 1) := by decide +kernel
theorem dX11_bells_13 : decode cX11_bells 13 = .ok (.i2l, 1) := by decide +kernel
theorem dX11_bells_14 : decode cX11_bells 14 = .ok (.lconst 0, 1) := by decide +kernel
theorem dX11_bells_15 : decode cX11_bells 15 = .ok (.ldc2_w 183, 3) := by decide +kernel
theorem dX11_bells_18 : decode cX11_bells 18 = .ok (.invokestatic 52, 3) := by decide +kernel
theorem dX11_bells_21 : decode cX11_bells 21 = .ok (.ifCond .ne 6, 3) := by decide +kernel
theorem dX11_bells_24 : decode cX11_bells 24 = .ok (.bipush (-2), 2) := by decide +kernel
theorem dX11_bells_26 : decode cX11_bells 26 = .ok (.ireturn, 1) := by decide +kernel
theorem dX11_bells_27 : decode cX11_bells 27 = .ok (.aload_n 0, 1) := by decide +kernel
theorem dX11_bells_28 : decode cX11_bells 28 = .ok (.invokevirtual 135, 3) := by decide +kernel
theorem dX11_bells_31 : decode cX11_bells 31 = .ok (.ifCond .lt 6, 3) := by decide +kernel
theorem dX11_bells_34 : decode cX11_bells 34 = .ok (.bipush (-5), 2) := by decide +kernel
theorem dX11_bells_36 : decode cX11_bells 36 = .ok (.ireturn, 1) := by decide +kernel
theorem dX11_bells_37 : decode cX11_bells 37 = .ok (.aload_n 0, 1) := by decide +kernel
theorem dX11_bells_38 : decode cX11_bells 38 = .ok (.bipush (-6), 2) := by decide +kernel
theorem dX11_bells_40 : decode cX11_bells 40 = .ok (.putfield 174, 3) := by decide +kernel
theorem dX11_bells_43 : decode cX11_bells 43 = .ok (.iload_n 1, 1) := by decide +kernel
theorem dX11_bells_44 : decode cX11_bells 44 = .ok (.ifCond .ne 10, 3) := by decide +kernel
theorem dX11_bells_47 : decode cX11_bells 47 = .ok (.aload_n 0, 1) := by decide +kernel
theorem dX11_bells_48 : decode cX11_bells 48 = .ok (.iconst 0, 1) := by decide +kernel
theorem dX11_bells_49 : decode cX11_bells 49 = .ok (.iconst 0, 1) := by decide +kernel
theorem dX11_bells_50 : decode cX11_bells 50 = .ok (.iconst 0, 1) := by decide +kernel
theorem dX11_bells_51 : decode cX11_bells 51 = .ok (.invokevirtual 185, 3) := by decide +kernel
theorem dX11_bells_54 : decode cX11_bells 54 = .ok (.iconst 0, 1) := by decide +kernel
theorem dX11_bells_55 : decode cX11_bells 55 = .ok (.istore_n 3, 1) := by decide +kernel
theorem dX11_bells_56 : decode cX11_bells 56 = .ok (.iload_n 3, 1) := by decide +kernel
theorem dX11_bells_57 : decode cX11_bells 57 = .ok (.bipush 64, 2) := by decide +kernel
theorem dX11_bells_59 : decode cX11_bells 59 = .ok (.if_icmp .ge 56, 3) := by decide +kernel
theorem dX11_bells_62 : decode cX11_bells 62 = .ok (.iload_n 1, 1) := by decide +kernel
theorem dX11_bells_63 : decode cX11_bells 63 = .ok (.ifCond .le 52, 3) := by decide +kernel
theorem dX11_bells_66 : decode cX11_bells 66 = .ok (.iload_n 1, 1) := by decide +kernel
theorem dX11_bells_67 : decode cX11_bells 67 = .ok (.iconst 1, 1) := by decide +kernel
theorem dX11_bells_68 : decode cX11_bells 68 = .ok (.if_icmp .ne 10, 3) := by decide +kernel
theorem dX11_bells_71 : decode cX11_bells 71 = .ok (.aload_n 0, 1) := by decide +kernel
theorem dX11_bells_72 : decode cX11_bells 72 = .ok (.iconst 1, 1) := by decide +kernel
theorem dX11_bells_73 : decode cX11_bells 73 = .ok (.iload_n 3, 1) := by decide +kernel
theorem dX11_bells_74 : decode cX11_bells 74 = .ok (.iconst 0, 1) := by decide +kernel
theorem dX11_bells_75 : decode cX11_bells 75 = .ok (.invokevirtual 185, 3) := by decide +kernel
theorem dX11_bells_78 : decode cX11_bells 78 = .ok (.iload_n 3, 1) := by decide +kernel
theorem dX11_bells_79 : decode cX11_bells 79 = .ok (.iconst 1, 1) := by decide +kernel
theorem dX11_bells_80 : decode cX11_bells 80 = .ok (.iadd, 1) := by decide +kernel
theorem dX11_bells_81 : decode cX11_bells 81 = .ok (.istore 4, 2) := by decide +kernel
theorem dX11_bells_83 : decode cX11_bells 83 = .ok (.iload 4, 2) := by decide +kernel
theorem dX11_bells_85 : decode cX11_bells 85 = .ok (.bipush 64, 2) := by decide +kernel
theorem dX11_bells_87 : decode cX11_bells 87 = .ok (.if_icmp .ge 22, 3) := by decide +kernel
theorem dX11_bells_90 : decode cX11_bells 90 = .ok (.iload_n 1, 1) := by decide +kernel
theorem dX11_bells_91 : decode cX11_bells 91 = .ok (.iconst 2, 1) := by decide +kernel
theorem dX11_bells_92 : decode cX11_bells 92 = .ok (.if_icmp .ne 17, 3) := by decide +kernel
theorem dX11_bells_95 : decode cX11_bells 95 = .ok (.aload_n 0, 1) := by decide +kernel
theorem dX11_bells_96 : decode cX11_bells 96 = .ok (.iconst 2, 1) := by decide +kernel
theorem dX11_bells_97 : decode cX11_bells 97 = .ok (.iload_n 3, 1) := by decide +kernel
theorem dX11_bells_98 : decode cX11_bells 98 = .ok (.iload 4, 2) := by decide +kernel
theorem dX11_bells_100 : decode cX11_bells 100 = .ok (.invokevirtual 185, 3) := by decide +kernel
theorem dX11_bells_103 : decode cX11_bells 103 = .ok (.iinc 4 1, 3) := by decide +kernel
theorem dX11_bells_106 : decode cX11_bells 106 = .ok (.goto (-23), 3) := by decide +kernel
theorem dX11_bells_109 : decode cX11_bells 109 = .ok (.iinc 3 1, 3) := by decide +kernel
theorem dX11_bells_112 : decode cX11_bells 112 = .ok (.goto (-56), 3) := by decide +kernel
theorem dX11_bells_115 : decode cX11_bells 115 = .ok (.iload_n 2, 1) := by decide +kernel
theorem dX11_bells_116 : decode cX11_bells 116 = .ok (.ifCond .ne 10, 3) := by decide +kernel
theorem dX11_bells_119 : decode cX11_bells 119 = .ok (.aload_n 0, 1) := by decide +kernel
theorem dX11_bells_120 : decode cX11_bells 120 = .ok (.getfield 174, 3) := by decide +kernel
theorem dX11_bells_123 : decode cX11_bells 123 = .ok (.goto 19, 3) := by decide +kernel
theorem dX11_bells_126 : decode cX11_bells 126 = .ok (.iload_n 2, 1) := by decide +kernel
theorem dX11_bells_127 : decode cX11_bells 127 = .ok (.iconst 1, 1) := by decide +kernel
theorem dX11_bells_128 : decode cX11_bells 128 = .ok (.if_icmp .ne 10, 3) := by decide +kernel
theorem dX11_bells_131 : decode cX11_bells 131 = .ok (.aload_n 0, 1) := by decide +kernel
theorem dX11_bells_132 : decode cX11_bells 132 = .ok (.getfield 177, 3) := by decide +kernel
theorem dX11_bells_135 : decode cX11_bells 135 = .ok (.goto 7, 3) := by decide +kernel
theorem dX11_bells_138 : decode cX11_bells 138 = .ok (.aload_n 0, 1) := by decide +kernel
theorem dX11_bells_139 : decode cX11_bells 139 = .ok (.getfield 180, 3) := by decide +kernel
theorem dX11_bells_142 : decode cX11_bells 142 = .ok (.ireturn, 1) := by decide +kernel
theorem dX11_heardBy_0 : decode cX11_heardBy 0 = .ok (.iconst 0, 1) := by decide +kernel
theorem dX11_heardBy_1 : decode cX11_heardBy 1 = .ok (.istore_n 2, 1) := by decide +kernel
theorem dX11_heardBy_2 : decode cX11_heardBy 2 = .ok (.iload_n 2, 1) := by decide +kernel
theorem dX11_heardBy_3 : decode cX11_heardBy 3 = .ok (.iconst 4, 1) := by decide +kernel
theorem dX11_heardBy_4 : decode cX11_heardBy 4 = .ok (.if_icmp .ge 30, 3) := by decide +kernel
theorem dX11_heardBy_7 : decode cX11_heardBy 7 = .ok (.aload_n 0, 1) := by decide +kernel
theorem dX11_heardBy_8 : decode cX11_heardBy 8 = .ok (.iload_n 2, 1) := by decide +kernel
theorem dX11_heardBy_9 : decode cX11_heardBy 9 = .ok (.iconst 0, 1) := by decide +kernel
theorem dX11_heardBy_10 : decode cX11_heardBy 10 = .ok (.invokevirtual 76, 3) := by decide +kernel
theorem dX11_heardBy_13 : decode cX11_heardBy 13 = .ok (.iload_n 1, 1) := by decide +kernel
theorem dX11_heardBy_14 : decode cX11_heardBy 14 = .ok (.invokestatic 114, 3) := by decide +kernel
theorem dX11_heardBy_17 : decode cX11_heardBy 17 = .ok (.aload_n 0, 1) := by decide +kernel
theorem dX11_heardBy_18 : decode cX11_heardBy 18 = .ok (.iload_n 2, 1) := by decide +kernel
theorem dX11_heardBy_19 : decode cX11_heardBy 19 = .ok (.iconst 5, 1) := by decide +kernel
theorem dX11_heardBy_20 : decode cX11_heardBy 20 = .ok (.invokevirtual 76, 3) := by decide +kernel
theorem dX11_heardBy_23 : decode cX11_heardBy 23 = .ok (.if_icmp .gt 5, 3) := by decide +kernel
theorem dX11_heardBy_26 : decode cX11_heardBy 26 = .ok (.iload_n 2, 1) := by decide +kernel
theorem dX11_heardBy_27 : decode cX11_heardBy 27 = .ok (.ireturn, 1) := by decide +kernel
theorem dX11_heardBy_28 : decode cX11_heardBy 28 = .ok (.iinc 2 1, 3) := by decide +kernel
theorem dX11_heardBy_31 : decode cX11_heardBy 31 = .ok (.goto (-29), 3) := by decide +kernel
theorem dX11_heardBy_34 : decode cX11_heardBy 34 = .ok (.bipush (-6), 2) := by decide +kernel
theorem dX11_heardBy_36 : decode cX11_heardBy 36 = .ok (.ireturn, 1) := by decide +kernel
theorem dX11_steal_0 : decode cX11_steal 0 = .ok (.aload_n 0, 1) := by decide +kernel
theorem dX11_steal_1 : decode cX11_steal 1 = .ok (.bipush (-6), 2) := by decide +kernel
theorem dX11_steal_3 : decode cX11_steal 3 = .ok (.putfield 189, 3) := by decide +kernel
theorem dX11_steal_6 : decode cX11_steal 6 = .ok (.aload_n 0, 1) := by decide +kernel
theorem dX11_steal_7 : decode cX11_steal 7 = .ok (.bipush (-6), 2) := by decide +kernel
theorem dX11_steal_9 : decode cX11_steal 9 = .ok (.putfield 192, 3) := by decide +kernel
theorem dX11_steal_12 : decode cX11_steal 12 = .ok (.aload_n 0, 1) := by decide +kernel
theorem dX11_steal_13 : decode cX11_steal 13 = .ok (.iconst 0, 1) := by decide +kernel
theorem dX11_steal_14 : decode cX11_steal 14 = .ok (.putfield 195, 3) := by decide +kernel
theorem dX11_steal_17 : decode cX11_steal 17 = .ok (.iload_n 1, 1) := by decide +kernel
theorem dX11_steal_18 : decode cX11_steal 18 = .ok (.istore_n 3, 1) := by decide +kernel
theorem dX11_steal_19 : decode cX11_steal 19 = .ok (.iconst 0, 1) := by decide +kernel
theorem dX11_steal_20 : decode cX11_steal 20 = .ok (.istore 4, 2) := by decide +kernel
theorem dX11_steal_22 : decode cX11_steal 22 = .ok (.iload_n 3, 1) := by decide +kernel
theorem dX11_steal_23 : decode cX11_steal 23 = .ok (.ifCond .lt 63, 3) := by decide +kernel
theorem dX11_steal_26 : decode cX11_steal 26 = .ok (.aload_n 0, 1) := by decide +kernel
theorem dX11_steal_27 : decode cX11_steal 27 = .ok (.getfield 189, 3) := by decide +kernel
theorem dX11_steal_30 : decode cX11_steal 30 = .ok (.ifCond .ge 56, 3) := by decide +kernel
theorem dX11_steal_33 : decode cX11_steal 33 = .ok (.aload_n 0, 1) := by decide +kernel
theorem dX11_steal_34 : decode cX11_steal 34 = .ok (.iload_n 3, 1) := by decide +kernel
theorem dX11_steal_35 : decode cX11_steal 35 = .ok (.invokevirtual 198, 3) := by decide +kernel
theorem dX11_steal_38 : decode cX11_steal 38 = .ok (.istore 5, 2) := by decide +kernel
theorem dX11_steal_40 : decode cX11_steal 40 = .ok (.iload 5, 2) := by decide +kernel
theorem dX11_steal_42 : decode cX11_steal 42 = .ok (.ifCond .lt 18, 3) := by decide +kernel
theorem dX11_steal_45 : decode cX11_steal 45 = .ok (.aload_n 0, 1) := by decide +kernel
theorem dX11_steal_46 : decode cX11_steal 46 = .ok (.iload 4, 2) := by decide +kernel
theorem dX11_steal_48 : decode cX11_steal 48 = .ok (.putfield 189, 3) := by decide +kernel
theorem dX11_steal_51 : decode cX11_steal 51 = .ok (.aload_n 0, 1) := by decide +kernel
theorem dX11_steal_52 : decode cX11_steal 52 = .ok (.iload 5, 2) := by decide +kernel
theorem dX11_steal_54 : decode cX11_steal 54 = .ok (.putfield 192, 3) := by decide +kernel
theorem dX11_steal_57 : decode cX11_steal 57 = .ok (.goto 26, 3) := by decide +kernel
theorem dX11_steal_60 : decode cX11_steal 60 = .ok (.aload_n 0, 1) := by decide +kernel
theorem dX11_steal_61 : decode cX11_steal 61 = .ok (.dup, 1) := by decide +kernel
theorem dX11_steal_62 : decode cX11_steal 62 = .ok (.getfield 195, 3) := by decide +kernel
theorem dX11_steal_65 : decode cX11_steal 65 = .ok (.aload_n 0, 1) := by decide +kernel
theorem dX11_steal_66 : decode cX11_steal 66 = .ok (.iload_n 3, 1) := by decide +kernel
theorem dX11_steal_67 : decode cX11_steal 67 = .ok (.invokevirtual 151, 3) := by decide +kernel
theorem dX11_steal_70 : decode cX11_steal 70 = .ok (.iadd, 1) := by decide +kernel
theorem dX11_steal_71 : decode cX11_steal 71 = .ok (.putfield 195, 3) := by decide +kernel
theorem dX11_steal_74 : decode cX11_steal 74 = .ok (.iload_n 3, 1) := by decide +kernel
theorem dX11_steal_75 : decode cX11_steal 75 = .ok (.iload_n 2, 1) := by decide +kernel
theorem dX11_steal_76 : decode cX11_steal 76 = .ok (.invokestatic 124, 3) := by decide +kernel
theorem dX11_steal_79 : decode cX11_steal 79 = .ok (.istore_n 3, 1) := by decide +kernel
theorem dX11_steal_80 : decode cX11_steal 80 = .ok (.iinc 4 1, 3) := by decide +kernel
theorem dX11_steal_83 : decode cX11_steal 83 = .ok (.goto (-61), 3) := by decide +kernel
theorem dX11_steal_86 : decode cX11_steal 86 = .ok (.return_, 1) := by decide +kernel
theorem dX11_thief_0 : decode cX11_thief 0 = .ok (.iload_n 1, 1) := by decide +kernel
theorem dX11_thief_1 : decode cX11_thief 1 = .ok (.invokestatic 80, 3) := by decide +kernel
theorem dX11_thief_4 : decode cX11_thief 4 = .ok (.ifCond .eq 27, 3) := by decide +kernel
theorem dX11_thief_7 : decode cX11_thief 7 = .ok (.iload_n 2, 1) := by decide +kernel
theorem dX11_thief_8 : decode cX11_thief 8 = .ok (.i2l, 1) := by decide +kernel
theorem dX11_thief_9 : decode cX11_thief 9 = .ok (.lconst 0, 1) := by decide +kernel
theorem dX11_thief_10 : decode cX11_thief 10 = .ok (.ldc2_w 60, 3) := by decide +kernel
theorem dX11_thief_13 : decode cX11_thief 13 = .ok (.invokestatic 52, 3) := by decide +kernel
theorem dX11_thief_16 : decode cX11_thief 16 = .ok (.ifCond .eq 15, 3) := by decide +kernel
theorem dX11_thief_19 : decode cX11_thief 19 = .ok (.iload_n 3, 1) := by decide +kernel
theorem dX11_thief_20 : decode cX11_thief 20 = .ok (.i2l, 1) := by decide +kernel
theorem dX11_thief_21 : decode cX11_thief 21 = .ok (.lconst 0, 1) := by decide +kernel
theorem dX11_thief_22 : decode cX11_thief 22 = .ok (.ldc2_w 183, 3) := by decide +kernel
theorem dX11_thief_25 : decode cX11_thief 25 = .ok (.invokestatic 52, 3) := by decide +kernel
theorem dX11_thief_28 : decode cX11_thief 28 = .ok (.ifCond .ne 6, 3) := by decide +kernel
theorem dX11_thief_31 : decode cX11_thief 31 = .ok (.bipush (-2), 2) := by decide +kernel
theorem dX11_thief_33 : decode cX11_thief 33 = .ok (.ireturn, 1) := by decide +kernel
theorem dX11_thief_34 : decode cX11_thief 34 = .ok (.aload_n 0, 1) := by decide +kernel
theorem dX11_thief_35 : decode cX11_thief 35 = .ok (.iload_n 1, 1) := by decide +kernel
theorem dX11_thief_36 : decode cX11_thief 36 = .ok (.iload_n 2, 1) := by decide +kernel
theorem dX11_thief_37 : decode cX11_thief 37 = .ok (.invokevirtual 201, 3) := by decide +kernel
theorem dX11_thief_40 : decode cX11_thief 40 = .ok (.iload_n 3, 1) := by decide +kernel
theorem dX11_thief_41 : decode cX11_thief 41 = .ok (.ifCond .ne 10, 3) := by decide +kernel
theorem dX11_thief_44 : decode cX11_thief 44 = .ok (.aload_n 0, 1) := by decide +kernel
theorem dX11_thief_45 : decode cX11_thief 45 = .ok (.getfield 189, 3) := by decide +kernel
theorem dX11_thief_48 : decode cX11_thief 48 = .ok (.goto 19, 3) := by decide +kernel
theorem dX11_thief_51 : decode cX11_thief 51 = .ok (.iload_n 3, 1) := by decide +kernel
theorem dX11_thief_52 : decode cX11_thief 52 = .ok (.iconst 1, 1) := by decide +kernel
theorem dX11_thief_53 : decode cX11_thief 53 = .ok (.if_icmp .ne 10, 3) := by decide +kernel
theorem dX11_thief_56 : decode cX11_thief 56 = .ok (.aload_n 0, 1) := by decide +kernel
theorem dX11_thief_57 : decode cX11_thief 57 = .ok (.getfield 192, 3) := by decide +kernel
theorem dX11_thief_60 : decode cX11_thief 60 = .ok (.goto 7, 3) := by decide +kernel
theorem dX11_thief_63 : decode cX11_thief 63 = .ok (.aload_n 0, 1) := by decide +kernel
theorem dX11_thief_64 : decode cX11_thief 64 = .ok (.getfield 195, 3) := by decide +kernel
theorem dX11_thief_67 : decode cX11_thief 67 = .ok (.ireturn, 1) := by decide +kernel
theorem dX11_isEdge_0 : decode cX11_isEdge 0 = .ok (.iload_n 0, 1) := by decide +kernel
theorem dX11_isEdge_1 : decode cX11_isEdge 1 = .ok (.bipush 8, 2) := by decide +kernel
theorem dX11_isEdge_3 : decode cX11_isEdge 3 = .ok (.irem, 1) := by decide +kernel
theorem dX11_isEdge_4 : decode cX11_isEdge 4 = .ok (.istore_n 1, 1) := by decide +kernel
theorem dX11_isEdge_5 : decode cX11_isEdge 5 = .ok (.iload_n 0, 1) := by decide +kernel
theorem dX11_isEdge_6 : decode cX11_isEdge 6 = .ok (.bipush 8, 2) := by decide +kernel
theorem dX11_isEdge_8 : decode cX11_isEdge 8 = .ok (.idiv, 1) := by decide +kernel
theorem dX11_isEdge_9 : decode cX11_isEdge 9 = .ok (.istore_n 2, 1) := by decide +kernel
theorem dX11_isEdge_10 : decode cX11_isEdge 10 = .ok (.iload_n 1, 1) := by decide +kernel
theorem dX11_isEdge_11 : decode cX11_isEdge 11 = .ok (.ifCond .eq 19, 3) := by decide +kernel
theorem dX11_isEdge_14 : decode cX11_isEdge 14 = .ok (.iload_n 2, 1) := by decide +kernel
theorem dX11_isEdge_15 : decode cX11_isEdge 15 = .ok (.ifCond .eq 15, 3) := by decide +kernel
theorem dX11_isEdge_18 : decode cX11_isEdge 18 = .ok (.iload_n 1, 1) := by decide +kernel
theorem dX11_isEdge_19 : decode cX11_isEdge 19 = .ok (.bipush 7, 2) := by decide +kernel
theorem dX11_isEdge_21 : decode cX11_isEdge 21 = .ok (.if_icmp .eq 9, 3) := by decide +kernel
theorem dX11_isEdge_24 : decode cX11_isEdge 24 = .ok (.iload_n 2, 1) := by decide +kernel
theorem dX11_isEdge_25 : decode cX11_isEdge 25 = .ok (.bipush 7, 2) := by decide +kernel
theorem dX11_isEdge_27 : decode cX11_isEdge 27 = .ok (.if_icmp .ne 7, 3) := by decide +kernel
theorem dX11_isEdge_30 : decode cX11_isEdge 30 = .ok (.iconst 1, 1) := by decide +kernel
theorem dX11_isEdge_31 : decode cX11_isEdge 31 = .ok (.goto 4, 3) := by decide +kernel
theorem dX11_isEdge_34 : decode cX11_isEdge 34 = .ok (.iconst 0, 1) := by decide +kernel
theorem dX11_isEdge_35 : decode cX11_isEdge 35 = .ok (.ireturn, 1) := by decide +kernel
theorem dX11_safest_0 : decode cX11_safest 0 = .ok (.iload_n 1, 1) := by decide +kernel
theorem dX11_safest_1 : decode cX11_safest 1 = .ok (.i2l, 1) := by decide +kernel
theorem dX11_safest_2 : decode cX11_safest 2 = .ok (.lconst 0, 1) := by decide +kernel
theorem dX11_safest_3 : decode cX11_safest 3 = .ok (.ldc2_w 183, 3) := by decide +kernel
theorem dX11_safest_6 : decode cX11_safest 6 = .ok (.invokestatic 52, 3) := by decide +kernel
theorem dX11_safest_9 : decode cX11_safest 9 = .ok (.ifCond .ne 6, 3) := by decide +kernel
theorem dX11_safest_12 : decode cX11_safest 12 = .ok (.bipush (-2), 2) := by decide +kernel
theorem dX11_safest_14 : decode cX11_safest 14 = .ok (.ireturn, 1) := by decide +kernel
theorem dX11_safest_15 : decode cX11_safest 15 = .ok (.bipush (-6), 2) := by decide +kernel
theorem dX11_safest_17 : decode cX11_safest 17 = .ok (.istore_n 2, 1) := by decide +kernel
theorem dX11_safest_18 : decode cX11_safest 18 = .ok (.iconst 0, 1) := by decide +kernel
theorem dX11_safest_19 : decode cX11_safest 19 = .ok (.istore_n 3, 1) := by decide +kernel
theorem dX11_safest_20 : decode cX11_safest 20 = .ok (.iconst 0, 1) := by decide +kernel
theorem dX11_safest_21 : decode cX11_safest 21 = .ok (.istore 4, 2) := by decide +kernel
theorem dX11_safest_23 : decode cX11_safest 23 = .ok (.iload 4, 2) := by decide +kernel
theorem dX11_safest_25 : decode cX11_safest 25 = .ok (.sipush 512, 3) := by decide +kernel
theorem dX11_safest_28 : decode cX11_safest 28 = .ok (.if_icmp .ge 50, 3) := by decide +kernel
theorem dX11_safest_31 : decode cX11_safest 31 = .ok (.iload 4, 2) := by decide +kernel
theorem dX11_safest_33 : decode cX11_safest 33 = .ok (.bipush 8, 2) := by decide +kernel
theorem dX11_safest_35 : decode cX11_safest 35 = .ok (.idiv, 1) := by decide +kernel
theorem dX11_safest_36 : decode cX11_safest 36 = .ok (.invokestatic 204, 3) := by decide +kernel
theorem dX11_safest_39 : decode cX11_safest 39 = .ok (.ifCond .eq 33, 3) := by decide +kernel
theorem dX11_safest_42 : decode cX11_safest 42 = .ok (.aload_n 0, 1) := by decide +kernel
theorem dX11_safest_43 : decode cX11_safest 43 = .ok (.iload 4, 2) := by decide +kernel
theorem dX11_safest_45 : decode cX11_safest 45 = .ok (.bipush 8, 2) := by decide +kernel
theorem dX11_safest_47 : decode cX11_safest 47 = .ok (.idiv, 1) := by decide +kernel
theorem dX11_safest_48 : decode cX11_safest 48 = .ok (.iload 4, 2) := by decide +kernel
theorem dX11_safest_50 : decode cX11_safest 50 = .ok (.bipush 8, 2) := by decide +kernel
theorem dX11_safest_52 : decode cX11_safest 52 = .ok (.irem, 1) := by decide +kernel
theorem dX11_safest_53 : decode cX11_safest 53 = .ok (.invokevirtual 201, 3) := by decide +kernel
theorem dX11_safest_56 : decode cX11_safest 56 = .ok (.aload_n 0, 1) := by decide +kernel
theorem dX11_safest_57 : decode cX11_safest 57 = .ok (.getfield 195, 3) := by decide +kernel
theorem dX11_safest_60 : decode cX11_safest 60 = .ok (.iload_n 2, 1) := by decide +kernel
theorem dX11_safest_61 : decode cX11_safest 61 = .ok (.if_icmp .le 11, 3) := by decide +kernel
theorem dX11_safest_64 : decode cX11_safest 64 = .ok (.aload_n 0, 1) := by decide +kernel
theorem dX11_safest_65 : decode cX11_safest 65 = .ok (.getfield 195, 3) := by decide +kernel
theorem dX11_safest_68 : decode cX11_safest 68 = .ok (.istore_n 2, 1) := by decide +kernel
theorem dX11_safest_69 : decode cX11_safest 69 = .ok (.iload 4, 2) := by decide +kernel
theorem dX11_safest_71 : decode cX11_safest 71 = .ok (.istore_n 3, 1) := by decide +kernel
theorem dX11_safest_72 : decode cX11_safest 72 = .ok (.iinc 4 1, 3) := by decide +kernel
theorem dX11_safest_75 : decode cX11_safest 75 = .ok (.goto (-52), 3) := by decide +kernel
theorem dX11_safest_78 : decode cX11_safest 78 = .ok (.iload_n 1, 1) := by decide +kernel
theorem dX11_safest_79 : decode cX11_safest 79 = .ok (.ifCond .ne 7, 3) := by decide +kernel
theorem dX11_safest_82 : decode cX11_safest 82 = .ok (.iload_n 2, 1) := by decide +kernel
theorem dX11_safest_83 : decode cX11_safest 83 = .ok (.goto 19, 3) := by decide +kernel
theorem dX11_safest_86 : decode cX11_safest 86 = .ok (.iload_n 1, 1) := by decide +kernel
theorem dX11_safest_87 : decode cX11_safest 87 = .ok (.iconst 1, 1) := by decide +kernel
theorem dX11_safest_88 : decode cX11_safest 88 = .ok (.if_icmp .ne 10, 3) := by decide +kernel
theorem dX11_safest_91 : decode cX11_safest 91 = .ok (.iload_n 3, 1) := by decide +kernel
theorem dX11_safest_92 : decode cX11_safest 92 = .ok (.bipush 8, 2) := by decide +kernel
theorem dX11_safest_94 : decode cX11_safest 94 = .ok (.idiv, 1) := by decide +kernel
theorem dX11_safest_95 : decode cX11_safest 95 = .ok (.goto 7, 3) := by decide +kernel
theorem dX11_safest_98 : decode cX11_safest 98 = .ok (.iload_n 3, 1) := by decide +kernel
theorem dX11_safest_99 : decode cX11_safest 99 = .ok (.bipush 8, 2) := by decide +kernel
theorem dX11_safest_101 : decode cX11_safest 101 = .ok (.irem, 1) := by decide +kernel
theorem dX11_safest_102 : decode cX11_safest 102 = .ok (.ireturn, 1) := by decide +kernel
theorem dX11_areTwo_0 : decode cX11_areTwo 0 = .ok (.iload_n 0, 1) := by decide +kernel
theorem dX11_areTwo_1 : decode cX11_areTwo 1 = .ok (.invokestatic 72, 3) := by decide +kernel
theorem dX11_areTwo_4 : decode cX11_areTwo 4 = .ok (.ifCond .eq 19, 3) := by decide +kernel
theorem dX11_areTwo_7 : decode cX11_areTwo 7 = .ok (.iload_n 1, 1) := by decide +kernel
theorem dX11_areTwo_8 : decode cX11_areTwo 8 = .ok (.invokestatic 72, 3) := by decide +kernel
theorem dX11_areTwo_11 : decode cX11_areTwo 11 = .ok (.ifCond .eq 12, 3) := by decide +kernel
theorem dX11_areTwo_14 : decode cX11_areTwo 14 = .ok (.iload_n 0, 1) := by decide +kernel
theorem dX11_areTwo_15 : decode cX11_areTwo 15 = .ok (.iload_n 1, 1) := by decide +kernel
theorem dX11_areTwo_16 : decode cX11_areTwo 16 = .ok (.if_icmp .eq 7, 3) := by decide +kernel
theorem dX11_areTwo_19 : decode cX11_areTwo 19 = .ok (.iconst 1, 1) := by decide +kernel
theorem dX11_areTwo_20 : decode cX11_areTwo 20 = .ok (.goto 4, 3) := by decide +kernel
theorem dX11_areTwo_23 : decode cX11_areTwo 23 = .ok (.iconst 0, 1) := by decide +kernel
theorem dX11_areTwo_24 : decode cX11_areTwo 24 = .ok (.ireturn, 1) := by decide +kernel
theorem dX11_swapBags_0 : decode cX11_swapBags 0 = .ok (.iconst 2, 1) := by decide +kernel
theorem dX11_swapBags_1 : decode cX11_swapBags 1 = .ok (.istore_n 3, 1) := by decide +kernel
theorem dX11_swapBags_2 : decode cX11_swapBags 2 = .ok (.iload_n 3, 1) := by decide +kernel
theorem dX11_swapBags_3 : decode cX11_swapBags 3 = .ok (.iconst 3, 1) := by decide +kernel
theorem dX11_swapBags_4 : decode cX11_swapBags 4 = .ok (.if_icmp .gt 45, 3) := by decide +kernel
theorem dX11_swapBags_7 : decode cX11_swapBags 7 = .ok (.aload_n 0, 1) := by decide +kernel
theorem dX11_swapBags_8 : decode cX11_swapBags 8 = .ok (.bipush 8, 2) := by decide +kernel
theorem dX11_swapBags_10 : decode cX11_swapBags 10 = .ok (.iload_n 1, 1) := by decide +kernel
theorem dX11_swapBags_11 : decode cX11_swapBags 11 = .ok (.imul, 1) := by decide +kernel
theorem dX11_swapBags_12 : decode cX11_swapBags 12 = .ok (.iload_n 3, 1) := by decide +kernel
theorem dX11_swapBags_13 : decode cX11_swapBags 13 = .ok (.iadd, 1) := by decide +kernel
theorem dX11_swapBags_14 : decode cX11_swapBags 14 = .ok (.iaload, 1) := by decide +kernel
theorem dX11_swapBags_15 : decode cX11_swapBags 15 = .ok (.istore 4, 2) := by decide +kernel
theorem dX11_swapBags_17 : decode cX11_swapBags 17 = .ok (.aload_n 0, 1) := by decide +kernel
theorem dX11_swapBags_18 : decode cX11_swapBags 18 = .ok (.bipush 8, 2) := by decide +kernel
theorem dX11_swapBags_20 : decode cX11_swapBags 20 = .ok (.iload_n 1, 1) := by decide +kernel
theorem dX11_swapBags_21 : decode cX11_swapBags 21 = .ok (.imul, 1) := by decide +kernel
theorem dX11_swapBags_22 : decode cX11_swapBags 22 = .ok (.iload_n 3, 1) := by decide +kernel
theorem dX11_swapBags_23 : decode cX11_swapBags 23 = .ok (.iadd, 1) := by decide +kernel
theorem dX11_swapBags_24 : decode cX11_swapBags 24 = .ok (.aload_n 0, 1) := by decide +kernel
theorem dX11_swapBags_25 : decode cX11_swapBags 25 = .ok (.bipush 8, 2) := by decide +kernel
theorem dX11_swapBags_27 : decode cX11_swapBags 27 = .ok (.iload_n 2, 1) := by decide +kernel
theorem dX11_swapBags_28 : decode cX11_swapBags 28 = .ok (.imul, 1) := by decide +kernel
theorem dX11_swapBags_29 : decode cX11_swapBags 29 = .ok (.iload_n 3, 1) := by decide +kernel
theorem dX11_swapBags_30 : decode cX11_swapBags 30 = .ok (.iadd, 1) := by decide +kernel
theorem dX11_swapBags_31 : decode cX11_swapBags 31 = .ok (.iaload, 1) := by decide +kernel
theorem dX11_swapBags_32 : decode cX11_swapBags 32 = .ok (.iastore, 1) := by decide +kernel
theorem dX11_swapBags_33 : decode cX11_swapBags 33 = .ok (.aload_n 0, 1) := by decide +kernel
theorem dX11_swapBags_34 : decode cX11_swapBags 34 = .ok (.bipush 8, 2) := by decide +kernel
theorem dX11_swapBags_36 : decode cX11_swapBags 36 = .ok (.iload_n 2, 1) := by decide +kernel
theorem dX11_swapBags_37 : decode cX11_swapBags 37 = .ok (.imul, 1) := by decide +kernel
theorem dX11_swapBags_38 : decode cX11_swapBags 38 = .ok (.iload_n 3, 1) := by decide +kernel
theorem dX11_swapBags_39 : decode cX11_swapBags 39 = .ok (.iadd, 1) := by decide +kernel
theorem dX11_swapBags_40 : decode cX11_swapBags 40 = .ok (.iload 4, 2) := by decide +kernel
theorem dX11_swapBags_42 : decode cX11_swapBags 42 = .ok (.iastore, 1) := by decide +kernel
theorem dX11_swapBags_43 : decode cX11_swapBags 43 = .ok (.iinc 3 1, 3) := by decide +kernel
theorem dX11_swapBags_46 : decode cX11_swapBags 46 = .ok (.goto (-44), 3) := by decide +kernel
theorem dX11_swapBags_49 : decode cX11_swapBags 49 = .ok (.return_, 1) := by decide +kernel
theorem dX11_swap_0 : decode cX11_swap 0 = .ok (.iload_n 1, 1) := by decide +kernel
theorem dX11_swap_1 : decode cX11_swap 1 = .ok (.iload_n 2, 1) := by decide +kernel
theorem dX11_swap_2 : decode cX11_swap 2 = .ok (.invokestatic 207, 3) := by decide +kernel
theorem dX11_swap_5 : decode cX11_swap 5 = .ok (.ifCond .ne 5, 3) := by decide +kernel
theorem dX11_swap_8 : decode cX11_swap 8 = .ok (.iconst (-1), 1) := by decide +kernel
theorem dX11_swap_9 : decode cX11_swap 9 = .ok (.ireturn, 1) := by decide +kernel
theorem dX11_swap_10 : decode cX11_swap 10 = .ok (.aload_n 0, 1) := by decide +kernel
theorem dX11_swap_11 : decode cX11_swap 11 = .ok (.getfield 7, 3) := by decide +kernel
theorem dX11_swap_14 : decode cX11_swap 14 = .ok (.iload_n 1, 1) := by decide +kernel
theorem dX11_swap_15 : decode cX11_swap 15 = .ok (.iload_n 2, 1) := by decide +kernel
theorem dX11_swap_16 : decode cX11_swap 16 = .ok (.invokestatic 211, 3) := by decide +kernel
theorem dX11_swap_19 : decode cX11_swap 19 = .ok (.iconst 1, 1) := by decide +kernel
theorem dX11_swap_20 : decode cX11_swap 20 = .ok (.ireturn, 1) := by decide +kernel
theorem dX11_found_0 : decode cX11_found 0 = .ok (.iload_n 1, 1) := by decide +kernel
theorem dX11_found_1 : decode cX11_found 1 = .ok (.iload_n 2, 1) := by decide +kernel
theorem dX11_found_2 : decode cX11_found 2 = .ok (.invokestatic 207, 3) := by decide +kernel
theorem dX11_found_5 : decode cX11_found 5 = .ok (.ifCond .ne 5, 3) := by decide +kernel
theorem dX11_found_8 : decode cX11_found 8 = .ok (.iconst (-1), 1) := by decide +kernel
theorem dX11_found_9 : decode cX11_found 9 = .ok (.ireturn, 1) := by decide +kernel
theorem dX11_found_10 : decode cX11_found 10 = .ok (.aload_n 0, 1) := by decide +kernel
theorem dX11_found_11 : decode cX11_found 11 = .ok (.invokevirtual 135, 3) := by decide +kernel
theorem dX11_found_14 : decode cX11_found 14 = .ok (.ifCond .lt 6, 3) := by decide +kernel
theorem dX11_found_17 : decode cX11_found 17 = .ok (.bipush (-5), 2) := by decide +kernel
theorem dX11_found_19 : decode cX11_found 19 = .ok (.ireturn, 1) := by decide +kernel
theorem dX11_found_20 : decode cX11_found 20 = .ok (.aload_n 0, 1) := by decide +kernel
theorem dX11_found_21 : decode cX11_found 21 = .ok (.invokevirtual 142, 3) := by decide +kernel
theorem dX11_found_24 : decode cX11_found 24 = .ok (.istore_n 3, 1) := by decide +kernel
theorem dX11_found_25 : decode cX11_found 25 = .ok (.iconst 0, 1) := by decide +kernel
theorem dX11_found_26 : decode cX11_found 26 = .ok (.istore 4, 2) := by decide +kernel
theorem dX11_found_28 : decode cX11_found 28 = .ok (.iload 4, 2) := by decide +kernel
theorem dX11_found_30 : decode cX11_found 30 = .ok (.iload_n 3, 1) := by decide +kernel
theorem dX11_found_31 : decode cX11_found 31 = .ok (.if_icmp .ge 110, 3) := by decide +kernel
theorem dX11_found_34 : decode cX11_found 34 = .ok (.aload_n 0, 1) := by decide +kernel
theorem dX11_found_35 : decode cX11_found 35 = .ok (.invokevirtual 139, 3) := by decide +kernel
theorem dX11_found_38 : decode cX11_found 38 = .ok (.aload_n 0, 1) := by decide +kernel
theorem dX11_found_39 : decode cX11_found 39 = .ok (.iload 4, 2) := by decide +kernel
theorem dX11_found_41 : decode cX11_found 41 = .ok (.iconst 1, 1) := by decide +kernel
theorem dX11_found_42 : decode cX11_found 42 = .ok (.iadd, 1) := by decide +kernel
theorem dX11_found_43 : decode cX11_found 43 = .ok (.invokevirtual 145, 3) := by decide +kernel
theorem dX11_found_46 : decode cX11_found 46 = .ok (.iconst 0, 1) := by decide +kernel
theorem dX11_found_47 : decode cX11_found 47 = .ok (.istore 5, 2) := by decide +kernel
theorem dX11_found_49 : decode cX11_found 49 = .ok (.iload 5, 2) := by decide +kernel
theorem dX11_found_51 : decode cX11_found 51 = .ok (.sipush 256, 3) := by decide +kernel
theorem dX11_found_54 : decode cX11_found 54 = .ok (.if_icmp .ge 23, 3) := by decide +kernel
theorem dX11_found_57 : decode cX11_found 57 = .ok (.aload_n 0, 1) := by decide +kernel
theorem dX11_found_58 : decode cX11_found 58 = .ok (.getfield 40, 3) := by decide +kernel
theorem dX11_found_61 : decode cX11_found 61 = .ok (.iload 5, 2) := by decide +kernel
theorem dX11_found_63 : decode cX11_found 63 = .ok (.aload_n 0, 1) := by decide +kernel
theorem dX11_found_64 : decode cX11_found 64 = .ok (.getfield 31, 3) := by decide +kernel
theorem dX11_found_67 : decode cX11_found 67 = .ok (.iload 5, 2) := by decide +kernel
theorem dX11_found_69 : decode cX11_found 69 = .ok (.iaload, 1) := by decide +kernel
theorem dX11_found_70 : decode cX11_found 70 = .ok (.iastore, 1) := by decide +kernel
theorem dX11_found_71 : decode cX11_found 71 = .ok (.iinc 5 1, 3) := by decide +kernel
theorem dX11_found_74 : decode cX11_found 74 = .ok (.goto (-25), 3) := by decide +kernel
theorem dX11_found_77 : decode cX11_found 77 = .ok (.aload_n 0, 1) := by decide +kernel
theorem dX11_found_78 : decode cX11_found 78 = .ok (.invokevirtual 139, 3) := by decide +kernel
theorem dX11_found_81 : decode cX11_found 81 = .ok (.aload_n 0, 1) := by decide +kernel
theorem dX11_found_82 : decode cX11_found 82 = .ok (.getfield 28, 3) := by decide +kernel
theorem dX11_found_85 : decode cX11_found 85 = .ok (.iload_n 1, 1) := by decide +kernel
theorem dX11_found_86 : decode cX11_found 86 = .ok (.iload_n 2, 1) := by decide +kernel
theorem dX11_found_87 : decode cX11_found 87 = .ok (.invokestatic 211, 3) := by decide +kernel
theorem dX11_found_90 : decode cX11_found 90 = .ok (.aload_n 0, 1) := by decide +kernel
theorem dX11_found_91 : decode cX11_found 91 = .ok (.iload 4, 2) := by decide +kernel
theorem dX11_found_93 : decode cX11_found 93 = .ok (.iconst 1, 1) := by decide +kernel
theorem dX11_found_94 : decode cX11_found 94 = .ok (.iadd, 1) := by decide +kernel
theorem dX11_found_95 : decode cX11_found 95 = .ok (.invokevirtual 145, 3) := by decide +kernel
theorem dX11_found_98 : decode cX11_found 98 = .ok (.iconst 0, 1) := by decide +kernel
theorem dX11_found_99 : decode cX11_found 99 = .ok (.istore 5, 2) := by decide +kernel
theorem dX11_found_101 : decode cX11_found 101 = .ok (.iload 5, 2) := by decide +kernel
theorem dX11_found_103 : decode cX11_found 103 = .ok (.sipush 256, 3) := by decide +kernel
theorem dX11_found_106 : decode cX11_found 106 = .ok (.if_icmp .ge 29, 3) := by decide +kernel
theorem dX11_found_109 : decode cX11_found 109 = .ok (.aload_n 0, 1) := by decide +kernel
theorem dX11_found_110 : decode cX11_found 110 = .ok (.getfield 40, 3) := by decide +kernel
theorem dX11_found_113 : decode cX11_found 113 = .ok (.iload 5, 2) := by decide +kernel
theorem dX11_found_115 : decode cX11_found 115 = .ok (.iaload, 1) := by decide +kernel
theorem dX11_found_116 : decode cX11_found 116 = .ok (.aload_n 0, 1) := by decide +kernel
theorem dX11_found_117 : decode cX11_found 117 = .ok (.getfield 31, 3) := by decide +kernel
theorem dX11_found_120 : decode cX11_found 120 = .ok (.iload 5, 2) := by decide +kernel
theorem dX11_found_122 : decode cX11_found 122 = .ok (.iaload, 1) := by decide +kernel
theorem dX11_found_123 : decode cX11_found 123 = .ok (.if_icmp .eq 6, 3) := by decide +kernel
theorem dX11_found_126 : decode cX11_found 126 = .ok (.iload 4, 2) := by decide +kernel
theorem dX11_found_128 : decode cX11_found 128 = .ok (.ireturn, 1) := by decide +kernel
theorem dX11_found_129 : decode cX11_found 129 = .ok (.iinc 5 1, 3) := by decide +kernel
theorem dX11_found_132 : decode cX11_found 132 = .ok (.goto (-31), 3) := by decide +kernel
theorem dX11_found_135 : decode cX11_found 135 = .ok (.iinc 4 1, 3) := by decide +kernel
theorem dX11_found_138 : decode cX11_found 138 = .ok (.goto (-110), 3) := by decide +kernel
theorem dX11_found_141 : decode cX11_found 141 = .ok (.bipush (-6), 2) := by decide +kernel
theorem dX11_found_143 : decode cX11_found 143 = .ok (.ireturn, 1) := by decide +kernel
theorem dX11_overOf_0 : decode cX11_overOf 0 = .ok (.iconst 0, 1) := by decide +kernel
theorem dX11_overOf_1 : decode cX11_overOf 1 = .ok (.istore 4, 2) := by decide +kernel
theorem dX11_overOf_3 : decode cX11_overOf 3 = .ok (.iconst 0, 1) := by decide +kernel
theorem dX11_overOf_4 : decode cX11_overOf 4 = .ok (.istore 5, 2) := by decide +kernel
theorem dX11_overOf_6 : decode cX11_overOf 6 = .ok (.iload 5, 2) := by decide +kernel
theorem dX11_overOf_8 : decode cX11_overOf 8 = .ok (.bipush 64, 2) := by decide +kernel
theorem dX11_overOf_10 : decode cX11_overOf 10 = .ok (.if_icmp .ge 60, 3) := by decide +kernel
theorem dX11_overOf_13 : decode cX11_overOf 13 = .ok (.iload 4, 2) := by decide +kernel
theorem dX11_overOf_15 : decode cX11_overOf 15 = .ok (.iload 5, 2) := by decide +kernel
theorem dX11_overOf_17 : decode cX11_overOf 17 = .ok (.bipush 8, 2) := by decide +kernel
theorem dX11_overOf_19 : decode cX11_overOf 19 = .ok (.irem, 1) := by decide +kernel
theorem dX11_overOf_20 : decode cX11_overOf 20 = .ok (.iload_n 2, 1) := by decide +kernel
theorem dX11_overOf_21 : decode cX11_overOf 21 = .ok (.if_icmp .le 7, 3) := by decide +kernel
theorem dX11_overOf_24 : decode cX11_overOf 24 = .ok (.iconst 1, 1) := by decide +kernel
theorem dX11_overOf_25 : decode cX11_overOf 25 = .ok (.goto 4, 3) := by decide +kernel
theorem dX11_overOf_28 : decode cX11_overOf 28 = .ok (.iconst 0, 1) := by decide +kernel
theorem dX11_overOf_29 : decode cX11_overOf 29 = .ok (.iload_n 3, 1) := by decide +kernel
theorem dX11_overOf_30 : decode cX11_overOf 30 = .ok (.if_icmp .ne 30, 3) := by decide +kernel
theorem dX11_overOf_33 : decode cX11_overOf 33 = .ok (.iload_n 1, 1) := by decide +kernel
theorem dX11_overOf_34 : decode cX11_overOf 34 = .ok (.ifCond .ge 12, 3) := by decide +kernel
theorem dX11_overOf_37 : decode cX11_overOf 37 = .ok (.aload_n 0, 1) := by decide +kernel
theorem dX11_overOf_38 : decode cX11_overOf 38 = .ok (.iload 5, 2) := by decide +kernel
theorem dX11_overOf_40 : decode cX11_overOf 40 = .ok (.invokevirtual 151, 3) := by decide +kernel
theorem dX11_overOf_43 : decode cX11_overOf 43 = .ok (.goto 18, 3) := by decide +kernel
theorem dX11_overOf_46 : decode cX11_overOf 46 = .ok (.aload_n 0, 1) := by decide +kernel
theorem dX11_overOf_47 : decode cX11_overOf 47 = .ok (.getfield 13, 3) := by decide +kernel
theorem dX11_overOf_50 : decode cX11_overOf 50 = .ok (.iconst 4, 1) := by decide +kernel
theorem dX11_overOf_51 : decode cX11_overOf 51 = .ok (.iload 5, 2) := by decide +kernel
theorem dX11_overOf_53 : decode cX11_overOf 53 = .ok (.imul, 1) := by decide +kernel
theorem dX11_overOf_54 : decode cX11_overOf 54 = .ok (.iload_n 1, 1) := by decide +kernel
theorem dX11_overOf_55 : decode cX11_overOf 55 = .ok (.iadd, 1) := by decide +kernel
theorem dX11_overOf_56 : decode cX11_overOf 56 = .ok (.iaload, 1) := by decide +kernel
theorem dX11_overOf_57 : decode cX11_overOf 57 = .ok (.goto 4, 3) := by decide +kernel
theorem dX11_overOf_60 : decode cX11_overOf 60 = .ok (.iconst 0, 1) := by decide +kernel
theorem dX11_overOf_61 : decode cX11_overOf 61 = .ok (.iadd, 1) := by decide +kernel
theorem dX11_overOf_62 : decode cX11_overOf 62 = .ok (.istore 4, 2) := by decide +kernel
theorem dX11_overOf_64 : decode cX11_overOf 64 = .ok (.iinc 5 1, 3) := by decide +kernel
theorem dX11_overOf_67 : decode cX11_overOf 67 = .ok (.goto (-61), 3) := by decide +kernel
theorem dX11_overOf_70 : decode cX11_overOf 70 = .ok (.iload 4, 2) := by decide +kernel
theorem dX11_overOf_72 : decode cX11_overOf 72 = .ok (.ireturn, 1) := by decide +kernel
theorem dX11_over_0 : decode cX11_over 0 = .ok (.iload_n 1, 1) := by decide +kernel
theorem dX11_over_1 : decode cX11_over 1 = .ok (.iconst (-1), 1) := by decide +kernel
theorem dX11_over_2 : decode cX11_over 2 = .ok (.if_icmp .eq 12, 3) := by decide +kernel
theorem dX11_over_5 : decode cX11_over 5 = .ok (.iload_n 1, 1) := by decide +kernel
theorem dX11_over_6 : decode cX11_over 6 = .ok (.invokestatic 148, 3) := by decide +kernel
theorem dX11_over_9 : decode cX11_over 9 = .ok (.ifCond .ne 5, 3) := by decide +kernel
theorem dX11_over_12 : decode cX11_over 12 = .ok (.iconst (-1), 1) := by decide +kernel
theorem dX11_over_13 : decode cX11_over 13 = .ok (.ireturn, 1) := by decide +kernel
theorem dX11_over_14 : decode cX11_over 14 = .ok (.iload_n 2, 1) := by decide +kernel
theorem dX11_over_15 : decode cX11_over 15 = .ok (.i2l, 1) := by decide +kernel
theorem dX11_over_16 : decode cX11_over 16 = .ok (.lconst 0, 1) := by decide +kernel
theorem dX11_over_17 : decode cX11_over 17 = .ok (.ldc2_w 60, 3) := by decide +kernel
theorem dX11_over_20 : decode cX11_over 20 = .ok (.invokestatic 52, 3) := by decide +kernel
theorem dX11_over_23 : decode cX11_over 23 = .ok (.ifCond .ne 6, 3) := by decide +kernel
theorem dX11_over_26 : decode cX11_over 26 = .ok (.bipush (-2), 2) := by decide +kernel
theorem dX11_over_28 : decode cX11_over 28 = .ok (.ireturn, 1) := by decide +kernel
theorem dX11_over_29 : decode cX11_over 29 = .ok (.iload_n 1, 1) := by decide +kernel
theorem dX11_over_30 : decode cX11_over 30 = .ok (.ifCond .lt 11, 3) := by decide +kernel
theorem dX11_over_33 : decode cX11_over 33 = .ok (.aload_n 0, 1) := by decide +kernel
theorem dX11_over_34 : decode cX11_over 34 = .ok (.iload_n 1, 1) := by decide +kernel
theorem dX11_over_35 : decode cX11_over 35 = .ok (.iload_n 2, 1) := by decide +kernel
theorem dX11_over_36 : decode cX11_over 36 = .ok (.iconst 1, 1) := by decide +kernel
theorem dX11_over_37 : decode cX11_over 37 = .ok (.invokevirtual 215, 3) := by decide +kernel
theorem dX11_over_40 : decode cX11_over 40 = .ok (.ireturn, 1) := by decide +kernel
theorem dX11_over_41 : decode cX11_over 41 = .ok (.iconst 3, 1) := by decide +kernel
theorem dX11_over_42 : decode cX11_over 42 = .ok (.aload_n 0, 1) := by decide +kernel
theorem dX11_over_43 : decode cX11_over 43 = .ok (.bipush (-6), 2) := by decide +kernel
theorem dX11_over_45 : decode cX11_over 45 = .ok (.iload_n 2, 1) := by decide +kernel
theorem dX11_over_46 : decode cX11_over 46 = .ok (.iconst 1, 1) := by decide +kernel
theorem dX11_over_47 : decode cX11_over 47 = .ok (.invokevirtual 215, 3) := by decide +kernel
theorem dX11_over_50 : decode cX11_over 50 = .ok (.bipush 10, 2) := by decide +kernel
theorem dX11_over_52 : decode cX11_over 52 = .ok (.idiv, 1) := by decide +kernel
theorem dX11_over_53 : decode cX11_over 53 = .ok (.imul, 1) := by decide +kernel
theorem dX11_over_54 : decode cX11_over 54 = .ok (.istore_n 3, 1) := by decide +kernel
theorem dX11_over_55 : decode cX11_over 55 = .ok (.aload_n 0, 1) := by decide +kernel
theorem dX11_over_56 : decode cX11_over 56 = .ok (.bipush (-6), 2) := by decide +kernel
theorem dX11_over_58 : decode cX11_over 58 = .ok (.iload_n 2, 1) := by decide +kernel
theorem dX11_over_59 : decode cX11_over 59 = .ok (.iconst 0, 1) := by decide +kernel
theorem dX11_over_60 : decode cX11_over 60 = .ok (.invokevirtual 215, 3) := by decide +kernel
theorem dX11_over_63 : decode cX11_over 63 = .ok (.istore 4, 2) := by decide +kernel
theorem dX11_over_65 : decode cX11_over 65 = .ok (.iload_n 3, 1) := by decide +kernel
theorem dX11_over_66 : decode cX11_over 66 = .ok (.iload 4, 2) := by decide +kernel
theorem dX11_over_68 : decode cX11_over 68 = .ok (.if_icmp .ge 7, 3) := by decide +kernel
theorem dX11_over_71 : decode cX11_over 71 = .ok (.iload_n 3, 1) := by decide +kernel
theorem dX11_over_72 : decode cX11_over 72 = .ok (.goto 5, 3) := by decide +kernel
