theorem dX3_claim_20 : decode cX3_claim 20 = .ok (.ireturn, 1) := by decide +kernel
theorem dX4_init_0 : decode cX4_init 0 = .ok (.aload_n 0, 1) := by decide +kernel
theorem dX4_init_1 : decode cX4_init 1 = .ok (.invokespecial 3, 3) := by decide +kernel
theorem dX4_init_4 : decode cX4_init 4 = .ok (.aload_n 0, 1) := by decide +kernel
theorem dX4_init_5 : decode cX4_init 5 = .ok (.bipush 40, 2) := by decide +kernel
theorem dX4_init_7 : decode cX4_init 7 = .ok (.newarray .int, 2) := by decide +kernel
theorem dX4_init_9 : decode cX4_init 9 = .ok (.putfield 9, 3) := by decide +kernel
theorem dX4_init_12 : decode cX4_init 12 = .ok (.return_, 1) := by decide +kernel
theorem dX4_add_0 : decode cX4_add 0 = .ok (.aload_n 0, 1) := by decide +kernel
theorem dX4_add_1 : decode cX4_add 1 = .ok (.getfield 15, 3) := by decide +kernel
theorem dX4_add_4 : decode cX4_add 4 = .ok (.bipush 40, 2) := by decide +kernel
theorem dX4_add_6 : decode cX4_add 6 = .ok (.if_icmp .ge 23, 3) := by decide +kernel
theorem dX4_add_9 : decode cX4_add 9 = .ok (.aload_n 0, 1) := by decide +kernel
theorem dX4_add_10 : decode cX4_add 10 = .ok (.getfield 9, 3) := by decide +kernel
theorem dX4_add_13 : decode cX4_add 13 = .ok (.aload_n 0, 1) := by decide +kernel
theorem dX4_add_14 : decode cX4_add 14 = .ok (.getfield 15, 3) := by decide +kernel
theorem dX4_add_17 : decode cX4_add 17 = .ok (.iload_n 1, 1) := by decide +kernel
theorem dX4_add_18 : decode cX4_add 18 = .ok (.iastore, 1) := by decide +kernel
theorem dX4_add_19 : decode cX4_add 19 = .ok (.aload_n 0, 1) := by decide +kernel
theorem dX4_add_20 : decode cX4_add 20 = .ok (.dup, 1) := by decide +kernel
theorem dX4_add_21 : decode cX4_add 21 = .ok (.getfield 15, 3) := by decide +kernel
theorem dX4_add_24 : decode cX4_add 24 = .ok (.iconst 1, 1) := by decide +kernel
theorem dX4_add_25 : decode cX4_add 25 = .ok (.iadd, 1) := by decide +kernel
theorem dX4_add_26 : decode cX4_add 26 = .ok (.putfield 15, 3) := by decide +kernel
theorem dX4_add_29 : decode cX4_add 29 = .ok (.return_, 1) := by decide +kernel
theorem dX4_signAt_0 : decode cX4_signAt 0 = .ok (.iload_n 1, 1) := by decide +kernel
theorem dX4_signAt_1 : decode cX4_signAt 1 = .ok (.ifCond .lt 26, 3) := by decide +kernel
theorem dX4_signAt_4 : decode cX4_signAt 4 = .ok (.iload_n 1, 1) := by decide +kernel
theorem dX4_signAt_5 : decode cX4_signAt 5 = .ok (.aload_n 0, 1) := by decide +kernel
theorem dX4_signAt_6 : decode cX4_signAt 6 = .ok (.getfield 15, 3) := by decide +kernel
theorem dX4_signAt_9 : decode cX4_signAt 9 = .ok (.if_icmp .ge 18, 3) := by decide +kernel
theorem dX4_signAt_12 : decode cX4_signAt 12 = .ok (.iload_n 1, 1) := by decide +kernel
theorem dX4_signAt_13 : decode cX4_signAt 13 = .ok (.bipush 40, 2) := by decide +kernel
theorem dX4_signAt_15 : decode cX4_signAt 15 = .ok (.if_icmp .ge 12, 3) := by decide +kernel
theorem dX4_signAt_18 : decode cX4_signAt 18 = .ok (.aload_n 0, 1) := by decide +kernel
theorem dX4_signAt_19 : decode cX4_signAt 19 = .ok (.getfield 9, 3) := by decide +kernel
theorem dX4_signAt_22 : decode cX4_signAt 22 = .ok (.iload_n 1, 1) := by decide +kernel
theorem dX4_signAt_23 : decode cX4_signAt 23 = .ok (.iaload, 1) := by decide +kernel
theorem dX4_signAt_24 : decode cX4_signAt 24 = .ok (.goto 4, 3) := by decide +kernel
theorem dX4_signAt_27 : decode cX4_signAt 27 = .ok (.iconst 0, 1) := by decide +kernel
theorem dX4_signAt_28 : decode cX4_signAt 28 = .ok (.ireturn, 1) := by decide +kernel
theorem dX4_firstFault_0 : decode cX4_firstFault 0 = .ok (.iconst 0, 1) := by decide +kernel
theorem dX4_firstFault_1 : decode cX4_firstFault 1 = .ok (.istore_n 1, 1) := by decide +kernel
theorem dX4_firstFault_2 : decode cX4_firstFault 2 = .ok (.iconst 0, 1) := by decide +kernel
theorem dX4_firstFault_3 : decode cX4_firstFault 3 = .ok (.istore_n 2, 1) := by decide +kernel
theorem dX4_firstFault_4 : decode cX4_firstFault 4 = .ok (.iconst 0, 1) := by decide +kernel
theorem dX4_firstFault_5 : decode cX4_firstFault 5 = .ok (.istore_n 3, 1) := by decide +kernel
theorem dX4_firstFault_6 : decode cX4_firstFault 6 = .ok (.iload_n 3, 1) := by decide +kernel
theorem dX4_firstFault_7 : decode cX4_firstFault 7 = .ok (.aload_n 0, 1) := by decide +kernel
theorem dX4_firstFault_8 : decode cX4_firstFault 8 = .ok (.getfield 15, 3) := by decide +kernel
theorem dX4_firstFault_11 : decode cX4_firstFault 11 = .ok (.if_icmp .ge 86, 3) := by decide +kernel
theorem dX4_firstFault_14 : decode cX4_firstFault 14 = .ok (.aload_n 0, 1) := by decide +kernel
theorem dX4_firstFault_15 : decode cX4_firstFault 15 = .ok (.iload_n 3, 1) := by decide +kernel
theorem dX4_firstFault_16 : decode cX4_firstFault 16 = .ok (.invokevirtual 19, 3) := by decide +kernel
theorem dX4_firstFault_19 : decode cX4_firstFault 19 = .ok (.istore 4, 2) := by decide +kernel
theorem dX4_firstFault_21 : decode cX4_firstFault 21 = .ok (.iload_n 2, 1) := by decide +kernel
theorem dX4_firstFault_22 : decode cX4_firstFault 22 = .ok (.ifCond .eq 22, 3) := by decide +kernel
theorem dX4_firstFault_25 : decode cX4_firstFault 25 = .ok (.iload 4, 2) := by decide +kernel
theorem dX4_firstFault_27 : decode cX4_firstFault 27 = .ok (.bipush 49, 2) := by decide +kernel
theorem dX4_firstFault_29 : decode cX4_firstFault 29 = .ok (.bipush 57, 2) := by decide +kernel
theorem dX4_firstFault_31 : decode cX4_firstFault 31 = .ok (.invokestatic 23, 3) := by decide +kernel
theorem dX4_firstFault_34 : decode cX4_firstFault 34 = .ok (.ifCond .ne 5, 3) := by decide +kernel
theorem dX4_firstFault_37 : decode cX4_firstFault 37 = .ok (.iload_n 3, 1) := by decide +kernel
theorem dX4_firstFault_38 : decode cX4_firstFault 38 = .ok (.ireturn, 1) := by decide +kernel
theorem dX4_firstFault_39 : decode cX4_firstFault 39 = .ok (.iconst 0, 1) := by decide +kernel
theorem dX4_firstFault_40 : decode cX4_firstFault 40 = .ok (.istore_n 2, 1) := by decide +kernel
theorem dX4_firstFault_41 : decode cX4_firstFault 41 = .ok (.goto 50, 3) := by decide +kernel
theorem dX4_firstFault_44 : decode cX4_firstFault 44 = .ok (.iload 4, 2) := by decide +kernel
theorem dX4_firstFault_46 : decode cX4_firstFault 46 = .ok (.invokestatic 27, 3) := by decide +kernel
theorem dX4_firstFault_49 : decode cX4_firstFault 49 = .ok (.ifCond .eq 8, 3) := by decide +kernel
theorem dX4_firstFault_52 : decode cX4_firstFault 52 = .ok (.iconst 1, 1) := by decide +kernel
theorem dX4_firstFault_53 : decode cX4_firstFault 53 = .ok (.istore_n 1, 1) := by decide +kernel
theorem dX4_firstFault_54 : decode cX4_firstFault 54 = .ok (.goto 37, 3) := by decide +kernel
theorem dX4_firstFault_57 : decode cX4_firstFault 57 = .ok (.iload_n 1, 1) := by decide +kernel
theorem dX4_firstFault_58 : decode cX4_firstFault 58 = .ok (.ifCond .eq 11, 3) := by decide +kernel
theorem dX4_firstFault_61 : decode cX4_firstFault 61 = .ok (.iload 4, 2) := by decide +kernel
theorem dX4_firstFault_63 : decode cX4_firstFault 63 = .ok (.invokestatic 31, 3) := by decide +kernel
theorem dX4_firstFault_66 : decode cX4_firstFault 66 = .ok (.ifCond .ne 5, 3) := by decide +kernel
theorem dX4_firstFault_69 : decode cX4_firstFault 69 = .ok (.iload_n 3, 1) := by decide +kernel
theorem dX4_firstFault_70 : decode cX4_firstFault 70 = .ok (.ireturn, 1) := by decide +kernel
theorem dX4_firstFault_71 : decode cX4_firstFault 71 = .ok (.iload 4, 2) := by decide +kernel
theorem dX4_firstFault_73 : decode cX4_firstFault 73 = .ok (.bipush 102, 2) := by decide +kernel
theorem dX4_firstFault_75 : decode cX4_firstFault 75 = .ok (.if_icmp .eq 10, 3) := by decide +kernel
theorem dX4_firstFault_78 : decode cX4_firstFault 78 = .ok (.iload 4, 2) := by decide +kernel
theorem dX4_firstFault_80 : decode cX4_firstFault 80 = .ok (.bipush 119, 2) := by decide +kernel
theorem dX4_firstFault_82 : decode cX4_firstFault 82 = .ok (.if_icmp .ne 7, 3) := by decide +kernel
theorem dX4_firstFault_85 : decode cX4_firstFault 85 = .ok (.iconst 1, 1) := by decide +kernel
theorem dX4_firstFault_86 : decode cX4_firstFault 86 = .ok (.goto 4, 3) := by decide +kernel
theorem dX4_firstFault_89 : decode cX4_firstFault 89 = .ok (.iconst 0, 1) := by decide +kernel
theorem dX4_firstFault_90 : decode cX4_firstFault 90 = .ok (.istore_n 2, 1) := by decide +kernel
theorem dX4_firstFault_91 : decode cX4_firstFault 91 = .ok (.iinc 3 1, 3) := by decide +kernel
theorem dX4_firstFault_94 : decode cX4_firstFault 94 = .ok (.goto (-88), 3) := by decide +kernel
theorem dX4_firstFault_97 : decode cX4_firstFault 97 = .ok (.iload_n 2, 1) := by decide +kernel
theorem dX4_firstFault_98 : decode cX4_firstFault 98 = .ok (.ifCond .eq 10, 3) := by decide +kernel
theorem dX4_firstFault_101 : decode cX4_firstFault 101 = .ok (.aload_n 0, 1) := by decide +kernel
theorem dX4_firstFault_102 : decode cX4_firstFault 102 = .ok (.getfield 15, 3) := by decide +kernel
theorem dX4_firstFault_105 : decode cX4_firstFault 105 = .ok (.goto 5, 3) := by decide +kernel
theorem dX4_firstFault_108 : decode cX4_firstFault 108 = .ok (.bipush (-6), 2) := by decide +kernel
theorem dX4_firstFault_110 : decode cX4_firstFault 110 = .ok (.ireturn, 1) := by decide +kernel
theorem dX4_startsPart_0 : decode cX4_startsPart 0 = .ok (.aload_n 0, 1) := by decide +kernel
theorem dX4_startsPart_1 : decode cX4_startsPart 1 = .ok (.iload_n 1, 1) := by decide +kernel
theorem dX4_startsPart_2 : decode cX4_startsPart 2 = .ok (.invokevirtual 19, 3) := by decide +kernel
theorem dX4_startsPart_5 : decode cX4_startsPart 5 = .ok (.bipush 48, 2) := by decide +kernel
theorem dX4_startsPart_7 : decode cX4_startsPart 7 = .ok (.bipush 57, 2) := by decide +kernel
theorem dX4_startsPart_9 : decode cX4_startsPart 9 = .ok (.invokestatic 23, 3) := by decide +kernel
theorem dX4_startsPart_12 : decode cX4_startsPart 12 = .ok (.ifCond .ne 7, 3) := by decide +kernel
theorem dX4_startsPart_15 : decode cX4_startsPart 15 = .ok (.iconst 1, 1) := by decide +kernel
theorem dX4_startsPart_16 : decode cX4_startsPart 16 = .ok (.goto 4, 3) := by decide +kernel
theorem dX4_startsPart_19 : decode cX4_startsPart 19 = .ok (.iconst 0, 1) := by decide +kernel
theorem dX4_startsPart_20 : decode cX4_startsPart 20 = .ok (.ireturn, 1) := by decide +kernel
theorem dX4_has_0 : decode cX4_has 0 = .ok (.iconst 0, 1) := by decide +kernel
theorem dX4_has_1 : decode cX4_has 1 = .ok (.istore_n 2, 1) := by decide +kernel
theorem dX4_has_2 : decode cX4_has 2 = .ok (.iload_n 2, 1) := by decide +kernel
theorem dX4_has_3 : decode cX4_has 3 = .ok (.aload_n 0, 1) := by decide +kernel
theorem dX4_has_4 : decode cX4_has 4 = .ok (.getfield 15, 3) := by decide +kernel
theorem dX4_has_7 : decode cX4_has 7 = .ok (.if_icmp .ge 20, 3) := by decide +kernel
theorem dX4_has_10 : decode cX4_has 10 = .ok (.aload_n 0, 1) := by decide +kernel
theorem dX4_has_11 : decode cX4_has 11 = .ok (.iload_n 2, 1) := by decide +kernel
theorem dX4_has_12 : decode cX4_has 12 = .ok (.invokevirtual 19, 3) := by decide +kernel
theorem dX4_has_15 : decode cX4_has 15 = .ok (.iload_n 1, 1) := by decide +kernel
theorem dX4_has_16 : decode cX4_has 16 = .ok (.if_icmp .ne 5, 3) := by decide +kernel
theorem dX4_has_19 : decode cX4_has 19 = .ok (.iconst 1, 1) := by decide +kernel
theorem dX4_has_20 : decode cX4_has 20 = .ok (.ireturn, 1) := by decide +kernel
theorem dX4_has_21 : decode cX4_has 21 = .ok (.iinc 2 1, 3) := by decide +kernel
theorem dX4_has_24 : decode cX4_has 24 = .ok (.goto (-22), 3) := by decide +kernel
theorem dX4_has_27 : decode cX4_has 27 = .ok (.iconst 0, 1) := by decide +kernel
theorem dX4_has_28 : decode cX4_has 28 = .ok (.ireturn, 1) := by decide +kernel
theorem dX4_isLetter_0 : decode cX4_isLetter 0 = .ok (.iload_n 0, 1) := by decide +kernel
theorem dX4_isLetter_1 : decode cX4_isLetter 1 = .ok (.bipush 65, 2) := by decide +kernel
theorem dX4_isLetter_3 : decode cX4_isLetter 3 = .ok (.bipush 68, 2) := by decide +kernel
theorem dX4_isLetter_5 : decode cX4_isLetter 5 = .ok (.invokestatic 23, 3) := by decide +kernel
theorem dX4_isLetter_8 : decode cX4_isLetter 8 = .ok (.ireturn, 1) := by decide +kernel
theorem dX4_isDeed_0 : decode cX4_isDeed 0 = .ok (.iload_n 0, 1) := by decide +kernel
theorem dX4_isDeed_1 : decode cX4_isDeed 1 = .ok (.bipush 102, 2) := by decide +kernel
theorem dX4_isDeed_3 : decode cX4_isDeed 3 = .ok (.if_icmp .eq 27, 3) := by decide +kernel
theorem dX4_isDeed_6 : decode cX4_isDeed 6 = .ok (.iload_n 0, 1) := by decide +kernel
theorem dX4_isDeed_7 : decode cX4_isDeed 7 = .ok (.bipush 119, 2) := by decide +kernel
theorem dX4_isDeed_9 : decode cX4_isDeed 9 = .ok (.if_icmp .eq 21, 3) := by decide +kernel
theorem dX4_isDeed_12 : decode cX4_isDeed 12 = .ok (.iload_n 0, 1) := by decide +kernel
theorem dX4_isDeed_13 : decode cX4_isDeed 13 = .ok (.bipush 114, 2) := by decide +kernel
theorem dX4_isDeed_15 : decode cX4_isDeed 15 = .ok (.if_icmp .eq 15, 3) := by decide +kernel
theorem dX4_isDeed_18 : decode cX4_isDeed 18 = .ok (.iload_n 0, 1) := by decide +kernel
theorem dX4_isDeed_19 : decode cX4_isDeed 19 = .ok (.bipush 108, 2) := by decide +kernel
theorem dX4_isDeed_21 : decode cX4_isDeed 21 = .ok (.if_icmp .eq 9, 3) := by decide +kernel
theorem dX4_isDeed_24 : decode cX4_isDeed 24 = .ok (.iload_n 0, 1) := by decide +kernel
theorem dX4_isDeed_25 : decode cX4_isDeed 25 = .ok (.bipush 98, 2) := by decide +kernel
theorem dX4_isDeed_27 : decode cX4_isDeed 27 = .ok (.if_icmp .ne 7, 3) := by decide +kernel
theorem dX4_isDeed_30 : decode cX4_isDeed 30 = .ok (.iconst 1, 1) := by decide +kernel
theorem dX4_isDeed_31 : decode cX4_isDeed 31 = .ok (.goto 4, 3) := by decide +kernel
theorem dX4_isDeed_34 : decode cX4_isDeed 34 = .ok (.iconst 0, 1) := by decide +kernel
theorem dX4_isDeed_35 : decode cX4_isDeed 35 = .ok (.ireturn, 1) := by decide +kernel
theorem dX5_init_0 : decode cX5_init 0 = .ok (.aload_n 0, 1) := by decide +kernel
theorem dX5_init_1 : decode cX5_init 1 = .ok (.invokespecial 1, 3) := by decide +kernel
theorem dX5_init_4 : decode cX5_init 4 = .ok (.return_, 1) := by decide +kernel
theorem dX6_init_0 : decode cX6_init 0 = .ok (.aload_n 0, 1) := by decide +kernel
theorem dX6_init_1 : decode cX6_init 1 = .ok (.invokespecial 3, 3) := by decide +kernel
theorem dX6_init_4 : decode cX6_init 4 = .ok (.aload_n 0, 1) := by decide +kernel
theorem dX6_init_5 : decode cX6_init 5 = .ok (.iload_n 1, 1) := by decide +kernel
theorem dX6_init_6 : decode cX6_init 6 = .ok (.putfield 9, 3) := by decide +kernel
theorem dX6_init_9 : decode cX6_init 9 = .ok (.aload_n 0, 1) := by decide +kernel
theorem dX6_init_10 : decode cX6_init 10 = .ok (.bipush 20, 2) := by decide +kernel
theorem dX6_init_12 : decode cX6_init 12 = .ok (.putfield 15, 3) := by decide +kernel
theorem dX6_init_15 : decode cX6_init 15 = .ok (.aload_n 0, 1) := by decide +kernel
theorem dX6_init_16 : decode cX6_init 16 = .ok (.iconst 3, 1) := by decide +kernel
theorem dX6_init_17 : decode cX6_init 17 = .ok (.putfield 18, 3) := by decide +kernel
theorem dX6_init_20 : decode cX6_init 20 = .ok (.return_, 1) := by decide +kernel
theorem dX6_copyFrom_0 : decode cX6_copyFrom 0 = .ok (.aload_n 0, 1) := by decide +kernel
theorem dX6_copyFrom_1 : decode cX6_copyFrom 1 = .ok (.aload_n 1, 1) := by decide +kernel
theorem dX6_copyFrom_2 : decode cX6_copyFrom 2 = .ok (.getfield 21, 3) := by decide +kernel
theorem dX6_copyFrom_5 : decode cX6_copyFrom 5 = .ok (.putfield 21, 3) := by decide +kernel
theorem dX6_copyFrom_8 : decode cX6_copyFrom 8 = .ok (.aload_n 0, 1) := by decide +kernel
theorem dX6_copyFrom_9 : decode cX6_copyFrom 9 = .ok (.aload_n 1, 1) := by decide +kernel
theorem dX6_copyFrom_10 : decode cX6_copyFrom 10 = .ok (.getfield 24, 3) := by decide +kernel
theorem dX6_copyFrom_13 : decode cX6_copyFrom 13 = .ok (.putfield 24, 3) := by decide +kernel
theorem dX6_copyFrom_16 : decode cX6_copyFrom 16 = .ok (.aload_n 0, 1) := by decide +kernel
theorem dX6_copyFrom_17 : decode cX6_copyFrom 17 = .ok (.aload_n 1, 1) := by decide +kernel
theorem dX6_copyFrom_18 : decode cX6_copyFrom 18 = .ok (.getfield 9, 3) := by decide +kernel
theorem dX6_copyFrom_21 : decode cX6_copyFrom 21 = .ok (.putfield 9, 3) := by decide +kernel
theorem dX6_copyFrom_24 : decode cX6_copyFrom 24 = .ok (.aload_n 0, 1) := by decide +kernel
theorem dX6_copyFrom_25 : decode cX6_copyFrom 25 = .ok (.aload_n 1, 1) := by decide +kernel
theorem dX6_copyFrom_26 : decode cX6_copyFrom 26 = .ok (.getfield 15, 3) := by decide +kernel
theorem dX6_copyFrom_29 : decode cX6_copyFrom 29 = .ok (.putfield 15, 3) := by decide +kernel
theorem dX6_copyFrom_32 : decode cX6_copyFrom 32 = .ok (.aload_n 0, 1) := by decide +kernel
theorem dX6_copyFrom_33 : decode cX6_copyFrom 33 = .ok (.aload_n 1, 1) := by decide +kernel
theorem dX6_copyFrom_34 : decode cX6_copyFrom 34 = .ok (.getfield 27, 3) := by decide +kernel
theorem dX6_copyFrom_37 : decode cX6_copyFrom 37 = .ok (.putfield 27, 3) := by decide +kernel
theorem dX6_copyFrom_40 : decode cX6_copyFrom 40 = .ok (.aload_n 0, 1) := by decide +kernel
theorem dX6_copyFrom_41 : decode cX6_copyFrom 41 = .ok (.aload_n 1, 1) := by decide +kernel
theorem dX6_copyFrom_42 : decode cX6_copyFrom 42 = .ok (.getfield 18, 3) := by decide +kernel
theorem dX6_copyFrom_45 : decode cX6_copyFrom 45 = .ok (.putfield 18, 3) := by decide +kernel
theorem dX6_copyFrom_48 : decode cX6_copyFrom 48 = .ok (.aload_n 0, 1) := by decide +kernel
theorem dX6_copyFrom_49 : decode cX6_copyFrom 49 = .ok (.aload_n 1, 1) := by decide +kernel
theorem dX6_copyFrom_50 : decode cX6_copyFrom 50 = .ok (.getfield 30, 3) := by decide +kernel
theorem dX6_copyFrom_53 : decode cX6_copyFrom 53 = .ok (.putfield 30, 3) := by decide +kernel
theorem dX6_copyFrom_56 : decode cX6_copyFrom 56 = .ok (.aload_n 0, 1) := by decide +kernel
theorem dX6_copyFrom_57 : decode cX6_copyFrom 57 = .ok (.aload_n 1, 1) := by decide +kernel
theorem dX6_copyFrom_58 : decode cX6_copyFrom 58 = .ok (.getfield 33, 3) := by decide +kernel
theorem dX6_copyFrom_61 : decode cX6_copyFrom 61 = .ok (.putfield 33, 3) := by decide +kernel
theorem dX6_copyFrom_64 : decode cX6_copyFrom 64 = .ok (.return_, 1) := by decide +kernel
theorem dX6_fact_0 : decode cX6_fact 0 = .ok (.iload_n 1, 1) := by decide +kernel
theorem dX6_fact_1 : decode cX6_fact 1 = .ok (.tableswitch 80 0 6 #[43, 48, 53, 58, 63, 70, 75], 43) := by decide +kernel
theorem dX6_fact_44 : decode cX6_fact 44 = .ok (.aload_n 0, 1) := by decide +kernel
theorem dX6_fact_45 : decode cX6_fact 45 = .ok (.getfield 21, 3) := by decide +kernel
theorem dX6_fact_48 : decode cX6_fact 48 = .ok (.ireturn, 1) := by decide +kernel
theorem dX6_fact_49 : decode cX6_fact 49 = .ok (.aload_n 0, 1) := by decide +kernel
theorem dX6_fact_50 : decode cX6_fact 50 = .ok (.getfield 24, 3) := by decide +kernel
theorem dX6_fact_53 : decode cX6_fact 53 = .ok (.ireturn, 1) := by decide +kernel
theorem dX6_fact_54 : decode cX6_fact 54 = .ok (.aload_n 0, 1) := by decide +kernel
theorem dX6_fact_55 : decode cX6_fact 55 = .ok (.getfield 9, 3) := by decide +kernel
theorem dX6_fact_58 : decode cX6_fact 58 = .ok (.ireturn, 1) := by decide +kernel
theorem dX6_fact_59 : decode cX6_fact 59 = .ok (.aload_n 0, 1) := by decide +kernel
theorem dX6_fact_60 : decode cX6_fact 60 = .ok (.getfield 15, 3) := by decide +kernel
theorem dX6_fact_63 : decode cX6_fact 63 = .ok (.ireturn, 1) := by decide +kernel
theorem dX6_fact_64 : decode cX6_fact 64 = .ok (.aload_n 0, 1) := by decide +kernel
theorem dX6_fact_65 : decode cX6_fact 65 = .ok (.getfield 27, 3) := by decide +kernel
theorem dX6_fact_68 : decode cX6_fact 68 = .ok (.iconst 2, 1) := by decide +kernel
theorem dX6_fact_69 : decode cX6_fact 69 = .ok (.iadd, 1) := by decide +kernel
theorem dX6_fact_70 : decode cX6_fact 70 = .ok (.ireturn, 1) := by decide +kernel
theorem dX6_fact_71 : decode cX6_fact 71 = .ok (.aload_n 0, 1) := by decide +kernel
theorem dX6_fact_72 : decode cX6_fact 72 = .ok (.getfield 18, 3) := by decide +kernel
theorem dX6_fact_75 : decode cX6_fact 75 = .ok (.ireturn, 1) := by decide +kernel
theorem dX6_fact_76 : decode cX6_fact 76 = .ok (.aload_n 0, 1) := by decide +kernel
theorem dX6_fact_77 : decode cX6_fact 77 = .ok (.getfield 30, 3) := by decide +kernel
theorem dX6_fact_80 : decode cX6_fact 80 = .ok (.ireturn, 1) := by decide +kernel
theorem dX6_fact_81 : decode cX6_fact 81 = .ok (.aload_n 0, 1) := by decide +kernel
theorem dX6_fact_82 : decode cX6_fact 82 = .ok (.getfield 33, 3) := by decide +kernel
theorem dX6_fact_85 : decode cX6_fact 85 = .ok (.ireturn, 1) := by decide +kernel
theorem dX6_put_0 : decode cX6_put 0 = .ok (.iload_n 1, 1) := by decide +kernel
theorem dX6_put_1 : decode cX6_put 1 = .ok (.tableswitch 89 0 5 #[39, 47, 55, 63, 71, 81], 39) := by decide +kernel
theorem dX6_put_40 : decode cX6_put 40 = .ok (.aload_n 0, 1) := by decide +kernel
theorem dX6_put_41 : decode cX6_put 41 = .ok (.iload_n 2, 1) := by decide +kernel
theorem dX6_put_42 : decode cX6_put 42 = .ok (.putfield 21, 3) := by decide +kernel
theorem dX6_put_45 : decode cX6_put 45 = .ok (.goto 45, 3) := by decide +kernel
theorem dX6_put_48 : decode cX6_put 48 = .ok (.aload_n 0, 1) := by decide +kernel
theorem dX6_put_49 : decode cX6_put 49 = .ok (.iload_n 2, 1) := by decide +kernel
theorem dX6_put_50 : decode cX6_put 50 = .ok (.putfield 24, 3) := by decide +kernel
theorem dX6_put_53 : decode cX6_put 53 = .ok (.goto 37, 3) := by decide +kernel
theorem dX6_put_56 : decode cX6_put 56 = .ok (.aload_n 0, 1) := by decide +kernel
theorem dX6_put_57 : decode cX6_put 57 = .ok (.iload_n 2, 1) := by decide +kernel
theorem dX6_put_58 : decode cX6_put 58 = .ok (.putfield 9, 3) := by decide +kernel
theorem dX6_put_61 : decode cX6_put 61 = .ok (.goto 29, 3) := by decide +kernel
theorem dX6_put_64 : decode cX6_put 64 = .ok (.aload_n 0, 1) := by decide +kernel
theorem dX6_put_65 : decode cX6_put 65 = .ok (.iload_n 2, 1) := by decide +kernel
theorem dX6_put_66 : decode cX6_put 66 = .ok (.putfield 15, 3) := by decide +kernel
theorem dX6_put_69 : decode cX6_put 69 = .ok (.goto 21, 3) := by decide +kernel
theorem dX6_put_72 : decode cX6_put 72 = .ok (.aload_n 0, 1) := by decide +kernel
theorem dX6_put_73 : decode cX6_put 73 = .ok (.iload_n 2, 1) := by decide +kernel
theorem dX6_put_74 : decode cX6_put 74 = .ok (.iconst 2, 1) := by decide +kernel
theorem dX6_put_75 : decode cX6_put 75 = .ok (.isub, 1) := by decide +kernel
theorem dX6_put_76 : decode cX6_put 76 = .ok (.putfield 27, 3) := by decide +kernel
theorem dX6_put_79 : decode cX6_put 79 = .ok (.goto 11, 3) := by decide +kernel
theorem dX6_put_82 : decode cX6_put 82 = .ok (.aload_n 0, 1) := by decide +kernel
theorem dX6_put_83 : decode cX6_put 83 = .ok (.iload_n 2, 1) := by decide +kernel
theorem dX6_put_84 : decode cX6_put 84 = .ok (.putfield 18, 3) := by decide +kernel
theorem dX6_put_87 : decode cX6_put 87 = .ok (.goto 3, 3) := by decide +kernel
theorem dX6_put_90 : decode cX6_put 90 = .ok (.return_, 1) := by decide +kernel
theorem dX6_hears_0 : decode cX6_hears 0 = .ok (.aload_n 0, 1) := by decide +kernel
theorem dX6_hears_1 : decode cX6_hears 1 = .ok (.getfield 21, 3) := by decide +kernel
theorem dX6_hears_4 : decode cX6_hears 4 = .ok (.iload_n 1, 1) := by decide +kernel
theorem dX6_hears_5 : decode cX6_hears 5 = .ok (.invokestatic 36, 3) := by decide +kernel
theorem dX6_hears_8 : decode cX6_hears 8 = .ok (.aload_n 0, 1) := by decide +kernel
theorem dX6_hears_9 : decode cX6_hears 9 = .ok (.getfield 18, 3) := by decide +kernel
theorem dX6_hears_12 : decode cX6_hears 12 = .ok (.if_icmp .gt 7, 3) := by decide +kernel
theorem dX6_hears_15 : decode cX6_hears 15 = .ok (.iconst 1, 1) := by decide +kernel
theorem dX6_hears_16 : decode cX6_hears 16 = .ok (.goto 4, 3) := by decide +kernel
theorem dX6_hears_19 : decode cX6_hears 19 = .ok (.iconst 0, 1) := by decide +kernel
theorem dX6_hears_20 : decode cX6_hears 20 = .ok (.ireturn, 1) := by decide +kernel
theorem dX6_turn_0 : decode cX6_turn 0 = .ok (.aload_n 0, 1) := by decide +kernel
theorem dX6_turn_1 : decode cX6_turn 1 = .ok (.aload_n 0, 1) := by decide +kernel
theorem dX6_turn_2 : decode cX6_turn 2 = .ok (.getfield 24, 3) := by decide +kernel
theorem dX6_turn_5 : decode cX6_turn 5 = .ok (.iload_n 1, 1) := by decide +kernel
theorem dX6_turn_6 : decode cX6_turn 6 = .ok (.iadd, 1) := by decide +kernel
theorem dX6_turn_7 : decode cX6_turn 7 = .ok (.aload_n 0, 1) := by decide +kernel
theorem dX6_turn_8 : decode cX6_turn 8 = .ok (.getfield 27, 3) := by decide +kernel
theorem dX6_turn_11 : decode cX6_turn 11 = .ok (.iadd, 1) := by decide +kernel
theorem dX6_turn_12 : decode cX6_turn 12 = .ok (.bipush 8, 2) := by decide +kernel
theorem dX6_turn_14 : decode cX6_turn 14 = .ok (.invokestatic 40, 3) := by decide +kernel
theorem dX6_turn_17 : decode cX6_turn 17 = .ok (.putfield 24, 3) := by decide +kernel
theorem dX6_turn_20 : decode cX6_turn 20 = .ok (.return_, 1) := by decide +kernel
theorem dX6_turnTo_0 : decode cX6_turnTo 0 = .ok (.iload_n 1, 1) := by decide +kernel
theorem dX6_turnTo_1 : decode cX6_turnTo 1 = .ok (.aload_n 0, 1) := by decide +kernel
theorem dX6_turnTo_2 : decode cX6_turnTo 2 = .ok (.getfield 21, 3) := by decide +kernel
theorem dX6_turnTo_5 : decode cX6_turnTo 5 = .ok (.if_icmp .eq 25, 3) := by decide +kernel
theorem dX6_turnTo_8 : decode cX6_turnTo 8 = .ok (.aload_n 0, 1) := by decide +kernel
theorem dX6_turnTo_9 : decode cX6_turnTo 9 = .ok (.aload_n 0, 1) := by decide +kernel
theorem dX6_turnTo_10 : decode cX6_turnTo 10 = .ok (.getfield 21, 3) := by decide +kernel
theorem dX6_turnTo_13 : decode cX6_turnTo 13 = .ok (.iload_n 1, 1) := by decide +kernel
theorem dX6_turnTo_14 : decode cX6_turnTo 14 = .ok (.invokestatic 45, 3) := by decide +kernel
theorem dX6_turnTo_17 : decode cX6_turnTo 17 = .ok (.aload_n 0, 1) := by decide +kernel
theorem dX6_turnTo_18 : decode cX6_turnTo 18 = .ok (.getfield 27, 3) := by decide +kernel
theorem dX6_turnTo_21 : decode cX6_turnTo 21 = .ok (.iadd, 1) := by decide +kernel
theorem dX6_turnTo_22 : decode cX6_turnTo 22 = .ok (.bipush 8, 2) := by decide +kernel
theorem dX6_turnTo_24 : decode cX6_turnTo 24 = .ok (.invokestatic 40, 3) := by decide +kernel
theorem dX6_turnTo_27 : decode cX6_turnTo 27 = .ok (.putfield 24, 3) := by decide +kernel
theorem dX6_turnTo_30 : decode cX6_turnTo 30 = .ok (.return_, 1) := by decide +kernel
theorem dX6_walk_0 : decode cX6_walk 0 = .ok (.iconst 0, 1) := by decide +kernel
theorem dX6_walk_1 : decode cX6_walk 1 = .ok (.istore_n 3, 1) := by decide +kernel
theorem dX6_walk_2 : decode cX6_walk 2 = .ok (.iload_n 3, 1) := by decide +kernel
theorem dX6_walk_3 : decode cX6_walk 3 = .ok (.iload_n 1, 1) := by decide +kernel
theorem dX6_walk_4 : decode cX6_walk 4 = .ok (.if_icmp .ge 91, 3) := by decide +kernel
theorem dX6_walk_7 : decode cX6_walk 7 = .ok (.aload_n 0, 1) := by decide +kernel
theorem dX6_walk_8 : decode cX6_walk 8 = .ok (.getfield 21, 3) := by decide +kernel
theorem dX6_walk_11 : decode cX6_walk 11 = .ok (.aload_n 0, 1) := by decide +kernel
theorem dX6_walk_12 : decode cX6_walk 12 = .ok (.getfield 24, 3) := by decide +kernel
theorem dX6_walk_15 : decode cX6_walk 15 = .ok (.invokestatic 48, 3) := by decide +kernel
theorem dX6_walk_18 : decode cX6_walk 18 = .ok (.istore 4, 2) := by decide +kernel
theorem dX6_walk_20 : decode cX6_walk 20 = .ok (.iload 4, 2) := by decide +kernel
theorem dX6_walk_22 : decode cX6_walk 22 = .ok (.bipush (-6), 2) := by decide +kernel
theorem dX6_walk_24 : decode cX6_walk 24 = .ok (.if_icmp .ne 16, 3) := by decide +kernel
theorem dX6_walk_27 : decode cX6_walk 27 = .ok (.aload_n 0, 1) := by decide +kernel
theorem dX6_walk_28 : decode cX6_walk 28 = .ok (.dup, 1) := by decide +kernel
theorem dX6_walk_29 : decode cX6_walk 29 = .ok (.getfield 33, 3) := by decide +kernel
theorem dX6_walk_32 : decode cX6_walk 32 = .ok (.iload_n 1, 1) := by decide +kernel
theorem dX6_walk_33 : decode cX6_walk 33 = .ok (.iload_n 3, 1) := by decide +kernel
theorem dX6_walk_34 : decode cX6_walk 34 = .ok (.isub, 1) := by decide +kernel
theorem dX6_walk_35 : decode cX6_walk 35 = .ok (.iadd, 1) := by decide +kernel
theorem dX6_walk_36 : decode cX6_walk 36 = .ok (.putfield 33, 3) := by decide +kernel
theorem dX6_walk_39 : decode cX6_walk 39 = .ok (.return_, 1) := by decide +kernel
theorem dX6_walk_40 : decode cX6_walk 40 = .ok (.aload_n 0, 1) := by decide +kernel
theorem dX6_walk_41 : decode cX6_walk 41 = .ok (.iload 4, 2) := by decide +kernel
theorem dX6_walk_43 : decode cX6_walk 43 = .ok (.putfield 21, 3) := by decide +kernel
theorem dX6_walk_46 : decode cX6_walk 46 = .ok (.aload_n 0, 1) := by decide +kernel
theorem dX6_walk_47 : decode cX6_walk 47 = .ok (.dup, 1) := by decide +kernel
theorem dX6_walk_48 : decode cX6_walk 48 = .ok (.getfield 30, 3) := by decide +kernel
theorem dX6_walk_51 : decode cX6_walk 51 = .ok (.iconst 1, 1) := by decide +kernel
theorem dX6_walk_52 : decode cX6_walk 52 = .ok (.iadd, 1) := by decide +kernel
theorem dX6_walk_53 : decode cX6_walk 53 = .ok (.putfield 30, 3) := by decide +kernel
theorem dX6_walk_56 : decode cX6_walk 56 = .ok (.aload_n 2, 1) := by decide +kernel
theorem dX6_walk_57 : decode cX6_walk 57 = .ok (.ifnull 32, 3) := by decide +kernel
theorem dX6_walk_60 : decode cX6_walk 60 = .ok (.aload_n 0, 1) := by decide +kernel
theorem dX6_walk_61 : decode cX6_walk 61 = .ok (.getfield 15, 3) := by decide +kernel
theorem dX6_walk_64 : decode cX6_walk 64 = .ok (.ifCond .le 25, 3) := by decide +kernel
theorem dX6_walk_67 : decode cX6_walk 67 = .ok (.aload_n 0, 1) := by decide +kernel
theorem dX6_walk_68 : decode cX6_walk 68 = .ok (.dup, 1) := by decide +kernel
theorem dX6_walk_69 : decode cX6_walk 69 = .ok (.getfield 15, 3) := by decide +kernel
theorem dX6_walk_72 : decode cX6_walk 72 = .ok (.iconst 1, 1) := by decide +kernel
theorem dX6_walk_73 : decode cX6_walk 73 = .ok (.isub, 1) := by decide +kernel
theorem dX6_walk_74 : decode cX6_walk 74 = .ok (.putfield 15, 3) := by decide +kernel
theorem dX6_walk_77 : decode cX6_walk 77 = .ok (.aload_n 2, 1) := by decide +kernel
theorem dX6_walk_78 : decode cX6_walk 78 = .ok (.aload_n 0, 1) := by decide +kernel
theorem dX6_walk_79 : decode cX6_walk 79 = .ok (.getfield 21, 3) := by decide +kernel
theorem dX6_walk_82 : decode cX6_walk 82 = .ok (.aload_n 0, 1) := by decide +kernel
theorem dX6_walk_83 : decode cX6_walk 83 = .ok (.getfield 9, 3) := by decide +kernel
theorem dX6_walk_86 : decode cX6_walk 86 = .ok (.invokevirtual 51, 3) := by decide +kernel
theorem dX6_walk_89 : decode cX6_walk 89 = .ok (.iinc 3 1, 3) := by decide +kernel
theorem dX6_walk_92 : decode cX6_walk 92 = .ok (.goto (-90), 3) := by decide +kernel
theorem dX6_walk_95 : decode cX6_walk 95 = .ok (.return_, 1) := by decide +kernel
theorem dX6_turnsToFace_0 : decode cX6_turnsToFace 0 = .ok (.iconst 0, 1) := by decide +kernel
theorem dX6_turnsToFace_1 : decode cX6_turnsToFace 1 = .ok (.istore_n 2, 1) := by decide +kernel
theorem dX6_turnsToFace_2 : decode cX6_turnsToFace 2 = .ok (.iload_n 2, 1) := by decide +kernel
theorem dX6_turnsToFace_3 : decode cX6_turnsToFace 3 = .ok (.bipush 8, 2) := by decide +kernel
theorem dX6_turnsToFace_5 : decode cX6_turnsToFace 5 = .ok (.if_icmp .ge 54, 3) := by decide +kernel
theorem dX6_turnsToFace_8 : decode cX6_turnsToFace 8 = .ok (.iconst 0, 1) := by decide +kernel
theorem dX6_turnsToFace_9 : decode cX6_turnsToFace 9 = .ok (.istore_n 3, 1) := by decide +kernel
theorem dX6_turnsToFace_10 : decode cX6_turnsToFace 10 = .ok (.iload_n 3, 1) := by decide +kernel
theorem dX6_turnsToFace_11 : decode cX6_turnsToFace 11 = .ok (.iload_n 2, 1) := by decide +kernel
theorem dX6_turnsToFace_12 : decode cX6_turnsToFace 12 = .ok (.if_icmp .gt 41, 3) := by decide +kernel
theorem dX6_turnsToFace_15 : decode cX6_turnsToFace 15 = .ok (.iload_n 2, 1) := by decide +kernel
theorem dX6_turnsToFace_16 : decode cX6_turnsToFace 16 = .ok (.iload_n 3, 1) := by decide +kernel
theorem dX6_turnsToFace_17 : decode cX6_turnsToFace 17 = .ok (.isub, 1) := by decide +kernel
theorem dX6_turnsToFace_18 : decode cX6_turnsToFace 18 = .ok (.istore 4, 2) := by decide +kernel
theorem dX6_turnsToFace_20 : decode cX6_turnsToFace 20 = .ok (.aload_n 0, 1) := by decide +kernel
theorem dX6_turnsToFace_21 : decode cX6_turnsToFace 21 = .ok (.getfield 24, 3) := by decide +kernel
theorem dX6_turnsToFace_24 : decode cX6_turnsToFace 24 = .ok (.iload_n 3, 1) := by decide +kernel
theorem dX6_turnsToFace_25 : decode cX6_turnsToFace 25 = .ok (.iadd, 1) := by decide +kernel
theorem dX6_turnsToFace_26 : decode cX6_turnsToFace 26 = .ok (.iload 4, 2) := by decide +kernel
theorem dX6_turnsToFace_28 : decode cX6_turnsToFace 28 = .ok (.isub, 1) := by decide +kernel
theorem dX6_turnsToFace_29 : decode cX6_turnsToFace 29 = .ok (.iload_n 2, 1) := by decide +kernel
theorem dX6_turnsToFace_30 : decode cX6_turnsToFace 30 = .ok (.aload_n 0, 1) := by decide +kernel
theorem dX6_turnsToFace_31 : decode cX6_turnsToFace 31 = .ok (.getfield 27, 3) := by decide +kernel
theorem dX6_turnsToFace_34 : decode cX6_turnsToFace 34 = .ok (.imul, 1) := by decide +kernel
theorem dX6_turnsToFace_35 : decode cX6_turnsToFace 35 = .ok (.iadd, 1) := by decide +kernel
theorem dX6_turnsToFace_36 : decode cX6_turnsToFace 36 = .ok (.bipush 8, 2) := by decide +kernel
theorem dX6_turnsToFace_38 : decode cX6_turnsToFace 38 = .ok (.invokestatic 40, 3) := by decide +kernel
theorem dX6_turnsToFace_41 : decode cX6_turnsToFace 41 = .ok (.iload_n 1, 1) := by decide +kernel
theorem dX6_turnsToFace_42 : decode cX6_turnsToFace 42 = .ok (.if_icmp .ne 5, 3) := by decide +kernel
theorem dX6_turnsToFace_45 : decode cX6_turnsToFace 45 = .ok (.iload_n 2, 1) := by decide +kernel
theorem dX6_turnsToFace_46 : decode cX6_turnsToFace 46 = .ok (.ireturn, 1) := by decide +kernel
theorem dX6_turnsToFace_47 : decode cX6_turnsToFace 47 = .ok (.iinc 3 1, 3) := by decide +kernel
theorem dX6_turnsToFace_50 : decode cX6_turnsToFace 50 = .ok (.goto (-40), 3) := by decide +kernel
theorem dX6_turnsToFace_53 : decode cX6_turnsToFace 53 = .ok (.iinc 2 1, 3) := by decide +kernel
theorem dX6_turnsToFace_56 : decode cX6_turnsToFace 56 = .ok (.goto (-54), 3) := by decide +kernel
theorem dX6_turnsToFace_59 : decode cX6_turnsToFace 59 = .ok (.bipush (-6), 2) := by decide +kernel
theorem dX6_turnsToFace_61 : decode cX6_turnsToFace 61 = .ok (.ireturn, 1) := by decide +kernel
theorem dX7_init_0 : decode cX7_init 0 = .ok (.aload_n 0, 1) := by decide +kernel
theorem dX7_init_1 : decode cX7_init 1 = .ok (.invokespecial 3, 3) := by decide +kernel
theorem dX7_init_4 : decode cX7_init 4 = .ok (.return_, 1) := by decide +kernel
theorem dX7_take_0 : decode cX7_take 0 = .ok (.aload_n 0, 1) := by decide +kernel
theorem dX7_take_1 : decode cX7_take 1 = .ok (.getfield 9, 3) := by decide +kernel
theorem dX7_take_4 : decode cX7_take 4 = .ok (.ifnull 36, 3) := by decide +kernel
theorem dX7_take_7 : decode cX7_take 7 = .ok (.iload_n 1, 1) := by decide +kernel
theorem dX7_take_8 : decode cX7_take 8 = .ok (.ifCond .lt 32, 3) := by decide +kernel
theorem dX7_take_11 : decode cX7_take 11 = .ok (.iload_n 1, 1) := by decide +kernel
theorem dX7_take_12 : decode cX7_take 12 = .ok (.bipush 64, 2) := by decide +kernel
theorem dX7_take_14 : decode cX7_take 14 = .ok (.if_icmp .ge 26, 3) := by decide +kernel
theorem dX7_take_17 : decode cX7_take 17 = .ok (.aload_n 0, 1) := by decide +kernel
theorem dX7_take_18 : decode cX7_take 18 = .ok (.getfield 9, 3) := by decide +kernel
theorem dX7_take_21 : decode cX7_take 21 = .ok (.getfield 15, 3) := by decide +kernel
theorem dX7_take_24 : decode cX7_take 24 = .ok (.iload_n 1, 1) := by decide +kernel
theorem dX7_take_25 : decode cX7_take 25 = .ok (.iaload, 1) := by decide +kernel
theorem dX7_take_26 : decode cX7_take 26 = .ok (.iload_n 2, 1) := by decide +kernel
theorem dX7_take_27 : decode cX7_take 27 = .ok (.if_icmp .eq 13, 3) := by decide +kernel
theorem dX7_take_30 : decode cX7_take 30 = .ok (.aload_n 0, 1) := by decide +kernel
theorem dX7_take_31 : decode cX7_take 31 = .ok (.dup, 1) := by decide +kernel
theorem dX7_take_32 : decode cX7_take 32 = .ok (.getfield 21, 3) := by decide +kernel
theorem dX7_take_35 : decode cX7_take 35 = .ok (.iconst 1, 1) := by decide +kernel
theorem dX7_take_36 : decode cX7_take 36 = .ok (.iadd, 1) := by decide +kernel
theorem dX7_take_37 : decode cX7_take 37 = .ok (.putfield 21, 3) := by decide +kernel
theorem dX7_take_40 : decode cX7_take 40 = .ok (.return_, 1) := by decide +kernel
theorem dX8_init_0 : decode cX8_init 0 = .ok (.aload_n 0, 1) := by decide +kernel
theorem dX8_init_1 : decode cX8_init 1 = .ok (.invokespecial 3, 3) := by decide +kernel
theorem dX8_init_4 : decode cX8_init 4 = .ok (.return_, 1) := by decide +kernel
theorem dX8_go_0 : decode cX8_go 0 = .ok (.aload_n 0, 1) := by decide +kernel
theorem dX8_go_1 : decode cX8_go 1 = .ok (.bipush (-6), 2) := by decide +kernel
theorem dX8_go_3 : decode cX8_go 3 = .ok (.putfield 9, 3) := by decide +kernel
theorem dX8_go_6 : decode cX8_go 6 = .ok (.aload_n 0, 1) := by decide +kernel
theorem dX8_go_7 : decode cX8_go 7 = .ok (.bipush (-6), 2) := by decide +kernel
theorem dX8_go_9 : decode cX8_go 9 = .ok (.putfield 15, 3) := by decide +kernel
theorem dX8_go_12 : decode cX8_go 12 = .ok (.aload_n 0, 1) := by decide +kernel
theorem dX8_go_13 : decode cX8_go 13 = .ok (.iconst 0, 1) := by decide +kernel
theorem dX8_go_14 : decode cX8_go 14 = .ok (.putfield 18, 3) := by decide +kernel
theorem dX8_go_17 : decode cX8_go 17 = .ok (.iload_n 2, 1) := by decide +kernel
theorem dX8_go_18 : decode cX8_go 18 = .ok (.istore 4, 2) := by decide +kernel
theorem dX8_go_20 : decode cX8_go 20 = .ok (.iconst 0, 1) := by decide +kernel
theorem dX8_go_21 : decode cX8_go 21 = .ok (.istore 5, 2) := by decide +kernel
theorem dX8_go_23 : decode cX8_go 23 = .ok (.iload 5, 2) := by decide +kernel
theorem dX8_go_25 : decode cX8_go 25 = .ok (.bipush 8, 2) := by decide +kernel
theorem dX8_go_27 : decode cX8_go 27 = .ok (.if_icmp .ge 72, 3) := by decide +kernel
theorem dX8_go_30 : decode cX8_go 30 = .ok (.iload 4, 2) := by decide +kernel
theorem dX8_go_32 : decode cX8_go 32 = .ok (.bipush (-6), 2) := by decide +kernel
theorem dX8_go_34 : decode cX8_go 34 = .ok (.if_icmp .eq 65, 3) := by decide +kernel
theorem dX8_go_37 : decode cX8_go 37 = .ok (.aload_n 0, 1) := by decide +kernel
theorem dX8_go_38 : decode cX8_go 38 = .ok (.aload_n 1, 1) := by decide +kernel
theorem dX8_go_39 : decode cX8_go 39 = .ok (.getfield 21, 3) := by decide +kernel
theorem dX8_go_42 : decode cX8_go 42 = .ok (.iload 4, 2) := by decide +kernel
theorem dX8_go_44 : decode cX8_go 44 = .ok (.invokevirtual 27, 3) := by decide +kernel
theorem dX8_go_47 : decode cX8_go 47 = .ok (.putfield 15, 3) := by decide +kernel
theorem dX8_go_50 : decode cX8_go 50 = .ok (.aload_n 0, 1) := by decide +kernel
theorem dX8_go_51 : decode cX8_go 51 = .ok (.getfield 15, 3) := by decide +kernel
theorem dX8_go_54 : decode cX8_go 54 = .ok (.bipush (-6), 2) := by decide +kernel
theorem dX8_go_56 : decode cX8_go 56 = .ok (.if_icmp .eq 10, 3) := by decide +kernel
theorem dX8_go_59 : decode cX8_go 59 = .ok (.aload_n 0, 1) := by decide +kernel
theorem dX8_go_60 : decode cX8_go 60 = .ok (.iload 5, 2) := by decide +kernel
theorem dX8_go_62 : decode cX8_go 62 = .ok (.putfield 9, 3) := by decide +kernel
theorem dX8_go_65 : decode cX8_go 65 = .ok (.return_, 1) := by decide +kernel
theorem dX8_go_66 : decode cX8_go 66 = .ok (.aload_n 0, 1) := by decide +kernel
theorem dX8_go_67 : decode cX8_go 67 = .ok (.dup, 1) := by decide +kernel
theorem dX8_go_68 : decode cX8_go 68 = .ok (.getfield 18, 3) := by decide +kernel
theorem dX8_go_71 : decode cX8_go 71 = .ok (.aload_n 1, 1) := by decide +kernel
theorem dX8_go_72 : decode cX8_go 72 = .ok (.getfield 33, 3) := by decide +kernel
theorem dX8_go_75 : decode cX8_go 75 = .ok (.iload 4, 2) := by decide +kernel
theorem dX8_go_77 : decode cX8_go 77 = .ok (.iconst (-1), 1) := by decide +kernel
theorem dX8_go_78 : decode cX8_go 78 = .ok (.invokevirtual 37, 3) := by decide +kernel
theorem dX8_go_81 : decode cX8_go 81 = .ok (.iadd, 1) := by decide +kernel
theorem dX8_go_82 : decode cX8_go 82 = .ok (.putfield 18, 3) := by decide +kernel
theorem dX8_go_85 : decode cX8_go 85 = .ok (.iload 4, 2) := by decide +kernel
theorem dX8_go_87 : decode cX8_go 87 = .ok (.iload_n 3, 1) := by decide +kernel
theorem dX8_go_88 : decode cX8_go 88 = .ok (.invokestatic 43, 3) := by decide +kernel
theorem dX8_go_91 : decode cX8_go 91 = .ok (.istore 4, 2) := by decide +kernel
theorem dX8_go_93 : decode cX8_go 93 = .ok (.iinc 5 1, 3) := by decide +kernel
theorem dX8_go_96 : decode cX8_go 96 = .ok (.goto (-73), 3) := by decide +kernel
theorem dX8_go_99 : decode cX8_go 99 = .ok (.return_, 1) := by decide +kernel
theorem dX9_init_0 : decode cX9_init 0 = .ok (.aload_n 0, 1) := by decide +kernel
theorem dX9_init_1 : decode cX9_init 1 = .ok (.invokespecial 3, 3) := by decide +kernel
theorem dX9_init_4 : decode cX9_init 4 = .ok (.aload_n 0, 1) := by decide +kernel
theorem dX9_init_5 : decode cX9_init 5 = .ok (.bipush 72, 2) := by decide +kernel
theorem dX9_init_7 : decode cX9_init 7 = .ok (.newarray .int, 2) := by decide +kernel
theorem dX9_init_9 : decode cX9_init 9 = .ok (.putfield 9, 3) := by decide +kernel
theorem dX9_init_12 : decode cX9_init 12 = .ok (.aload_n 0, 1) := by decide +kernel
theorem dX9_init_13 : decode cX9_init 13 = .ok (.bipush 72, 2) := by decide +kernel
theorem dX9_init_15 : decode cX9_init 15 = .ok (.newarray .int, 2) := by decide +kernel
theorem dX9_init_17 : decode cX9_init 17 = .ok (.putfield 15, 3) := by decide +kernel
theorem dX9_init_20 : decode cX9_init 20 = .ok (.return_, 1) := by decide +kernel
theorem dX9_cellsOf_0 : decode cX9_cellsOf 0 = .ok (.iconst 0, 1) := by decide +kernel
theorem dX9_cellsOf_1 : decode cX9_cellsOf 1 = .ok (.istore 4, 2) := by decide +kernel
theorem dX9_cellsOf_3 : decode cX9_cellsOf 3 = .ok (.iconst 0, 1) := by decide +kernel
theorem dX9_cellsOf_4 : decode cX9_cellsOf 4 = .ok (.istore 5, 2) := by decide +kernel
theorem dX9_cellsOf_6 : decode cX9_cellsOf 6 = .ok (.aload_n 0, 1) := by decide +kernel
theorem dX9_cellsOf_7 : decode cX9_cellsOf 7 = .ok (.iconst 0, 1) := by decide +kernel
theorem dX9_cellsOf_8 : decode cX9_cellsOf 8 = .ok (.putfield 18, 3) := by decide +kernel
theorem dX9_cellsOf_11 : decode cX9_cellsOf 11 = .ok (.iconst 0, 1) := by decide +kernel
theorem dX9_cellsOf_12 : decode cX9_cellsOf 12 = .ok (.istore 6, 2) := by decide +kernel
theorem dX9_cellsOf_14 : decode cX9_cellsOf 14 = .ok (.iload 6, 2) := by decide +kernel
theorem dX9_cellsOf_16 : decode cX9_cellsOf 16 = .ok (.iload_n 3, 1) := by decide +kernel
theorem dX9_cellsOf_17 : decode cX9_cellsOf 17 = .ok (.if_icmp .ge 65, 3) := by decide +kernel
theorem dX9_cellsOf_20 : decode cX9_cellsOf 20 = .ok (.iload 6, 2) := by decide +kernel
theorem dX9_cellsOf_22 : decode cX9_cellsOf 22 = .ok (.iload_n 2, 1) := by decide +kernel
theorem dX9_cellsOf_23 : decode cX9_cellsOf 23 = .ok (.imul, 1) := by decide +kernel
theorem dX9_cellsOf_24 : decode cX9_cellsOf 24 = .ok (.bipush 8, 2) := by decide +kernel
theorem dX9_cellsOf_26 : decode cX9_cellsOf 26 = .ok (.invokestatic 22, 3) := by decide +kernel
theorem dX9_cellsOf_29 : decode cX9_cellsOf 29 = .ok (.istore 7, 2) := by decide +kernel
theorem dX9_cellsOf_31 : decode cX9_cellsOf 31 = .ok (.iconst 0, 1) := by decide +kernel
theorem dX9_cellsOf_32 : decode cX9_cellsOf 32 = .ok (.istore 8, 2) := by decide +kernel
theorem dX9_cellsOf_34 : decode cX9_cellsOf 34 = .ok (.iload 8, 2) := by decide +kernel
theorem dX9_cellsOf_36 : decode cX9_cellsOf 36 = .ok (.iload_n 1, 1) := by decide +kernel
theorem dX9_cellsOf_37 : decode cX9_cellsOf 37 = .ok (.if_icmp .ge 39, 3) := by decide +kernel
theorem dX9_cellsOf_40 : decode cX9_cellsOf 40 = .ok (.iload 4, 2) := by decide +kernel
theorem dX9_cellsOf_42 : decode cX9_cellsOf 42 = .ok (.getstatic 28, 3) := by decide +kernel
theorem dX9_cellsOf_45 : decode cX9_cellsOf 45 = .ok (.iload 7, 2) := by decide +kernel
theorem dX9_cellsOf_47 : decode cX9_cellsOf 47 = .ok (.iaload, 1) := by decide +kernel
theorem dX9_cellsOf_48 : decode cX9_cellsOf 48 = .ok (.iadd, 1) := by decide +kernel
theorem dX9_cellsOf_49 : decode cX9_cellsOf 49 = .ok (.istore 4, 2) := by decide +kernel
theorem dX9_cellsOf_51 : decode cX9_cellsOf 51 = .ok (.iload 5, 2) := by decide +kernel
theorem dX9_cellsOf_53 : decode cX9_cellsOf 53 = .ok (.getstatic 31, 3) := by decide +kernel
theorem dX9_cellsOf_56 : decode cX9_cellsOf 56 = .ok (.iload 7, 2) := by decide +kernel
theorem dX9_cellsOf_58 : decode cX9_cellsOf 58 = .ok (.iaload, 1) := by decide +kernel
theorem dX9_cellsOf_59 : decode cX9_cellsOf 59 = .ok (.iadd, 1) := by decide +kernel
theorem dX9_cellsOf_60 : decode cX9_cellsOf 60 = .ok (.istore 5, 2) := by decide +kernel
theorem dX9_cellsOf_62 : decode cX9_cellsOf 62 = .ok (.aload_n 0, 1) := by decide +kernel
theorem dX9_cellsOf_63 : decode cX9_cellsOf 63 = .ok (.iload 4, 2) := by decide +kernel
theorem dX9_cellsOf_65 : decode cX9_cellsOf 65 = .ok (.iload 5, 2) := by decide +kernel
theorem dX9_cellsOf_67 : decode cX9_cellsOf 67 = .ok (.invokevirtual 34, 3) := by decide +kernel
theorem dX9_cellsOf_70 : decode cX9_cellsOf 70 = .ok (.iinc 8 1, 3) := by decide +kernel
theorem dX9_cellsOf_73 : decode cX9_cellsOf 73 = .ok (.goto (-39), 3) := by decide +kernel
theorem dX9_cellsOf_76 : decode cX9_cellsOf 76 = .ok (.iinc 6 1, 3) := by decide +kernel
theorem dX9_cellsOf_79 : decode cX9_cellsOf 79 = .ok (.goto (-65), 3) := by decide +kernel
theorem dX9_cellsOf_82 : decode cX9_cellsOf 82 = .ok (.aload_n 0, 1) := by decide +kernel
theorem dX9_cellsOf_83 : decode cX9_cellsOf 83 = .ok (.getfield 18, 3) := by decide +kernel
theorem dX9_cellsOf_86 : decode cX9_cellsOf 86 = .ok (.ireturn, 1) := by decide +kernel
theorem dX9_visit_0 : decode cX9_visit 0 = .ok (.iconst 0, 1) := by decide +kernel
theorem dX9_visit_1 : decode cX9_visit 1 = .ok (.istore_n 3, 1) := by decide +kernel
theorem dX9_visit_2 : decode cX9_visit 2 = .ok (.iload_n 3, 1) := by decide +kernel
theorem dX9_visit_3 : decode cX9_visit 3 = .ok (.aload_n 0, 1) := by decide +kernel
theorem dX9_visit_4 : decode cX9_visit 4 = .ok (.getfield 18, 3) := by decide +kernel
theorem dX9_visit_7 : decode cX9_visit 7 = .ok (.if_icmp .ge 30, 3) := by decide +kernel
theorem dX9_visit_10 : decode cX9_visit 10 = .ok (.aload_n 0, 1) := by decide +kernel
theorem dX9_visit_11 : decode cX9_visit 11 = .ok (.getfield 9, 3) := by decide +kernel
theorem dX9_visit_14 : decode cX9_visit 14 = .ok (.iload_n 3, 1) := by decide +kernel
theorem dX9_visit_15 : decode cX9_visit 15 = .ok (.iaload, 1) := by decide +kernel
theorem dX9_visit_16 : decode cX9_visit 16 = .ok (.iload_n 1, 1) := by decide +kernel
theorem dX9_visit_17 : decode cX9_visit 17 = .ok (.if_icmp .ne 14, 3) := by decide +kernel
theorem dX9_visit_20 : decode cX9_visit 20 = .ok (.aload_n 0, 1) := by decide +kernel
theorem dX9_visit_21 : decode cX9_visit 21 = .ok (.getfield 15, 3) := by decide +kernel
theorem dX9_visit_24 : decode cX9_visit 24 = .ok (.iload_n 3, 1) := by decide +kernel
theorem dX9_visit_25 : decode cX9_visit 25 = .ok (.iaload, 1) := by decide +kernel
theorem dX9_visit_26 : decode cX9_visit 26 = .ok (.iload_n 2, 1) := by decide +kernel
theorem dX9_visit_27 : decode cX9_visit 27 = .ok (.if_icmp .ne 4, 3) := by decide +kernel
theorem dX9_visit_30 : decode cX9_visit 30 = .ok (.return_, 1) := by decide +kernel
theorem dX9_visit_31 : decode cX9_visit 31 = .ok (.iinc 3 1, 3) := by decide +kernel
theorem dX9_visit_34 : decode cX9_visit 34 = .ok (.goto (-32), 3) := by decide +kernel
theorem dX9_visit_37 : decode cX9_visit 37 = .ok (.aload_n 0, 1) := by decide +kernel
theorem dX9_visit_38 : decode cX9_visit 38 = .ok (.getfield 18, 3) := by decide +kernel
theorem dX9_visit_41 : decode cX9_visit 41 = .ok (.bipush 72, 2) := by decide +kernel
theorem dX9_visit_43 : decode cX9_visit 43 = .ok (.if_icmp .ge 33, 3) := by decide +kernel
theorem dX9_visit_46 : decode cX9_visit 46 = .ok (.aload_n 0, 1) := by decide +kernel
theorem dX9_visit_47 : decode cX9_visit 47 = .ok (.getfield 9, 3) := by decide +kernel
theorem dX9_visit_50 : decode cX9_visit 50 = .ok (.aload_n 0, 1) := by decide +kernel
theorem dX9_visit_51 : decode cX9_visit 51 = .ok (.getfield 18, 3) := by decide +kernel
theorem dX9_visit_54 : decode cX9_visit 54 = .ok (.iload_n 1, 1) := by decide +kernel
theorem dX9_visit_55 : decode cX9_visit 55 = .ok (.iastore, 1) := by decide +kernel
theorem dX9_visit_56 : decode cX9_visit 56 = .ok (.aload_n 0, 1) := by decide +kernel
theorem dX9_visit_57 : decode cX9_visit 57 = .ok (.getfield 15, 3) := by decide +kernel
theorem dX9_visit_60 : decode cX9_visit 60 = .ok (.aload_n 0, 1) := by decide +kernel
theorem dX9_visit_61 : decode cX9_visit 61 = .ok (.getfield 18, 3) := by decide +kernel
theorem dX9_visit_64 : decode cX9_visit 64 = .ok (.iload_n 2, 1) := by decide +kernel
theorem dX9_visit_65 : decode cX9_visit 65 = .ok (.iastore, 1) := by decide +kernel
theorem dX9_visit_66 : decode cX9_visit 66 = .ok (.aload_n 0, 1) := by decide +kernel
theorem dX9_visit_67 : decode cX9_visit 67 = .ok (.dup, 1) := by decide +kernel
theorem dX9_visit_68 : decode cX9_visit 68 = .ok (.getfield 18, 3) := by decide +kernel
theorem dX9_visit_71 : decode cX9_visit 71 = .ok (.iconst 1, 1) := by decide +kernel
theorem dX9_visit_72 : decode cX9_visit 72 = .ok (.iadd, 1) := by decide +kernel
theorem dX9_visit_73 : decode cX9_visit 73 = .ok (.putfield 18, 3) := by decide +kernel
theorem dX9_visit_76 : decode cX9_visit 76 = .ok (.return_, 1) := by decide +kernel
theorem dX10_init_0 : decode cX10_init 0 = .ok (.aload_n 0, 1) := by decide +kernel
theorem dX10_init_1 : decode cX10_init 1 = .ok (.invokespecial 1, 3) := by decide +kernel
theorem dX10_init_4 : decode cX10_init 4 = .ok (.aload_n 0, 1) := by decide +kernel
theorem dX10_init_5 : decode cX10_init 5 = .ok (.new 7, 3) := by decide +kernel
theorem dX10_init_8 : decode cX10_init 8 = .ok (.dup, 1) := by decide +kernel
theorem dX10_init_9 : decode cX10_init 9 = .ok (.invokespecial 9, 3) := by decide +kernel
theorem dX10_init_12 : decode cX10_init 12 = .ok (.putfield 10, 3) := by decide +kernel
theorem dX10_init_15 : decode cX10_init 15 = .ok (.aload_n 0, 1) := by decide +kernel
theorem dX10_init_16 : decode cX10_init 16 = .ok (.new 16, 3) := by decide +kernel
theorem dX10_init_19 : decode cX10_init 19 = .ok (.dup, 1) := by decide +kernel
theorem dX10_init_20 : decode cX10_init 20 = .ok (.invokespecial 18, 3) := by decide +kernel
theorem dX10_init_23 : decode cX10_init 23 = .ok (.putfield 19, 3) := by decide +kernel
theorem dX10_init_26 : decode cX10_init 26 = .ok (.aload_n 0, 1) := by decide +kernel
theorem dX10_init_27 : decode cX10_init 27 = .ok (.iconst 2, 1) := by decide +kernel
theorem dX10_init_28 : decode cX10_init 28 = .ok (.anewarray 16, 3) := by decide +kernel
theorem dX10_init_31 : decode cX10_init 31 = .ok (.putfield 23, 3) := by decide +kernel
theorem dX10_init_34 : decode cX10_init 34 = .ok (.iconst 0, 1) := by decide +kernel
theorem dX10_init_35 : decode cX10_init 35 = .ok (.istore_n 1, 1) := by decide +kernel
theorem dX10_init_36 : decode cX10_init 36 = .ok (.iload_n 1, 1) := by decide +kernel
theorem dX10_init_37 : decode cX10_init 37 = .ok (.iconst 2, 1) := by decide +kernel
theorem dX10_init_38 : decode cX10_init 38 = .ok (.if_icmp .ge 22, 3) := by decide +kernel
theorem dX10_init_41 : decode cX10_init 41 = .ok (.aload_n 0, 1) := by decide +kernel
theorem dX10_init_42 : decode cX10_init 42 = .ok (.getfield 23, 3) := by decide +kernel
theorem dX10_init_45 : decode cX10_init 45 = .ok (.iload_n 1, 1) := by decide +kernel
theorem dX10_init_46 : decode cX10_init 46 = .ok (.new 16, 3) := by decide +kernel
theorem dX10_init_49 : decode cX10_init 49 = .ok (.dup, 1) := by decide +kernel
theorem dX10_init_50 : decode cX10_init 50 = .ok (.invokespecial 18, 3) := by decide +kernel
theorem dX10_init_53 : decode cX10_init 53 = .ok (.aastore, 1) := by decide +kernel
theorem dX10_init_54 : decode cX10_init 54 = .ok (.iinc 1 1, 3) := by decide +kernel
theorem dX10_init_57 : decode cX10_init 57 = .ok (.goto (-21), 3) := by decide +kernel
theorem dX10_init_60 : decode cX10_init 60 = .ok (.aload_n 0, 1) := by decide +kernel
theorem dX10_init_61 : decode cX10_init 61 = .ok (.iconst 2, 1) := by decide +kernel
theorem dX10_init_62 : decode cX10_init 62 = .ok (.newarray .boolean, 2) := by decide +kernel
theorem dX10_init_64 : decode cX10_init 64 = .ok (.putfield 27, 3) := by decide +kernel
theorem dX10_init_67 : decode cX10_init 67 = .ok (.aload_n 0, 1) := by decide +kernel
theorem dX10_init_68 : decode cX10_init 68 = .ok (.new 16, 3) := by decide +kernel
theorem dX10_init_71 : decode cX10_init 71 = .ok (.dup, 1) := by decide +kernel
theorem dX10_init_72 : decode cX10_init 72 = .ok (.invokespecial 18, 3) := by decide +kernel
theorem dX10_init_75 : decode cX10_init 75 = .ok (.putfield 31, 3) := by decide +kernel
theorem dX10_init_78 : decode cX10_init 78 = .ok (.aload_n 0, 1) := by decide +kernel
theorem dX10_init_79 : decode cX10_init 79 = .ok (.new 16, 3) := by decide +kernel
theorem dX10_init_82 : decode cX10_init 82 = .ok (.dup, 1) := by decide +kernel
theorem dX10_init_83 : decode cX10_init 83 = .ok (.invokespecial 18, 3) := by decide +kernel
theorem dX10_init_86 : decode cX10_init 86 = .ok (.putfield 34, 3) := by decide +kernel
theorem dX10_init_89 : decode cX10_init 89 = .ok (.aload_n 0, 1) := by decide +kernel
theorem dX10_init_90 : decode cX10_init 90 = .ok (.new 37, 3) := by decide +kernel
theorem dX10_init_93 : decode cX10_init 93 = .ok (.dup, 1) := by decide +kernel
theorem dX10_init_94 : decode cX10_init 94 = .ok (.invokespecial 39, 3) := by decide +kernel
theorem dX10_init_97 : decode cX10_init 97 = .ok (.putfield 40, 3) := by decide +kernel
theorem dX10_init_100 : decode cX10_init 100 = .ok (.aload_n 0, 1) := by decide +kernel
theorem dX10_init_101 : decode cX10_init 101 = .ok (.new 44, 3) := by decide +kernel
theorem dX10_init_104 : decode cX10_init 104 = .ok (.dup, 1) := by decide +kernel
theorem dX10_init_105 : decode cX10_init 105 = .ok (.invokespecial 46, 3) := by decide +kernel
theorem dX10_init_108 : decode cX10_init 108 = .ok (.putfield 47, 3) := by decide +kernel
theorem dX10_init_111 : decode cX10_init 111 = .ok (.aload_n 0, 1) := by decide +kernel
theorem dX10_init_112 : decode cX10_init 112 = .ok (.new 51, 3) := by decide +kernel
theorem dX10_init_115 : decode cX10_init 115 = .ok (.dup, 1) := by decide +kernel
theorem dX10_init_116 : decode cX10_init 116 = .ok (.invokespecial 53, 3) := by decide +kernel
theorem dX10_init_119 : decode cX10_init 119 = .ok (.putfield 54, 3) := by decide +kernel
theorem dX10_init_122 : decode cX10_init 122 = .ok (.return_, 1) := by decide +kernel
theorem dX10_set_0 : decode cX10_set 0 = .ok (.iload_n 1, 1) := by decide +kernel
theorem dX10_set_1 : decode cX10_set 1 = .ok (.invokestatic 58, 3) := by decide +kernel
theorem dX10_set_4 : decode cX10_set 4 = .ok (.ifCond .eq 15, 3) := by decide +kernel
theorem dX10_set_7 : decode cX10_set 7 = .ok (.iload_n 2, 1) := by decide +kernel
theorem dX10_set_8 : decode cX10_set 8 = .ok (.iconst 2, 1) := by decide +kernel
theorem dX10_set_9 : decode cX10_set 9 = .ok (.if_icmp .ne 12, 3) := by decide +kernel
theorem dX10_set_12 : decode cX10_set 12 = .ok (.iload_n 3, 1) := by decide +kernel
theorem dX10_set_13 : decode cX10_set 13 = .ok (.invokestatic 62, 3) := by decide +kernel
theorem dX10_set_16 : decode cX10_set 16 = .ok (.ifCond .ne 5, 3) := by decide +kernel
theorem dX10_set_19 : decode cX10_set 19 = .ok (.iconst (-1), 1) := by decide +kernel
theorem dX10_set_20 : decode cX10_set 20 = .ok (.ireturn, 1) := by decide +kernel
theorem dX10_set_21 : decode cX10_set 21 = .ok (.iload_n 2, 1) := by decide +kernel
theorem dX10_set_22 : decode cX10_set 22 = .ok (.iconst 0, 1) := by decide +kernel
theorem dX10_set_23 : decode cX10_set 23 = .ok (.iconst 5, 1) := by decide +kernel
theorem dX10_set_24 : decode cX10_set 24 = .ok (.invokestatic 65, 3) := by decide +kernel
theorem dX10_set_27 : decode cX10_set 27 = .ok (.ifCond .eq 16, 3) := by decide +kernel
theorem dX10_set_30 : decode cX10_set 30 = .ok (.iload_n 3, 1) := by decide +kernel
theorem dX10_set_31 : decode cX10_set 31 = .ok (.iconst 0, 1) := by decide +kernel
theorem dX10_set_32 : decode cX10_set 32 = .ok (.getstatic 69, 3) := by decide +kernel
theorem dX10_set_35 : decode cX10_set 35 = .ok (.iload_n 2, 1) := by decide +kernel
theorem dX10_set_36 : decode cX10_set 36 = .ok (.iaload, 1) := by decide +kernel
theorem dX10_set_37 : decode cX10_set 37 = .ok (.invokestatic 65, 3) := by decide +kernel
theorem dX10_set_40 : decode cX10_set 40 = .ok (.ifCond .ne 6, 3) := by decide +kernel
theorem dX10_set_43 : decode cX10_set 43 = .ok (.bipush (-2), 2) := by decide +kernel
theorem dX10_set_45 : decode cX10_set 45 = .ok (.ireturn, 1) := by decide +kernel
theorem dX10_set_46 : decode cX10_set 46 = .ok (.aload_n 0, 1) := by decide +kernel
theorem dX10_set_47 : decode cX10_set 47 = .ok (.getfield 19, 3) := by decide +kernel
theorem dX10_set_50 : decode cX10_set 50 = .ok (.getfield 73, 3) := by decide +kernel
theorem dX10_set_53 : decode cX10_set 53 = .ok (.getfield 77, 3) := by decide +kernel
theorem dX10_set_56 : decode cX10_set 56 = .ok (.iload_n 1, 1) := by decide +kernel
theorem dX10_set_57 : decode cX10_set 57 = .ok (.aaload, 1) := by decide +kernel
theorem dX10_set_58 : decode cX10_set 58 = .ok (.astore 4, 2) := by decide +kernel
theorem dX10_set_60 : decode cX10_set 60 = .ok (.aload 4, 2) := by decide +kernel
theorem dX10_set_62 : decode cX10_set 62 = .ok (.iload_n 2, 1) := by decide +kernel
theorem dX10_set_63 : decode cX10_set 63 = .ok (.invokevirtual 83, 3) := by decide +kernel
theorem dX10_set_66 : decode cX10_set 66 = .ok (.istore 5, 2) := by decide +kernel
theorem dX10_set_68 : decode cX10_set 68 = .ok (.aload 4, 2) := by decide +kernel
theorem dX10_set_70 : decode cX10_set 70 = .ok (.iload_n 2, 1) := by decide +kernel
theorem dX10_set_71 : decode cX10_set 71 = .ok (.iload_n 3, 1) := by decide +kernel
theorem dX10_set_72 : decode cX10_set 72 = .ok (.invokevirtual 89, 3) := by decide +kernel
theorem dX10_set_75 : decode cX10_set 75 = .ok (.iload 5, 2) := by decide +kernel
theorem dX10_set_77 : decode cX10_set 77 = .ok (.ireturn, 1) := by decide +kernel
theorem dX10_post_0 : decode cX10_post 0 = .ok (.iload_n 1, 1) := by decide +kernel
theorem dX10_post_1 : decode cX10_post 1 = .ok (.invokestatic 93, 3) := by decide +kernel
theorem dX10_post_4 : decode cX10_post 4 = .ok (.ifCond .ne 6, 3) := by decide +kernel
theorem dX10_post_7 : decode cX10_post 7 = .ok (.bipush (-2), 2) := by decide +kernel
theorem dX10_post_9 : decode cX10_post 9 = .ok (.ireturn, 1) := by decide +kernel
theorem dX10_post_10 : decode cX10_post 10 = .ok (.aload_n 0, 1) := by decide +kernel
theorem dX10_post_11 : decode cX10_post 11 = .ok (.getfield 19, 3) := by decide +kernel
theorem dX10_post_14 : decode cX10_post 14 = .ok (.getfield 73, 3) := by decide +kernel
theorem dX10_post_17 : decode cX10_post 17 = .ok (.iload_n 1, 1) := by decide +kernel
theorem dX10_post_18 : decode cX10_post 18 = .ok (.invokevirtual 96, 3) := by decide +kernel
theorem dX10_post_21 : decode cX10_post 21 = .ok (.ifCond .eq 6, 3) := by decide +kernel
theorem dX10_post_24 : decode cX10_post 24 = .ok (.bipush (-5), 2) := by decide +kernel
theorem dX10_post_26 : decode cX10_post 26 = .ok (.ireturn, 1) := by decide +kernel
theorem dX10_post_27 : decode cX10_post 27 = .ok (.aload_n 0, 1) := by decide +kernel
theorem dX10_post_28 : decode cX10_post 28 = .ok (.getfield 19, 3) := by decide +kernel
theorem dX10_post_31 : decode cX10_post 31 = .ok (.getfield 73, 3) := by decide +kernel
theorem dX10_post_34 : decode cX10_post 34 = .ok (.getfield 99, 3) := by decide +kernel
theorem dX10_post_37 : decode cX10_post 37 = .ok (.iconst 4, 1) := by decide +kernel
theorem dX10_post_38 : decode cX10_post 38 = .ok (.if_icmp .lt 6, 3) := by decide +kernel
theorem dX10_post_41 : decode cX10_post 41 = .ok (.bipush (-4), 2) := by decide +kernel
theorem dX10_post_43 : decode cX10_post 43 = .ok (.ireturn, 1) := by decide +kernel
theorem dX10_post_44 : decode cX10_post 44 = .ok (.aload_n 0, 1) := by decide +kernel
theorem dX10_post_45 : decode cX10_post 45 = .ok (.getfield 19, 3) := by decide +kernel
theorem dX10_post_48 : decode cX10_post 48 = .ok (.getfield 73, 3) := by decide +kernel
theorem dX10_post_51 : decode cX10_post 51 = .ok (.iload_n 1, 1) := by decide +kernel
theorem dX10_post_52 : decode cX10_post 52 = .ok (.invokevirtual 103, 3) := by decide +kernel
theorem dX10_post_55 : decode cX10_post 55 = .ok (.aload_n 0, 1) := by decide +kernel
theorem dX10_post_56 : decode cX10_post 56 = .ok (.getfield 19, 3) := by decide +kernel
theorem dX10_post_59 : decode cX10_post 59 = .ok (.getfield 73, 3) := by decide +kernel
theorem dX10_post_62 : decode cX10_post 62 = .ok (.getfield 99, 3) := by decide +kernel
theorem dX10_post_65 : decode cX10_post 65 = .ok (.ireturn, 1) := by decide +kernel
theorem dX10_clear_0 : decode cX10_clear 0 = .ok (.aload_n 0, 1) := by decide +kernel
theorem dX10_clear_1 : decode cX10_clear 1 = .ok (.getfield 19, 3) := by decide +kernel
theorem dX10_clear_4 : decode cX10_clear 4 = .ok (.getfield 73, 3) := by decide +kernel
theorem dX10_clear_7 : decode cX10_clear 7 = .ok (.getfield 99, 3) := by decide +kernel
theorem dX10_clear_10 : decode cX10_clear 10 = .ok (.istore_n 1, 1) := by decide +kernel
theorem dX10_clear_11 : decode cX10_clear 11 = .ok (.aload_n 0, 1) := by decide +kernel
theorem dX10_clear_12 : decode cX10_clear 12 = .ok (.getfield 19, 3) := by decide +kernel
theorem dX10_clear_15 : decode cX10_clear 15 = .ok (.getfield 73, 3) := by decide +kernel
theorem dX10_clear_18 : decode cX10_clear 18 = .ok (.iconst 0, 1) := by decide +kernel
theorem dX10_clear_19 : decode cX10_clear 19 = .ok (.putfield 99, 3) := by decide +kernel
theorem dX10_clear_22 : decode cX10_clear 22 = .ok (.iload_n 1, 1) := by decide +kernel
theorem dX10_clear_23 : decode cX10_clear 23 = .ok (.ireturn, 1) := by decide +kernel
theorem dX10_say_0 : decode cX10_say 0 = .ok (.iload_n 1, 1) := by decide +kernel
theorem dX10_say_1 : decode cX10_say 1 = .ok (.bipush 33, 2) := by decide +kernel
theorem dX10_say_3 : decode cX10_say 3 = .ok (.bipush 126, 2) := by decide +kernel
theorem dX10_say_5 : decode cX10_say 5 = .ok (.invokestatic 65, 3) := by decide +kernel
theorem dX10_say_8 : decode cX10_say 8 = .ok (.ifCond .ne 6, 3) := by decide +kernel
theorem dX10_say_11 : decode cX10_say 11 = .ok (.bipush (-2), 2) := by decide +kernel
theorem dX10_say_13 : decode cX10_say 13 = .ok (.ireturn, 1) := by decide +kernel
theorem dX10_say_14 : decode cX10_say 14 = .ok (.aload_n 0, 1) := by decide +kernel
theorem dX10_say_15 : decode cX10_say 15 = .ok (.getfield 10, 3) := by decide +kernel
theorem dX10_say_18 : decode cX10_say 18 = .ok (.getfield 107, 3) := by decide +kernel
theorem dX10_say_21 : decode cX10_say 21 = .ok (.bipush 40, 2) := by decide +kernel
theorem dX10_say_23 : decode cX10_say 23 = .ok (.if_icmp .lt 6, 3) := by decide +kernel
theorem dX10_say_26 : decode cX10_say 26 = .ok (.bipush (-4), 2) := by decide +kernel
theorem dX10_say_28 : decode cX10_say 28 = .ok (.ireturn, 1) := by decide +kernel
theorem dX10_say_29 : decode cX10_say 29 = .ok (.aload_n 0, 1) := by decide +kernel
theorem dX10_say_30 : decode cX10_say 30 = .ok (.getfield 10, 3) := by decide +kernel
theorem dX10_say_33 : decode cX10_say 33 = .ok (.iload_n 1, 1) := by decide +kernel
theorem dX10_say_34 : decode cX10_say 34 = .ok (.invokevirtual 110, 3) := by decide +kernel
theorem dX10_say_37 : decode cX10_say 37 = .ok (.aload_n 0, 1) := by decide +kernel
theorem dX10_say_38 : decode cX10_say 38 = .ok (.getfield 10, 3) := by decide +kernel
theorem dX10_say_41 : decode cX10_say 41 = .ok (.getfield 107, 3) := by decide +kernel
theorem dX10_say_44 : decode cX10_say 44 = .ok (.ireturn, 1) := by decide +kernel
theorem dX10_wipe_0 : decode cX10_wipe 0 = .ok (.aload_n 0, 1) := by decide +kernel
theorem dX10_wipe_1 : decode cX10_wipe 1 = .ok (.getfield 10, 3) := by decide +kernel
theorem dX10_wipe_4 : decode cX10_wipe 4 = .ok (.getfield 107, 3) := by decide +kernel
theorem dX10_wipe_7 : decode cX10_wipe 7 = .ok (.istore_n 1, 1) := by decide +kernel
theorem dX10_wipe_8 : decode cX10_wipe 8 = .ok (.aload_n 0, 1) := by decide +kernel
theorem dX10_wipe_9 : decode cX10_wipe 9 = .ok (.getfield 10, 3) := by decide +kernel
theorem dX10_wipe_12 : decode cX10_wipe 12 = .ok (.iconst 0, 1) := by decide +kernel
theorem dX10_wipe_13 : decode cX10_wipe 13 = .ok (.putfield 107, 3) := by decide +kernel
theorem dX10_wipe_16 : decode cX10_wipe 16 = .ok (.iload_n 1, 1) := by decide +kernel
theorem dX10_wipe_17 : decode cX10_wipe 17 = .ok (.ireturn, 1) := by decide +kernel
theorem dX10_fault_0 : decode cX10_fault 0 = .ok (.aload_n 0, 1) := by decide +kernel
theorem dX10_fault_1 : decode cX10_fault 1 = .ok (.getfield 10, 3) := by decide +kernel
theorem dX10_fault_4 : decode cX10_fault 4 = .ok (.invokevirtual 113, 3) := by decide +kernel
theorem dX10_fault_7 : decode cX10_fault 7 = .ok (.ireturn, 1) := by decide +kernel
theorem dX10_night_0 : decode cX10_night 0 = .ok (.aload_n 0, 1) := by decide +kernel
theorem dX10_night_1 : decode cX10_night 1 = .ok (.getfield 10, 3) := by decide +kernel
theorem dX10_night_4 : decode cX10_night 4 = .ok (.invokevirtual 113, 3) := by decide +kernel
theorem dX10_night_7 : decode cX10_night 7 = .ok (.bipush (-6), 2) := by decide +kernel
theorem dX10_night_9 : decode cX10_night 9 = .ok (.if_icmp .eq 6, 3) := by decide +kernel
theorem dX10_night_12 : decode cX10_night 12 = .ok (.bipush (-5), 2) := by decide +kernel
theorem dX10_night_14 : decode cX10_night 14 = .ok (.ireturn, 1) := by decide +kernel
theorem dX10_night_15 : decode cX10_night 15 = .ok (.aload_n 0, 1) := by decide +kernel
theorem dX10_night_16 : decode cX10_night 16 = .ok (.getfield 19, 3) := by decide +kernel
theorem dX10_night_19 : decode cX10_night 19 = .ok (.getfield 73, 3) := by decide +kernel
theorem dX10_night_22 : decode cX10_night 22 = .ok (.aload_n 0, 1) := by decide +kernel
theorem dX10_night_23 : decode cX10_night 23 = .ok (.getfield 10, 3) := by decide +kernel
theorem dX10_night_26 : decode cX10_night 26 = .ok (.aload_n 0, 1) := by decide +kernel
theorem dX10_night_27 : decode cX10_night 27 = .ok (.getfield 19, 3) := by decide +kernel
theorem dX10_night_30 : decode cX10_night 30 = .ok (.getfield 117, 3) := by decide +kernel
theorem dX10_night_33 : decode cX10_night 33 = .ok (.invokevirtual 121, 3) := by decide +kernel
theorem dX10_night_36 : decode cX10_night 36 = .ok (.istore_n 1, 1) := by decide +kernel
theorem dX10_night_37 : decode cX10_night 37 = .ok (.aload_n 0, 1) := by decide +kernel
theorem dX10_night_38 : decode cX10_night 38 = .ok (.getfield 10, 3) := by decide +kernel
theorem dX10_night_41 : decode cX10_night 41 = .ok (.iconst 0, 1) := by decide +kernel
theorem dX10_night_42 : decode cX10_night 42 = .ok (.putfield 107, 3) := by decide +kernel
theorem dX10_night_45 : decode cX10_night 45 = .ok (.iload_n 1, 1) := by decide +kernel
theorem dX10_night_46 : decode cX10_night 46 = .ok (.ireturn, 1) := by decide +kernel
theorem dX10_about_0 : decode cX10_about 0 = .ok (.iload_n 1, 1) := by decide +kernel
theorem dX10_about_1 : decode cX10_about 1 = .ok (.invokestatic 58, 3) := by decide +kernel
theorem dX10_about_4 : decode cX10_about 4 = .ok (.ifCond .ne 5, 3) := by decide +kernel
theorem dX10_about_7 : decode cX10_about 7 = .ok (.iconst (-1), 1) := by decide +kernel
theorem dX10_about_8 : decode cX10_about 8 = .ok (.ireturn, 1) := by decide +kernel
theorem dX10_about_9 : decode cX10_about 9 = .ok (.iload_n 2, 1) := by decide +kernel
theorem dX10_about_10 : decode cX10_about 10 = .ok (.iconst 0, 1) := by decide +kernel
theorem dX10_about_11 : decode cX10_about 11 = .ok (.bipush 7, 2) := by decide +kernel
theorem dX10_about_13 : decode cX10_about 13 = .ok (.invokestatic 65, 3) := by decide +kernel
theorem dX10_about_16 : decode cX10_about 16 = .ok (.ifCond .ne 6, 3) := by decide +kernel
theorem dX10_about_19 : decode cX10_about 19 = .ok (.bipush (-2), 2) := by decide +kernel
theorem dX10_about_21 : decode cX10_about 21 = .ok (.ireturn, 1) := by decide +kernel
theorem dX10_about_22 : decode cX10_about 22 = .ok (.aload_n 0, 1) := by decide +kernel
theorem dX10_about_23 : decode cX10_about 23 = .ok (.getfield 19, 3) := by decide +kernel
theorem dX10_about_26 : decode cX10_about 26 = .ok (.getfield 73, 3) := by decide +kernel
theorem dX10_about_29 : decode cX10_about 29 = .ok (.getfield 77, 3) := by decide +kernel
theorem dX10_about_32 : decode cX10_about 32 = .ok (.iload_n 1, 1) := by decide +kernel
theorem dX10_about_33 : decode cX10_about 33 = .ok (.aaload, 1) := by decide +kernel
theorem dX10_about_34 : decode cX10_about 34 = .ok (.iload_n 2, 1) := by decide +kernel
theorem dX10_about_35 : decode cX10_about 35 = .ok (.invokevirtual 83, 3) := by decide +kernel
theorem dX10_about_38 : decode cX10_about 38 = .ok (.ireturn, 1) := by decide +kernel
theorem dX10_up_0 : decode cX10_up 0 = .ok (.iload_n 2, 1) := by decide +kernel
theorem dX10_up_1 : decode cX10_up 1 = .ok (.invokestatic 125, 3) := by decide +kernel
theorem dX10_up_4 : decode cX10_up 4 = .ok (.ifCond .ne 5, 3) := by decide +kernel
theorem dX10_up_7 : decode cX10_up 7 = .ok (.iconst (-1), 1) := by decide +kernel
theorem dX10_up_8 : decode cX10_up 8 = .ok (.ireturn, 1) := by decide +kernel
theorem dX10_up_9 : decode cX10_up 9 = .ok (.iload_n 1, 1) := by decide +kernel
theorem dX10_up_10 : decode cX10_up 10 = .ok (.invokestatic 93, 3) := by decide +kernel
theorem dX10_up_13 : decode cX10_up 13 = .ok (.ifCond .ne 6, 3) := by decide +kernel
theorem dX10_up_16 : decode cX10_up 16 = .ok (.bipush (-2), 2) := by decide +kernel
theorem dX10_up_18 : decode cX10_up 18 = .ok (.ireturn, 1) := by decide +kernel
theorem dX10_up_19 : decode cX10_up 19 = .ok (.aload_n 0, 1) := by decide +kernel
theorem dX10_up_20 : decode cX10_up 20 = .ok (.getfield 19, 3) := by decide +kernel
theorem dX10_up_23 : decode cX10_up 23 = .ok (.getfield 117, 3) := by decide +kernel
theorem dX10_up_26 : decode cX10_up 26 = .ok (.iload_n 1, 1) := by decide +kernel
theorem dX10_up_27 : decode cX10_up 27 = .ok (.iload_n 2, 1) := by decide +kernel
theorem dX10_up_28 : decode cX10_up 28 = .ok (.invokevirtual 128, 3) := by decide +kernel
theorem dX10_up_31 : decode cX10_up 31 = .ok (.ireturn, 1) := by decide +kernel
theorem dX10_row_0 : decode cX10_row 0 = .ok (.iload_n 2, 1) := by decide +kernel
theorem dX10_row_1 : decode cX10_row 1 = .ok (.invokestatic 125, 3) := by decide +kernel
theorem dX10_row_4 : decode cX10_row 4 = .ok (.ifCond .ne 5, 3) := by decide +kernel
theorem dX10_row_7 : decode cX10_row 7 = .ok (.iconst (-1), 1) := by decide +kernel
theorem dX10_row_8 : decode cX10_row 8 = .ok (.ireturn, 1) := by decide +kernel
theorem dX10_row_9 : decode cX10_row 9 = .ok (.iload_n 1, 1) := by decide +kernel
theorem dX10_row_10 : decode cX10_row 10 = .ok (.invokestatic 93, 3) := by decide +kernel
theorem dX10_row_13 : decode cX10_row 13 = .ok (.ifCond .ne 6, 3) := by decide +kernel
theorem dX10_row_16 : decode cX10_row 16 = .ok (.bipush (-2), 2) := by decide +kernel
theorem dX10_row_18 : decode cX10_row 18 = .ok (.ireturn, 1) := by decide +kernel
theorem dX10_row_19 : decode cX10_row 19 = .ok (.aload_n 0, 1) := by decide +kernel
theorem dX10_row_20 : decode cX10_row 20 = .ok (.getfield 19, 3) := by decide +kernel
theorem dX10_row_23 : decode cX10_row 23 = .ok (.getfield 117, 3) := by decide +kernel
theorem dX10_row_26 : decode cX10_row 26 = .ok (.getfield 134, 3) := by decide +kernel
theorem dX10_row_29 : decode cX10_row 29 = .ok (.iload_n 1, 1) := by decide +kernel
theorem dX10_row_30 : decode cX10_row 30 = .ok (.iaload, 1) := by decide +kernel
theorem dX10_row_31 : decode cX10_row 31 = .ok (.istore_n 3, 1) := by decide +kernel
theorem dX10_row_32 : decode cX10_row 32 = .ok (.aload_n 0, 1) := by decide +kernel
theorem dX10_row_33 : decode cX10_row 33 = .ok (.getfield 19, 3) := by decide +kernel
theorem dX10_row_36 : decode cX10_row 36 = .ok (.getfield 117, 3) := by decide +kernel
theorem dX10_row_39 : decode cX10_row 39 = .ok (.getfield 134, 3) := by decide +kernel
theorem dX10_row_42 : decode cX10_row 42 = .ok (.iload_n 1, 1) := by decide +kernel
theorem dX10_row_43 : decode cX10_row 43 = .ok (.iload_n 2, 1) := by decide +kernel
theorem dX10_row_44 : decode cX10_row 44 = .ok (.iconst (-1), 1) := by decide +kernel
theorem dX10_row_45 : decode cX10_row 45 = .ok (.if_icmp .ne 8, 3) := by decide +kernel
theorem dX10_row_48 : decode cX10_row 48 = .ok (.bipush (-6), 2) := by decide +kernel
theorem dX10_row_50 : decode cX10_row 50 = .ok (.goto 4, 3) := by decide +kernel
theorem dX10_row_53 : decode cX10_row 53 = .ok (.iload_n 2, 1) := by decide +kernel
theorem dX10_row_54 : decode cX10_row 54 = .ok (.iastore, 1) := by decide +kernel
theorem dX10_row_55 : decode cX10_row 55 = .ok (.iload_n 3, 1) := by decide +kernel
theorem dX10_row_56 : decode cX10_row 56 = .ok (.ireturn, 1) := by decide +kernel
theorem dX10_strayed_0 : decode cX10_strayed 0 = .ok (.iload_n 1, 1) := by decide +kernel
theorem dX10_strayed_1 : decode cX10_strayed 1 = .ok (.invokestatic 125, 3) := by decide +kernel
theorem dX10_strayed_4 : decode cX10_strayed 4 = .ok (.ifCond .ne 5, 3) := by decide +kernel
theorem dX10_strayed_7 : decode cX10_strayed 7 = .ok (.iconst (-1), 1) := by decide +kernel
theorem dX10_strayed_8 : decode cX10_strayed 8 = .ok (.ireturn, 1) := by decide +kernel
theorem dX10_strayed_9 : decode cX10_strayed 9 = .ok (.iload_n 2, 1) := by decide +kernel
theorem dX10_strayed_10 : decode cX10_strayed 10 = .ok (.iconst 0, 1) := by decide +kernel
theorem dX10_strayed_11 : decode cX10_strayed 11 = .ok (.iconst 1, 1) := by decide +kernel
theorem dX10_strayed_12 : decode cX10_strayed 12 = .ok (.invokestatic 65, 3) := by decide +kernel
theorem dX10_strayed_15 : decode cX10_strayed 15 = .ok (.ifCond .ne 6, 3) := by decide +kernel
theorem dX10_strayed_18 : decode cX10_strayed 18 = .ok (.bipush (-2), 2) := by decide +kernel
theorem dX10_strayed_20 : decode cX10_strayed 20 = .ok (.ireturn, 1) := by decide +kernel
theorem dX10_strayed_21 : decode cX10_strayed 21 = .ok (.iload_n 2, 1) := by decide +kernel
theorem dX10_strayed_22 : decode cX10_strayed 22 = .ok (.ifCond .ne 17, 3) := by decide +kernel
theorem dX10_strayed_25 : decode cX10_strayed 25 = .ok (.aload_n 0, 1) := by decide +kernel
theorem dX10_strayed_26 : decode cX10_strayed 26 = .ok (.getfield 19, 3) := by decide +kernel
theorem dX10_strayed_29 : decode cX10_strayed 29 = .ok (.getfield 117, 3) := by decide +kernel
theorem dX10_strayed_32 : decode cX10_strayed 32 = .ok (.iload_n 1, 1) := by decide +kernel
theorem dX10_strayed_33 : decode cX10_strayed 33 = .ok (.invokevirtual 137, 3) := by decide +kernel
theorem dX10_strayed_36 : decode cX10_strayed 36 = .ok (.goto 14, 3) := by decide +kernel
theorem dX10_strayed_39 : decode cX10_strayed 39 = .ok (.aload_n 0, 1) := by decide +kernel
theorem dX10_strayed_40 : decode cX10_strayed 40 = .ok (.getfield 19, 3) := by decide +kernel
theorem dX10_strayed_43 : decode cX10_strayed 43 = .ok (.getfield 117, 3) := by decide +kernel
theorem dX10_strayed_46 : decode cX10_strayed 46 = .ok (.iload_n 1, 1) := by decide +kernel
theorem dX10_strayed_47 : decode cX10_strayed 47 = .ok (.invokevirtual 140, 3) := by decide +kernel
theorem dX10_strayed_50 : decode cX10_strayed 50 = .ok (.ireturn, 1) := by decide +kernel
theorem dX10_guessed_0 : decode cX10_guessed 0 = .ok (.iload_n 1, 1) := by decide +kernel
theorem dX10_guessed_1 : decode cX10_guessed 1 = .ok (.invokestatic 58, 3) := by decide +kernel
theorem dX10_guessed_4 : decode cX10_guessed 4 = .ok (.ifCond .ne 5, 3) := by decide +kernel
theorem dX10_guessed_7 : decode cX10_guessed 7 = .ok (.iconst (-1), 1) := by decide +kernel
theorem dX10_guessed_8 : decode cX10_guessed 8 = .ok (.ireturn, 1) := by decide +kernel
theorem dX10_guessed_9 : decode cX10_guessed 9 = .ok (.iload_n 2, 1) := by decide +kernel
theorem dX10_guessed_10 : decode cX10_guessed 10 = .ok (.invokestatic 143, 3) := by decide +kernel
theorem dX10_guessed_13 : decode cX10_guessed 13 = .ok (.ifCond .ne 6, 3) := by decide +kernel
theorem dX10_guessed_16 : decode cX10_guessed 16 = .ok (.bipush (-2), 2) := by decide +kernel
theorem dX10_guessed_18 : decode cX10_guessed 18 = .ok (.ireturn, 1) := by decide +kernel
theorem dX10_guessed_19 : decode cX10_guessed 19 = .ok (.aload_n 0, 1) := by decide +kernel
theorem dX10_guessed_20 : decode cX10_guessed 20 = .ok (.getfield 27, 3) := by decide +kernel
theorem dX10_guessed_23 : decode cX10_guessed 23 = .ok (.iload_n 2, 1) := by decide +kernel
theorem dX10_guessed_24 : decode cX10_guessed 24 = .ok (.baload, 1) := by decide +kernel
theorem dX10_guessed_25 : decode cX10_guessed 25 = .ok (.ifCond .ne 6, 3) := by decide +kernel
theorem dX10_guessed_28 : decode cX10_guessed 28 = .ok (.bipush (-3), 2) := by decide +kernel
theorem dX10_guessed_30 : decode cX10_guessed 30 = .ok (.ireturn, 1) := by decide +kernel
theorem dX10_guessed_31 : decode cX10_guessed 31 = .ok (.aload_n 0, 1) := by decide +kernel
theorem dX10_guessed_32 : decode cX10_guessed 32 = .ok (.getfield 10, 3) := by decide +kernel
theorem dX10_guessed_35 : decode cX10_guessed 35 = .ok (.invokevirtual 113, 3) := by decide +kernel
theorem dX10_guessed_38 : decode cX10_guessed 38 = .ok (.bipush (-6), 2) := by decide +kernel
theorem dX10_guessed_40 : decode cX10_guessed 40 = .ok (.if_icmp .eq 6, 3) := by decide +kernel
theorem dX10_guessed_43 : decode cX10_guessed 43 = .ok (.bipush (-5), 2) := by decide +kernel
theorem dX10_guessed_45 : decode cX10_guessed 45 = .ok (.ireturn, 1) := by decide +kernel
theorem dX10_guessed_46 : decode cX10_guessed 46 = .ok (.iconst 0, 1) := by decide +kernel
theorem dX10_guessed_47 : decode cX10_guessed 47 = .ok (.istore_n 3, 1) := by decide +kernel
theorem dX10_guessed_48 : decode cX10_guessed 48 = .ok (.iconst 0, 1) := by decide +kernel
theorem dX10_guessed_49 : decode cX10_guessed 49 = .ok (.istore 4, 2) := by decide +kernel
theorem dX10_guessed_51 : decode cX10_guessed 51 = .ok (.iload 4, 2) := by decide +kernel
theorem dX10_guessed_53 : decode cX10_guessed 53 = .ok (.getstatic 69, 3) := by decide +kernel
theorem dX10_guessed_56 : decode cX10_guessed 56 = .ok (.iconst 4, 1) := by decide +kernel
theorem dX10_guessed_57 : decode cX10_guessed 57 = .ok (.iaload, 1) := by decide +kernel
theorem dX10_guessed_58 : decode cX10_guessed 58 = .ok (.if_icmp .gt 89, 3) := by decide +kernel
theorem dX10_guessed_61 : decode cX10_guessed 61 = .ok (.aload_n 0, 1) := by decide +kernel
theorem dX10_guessed_62 : decode cX10_guessed 62 = .ok (.getfield 31, 3) := by decide +kernel
theorem dX10_guessed_65 : decode cX10_guessed 65 = .ok (.aload_n 0, 1) := by decide +kernel
theorem dX10_guessed_66 : decode cX10_guessed 66 = .ok (.getfield 23, 3) := by decide +kernel
theorem dX10_guessed_69 : decode cX10_guessed 69 = .ok (.iload_n 2, 1) := by decide +kernel
