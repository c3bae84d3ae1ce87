theorem dX0_init_0 : decode cX0_init 0 = .ok (.aload_n 0, 1) := by decide +kernel
theorem dX0_init_1 : decode cX0_init 1 = .ok (.invokespecial 3, 3) := by decide +kernel
theorem dX0_init_4 : decode cX0_init 4 = .ok (.aload_n 0, 1) := by decide +kernel
theorem dX0_init_5 : decode cX0_init 5 = .ok (.iconst 5, 1) := by decide +kernel
theorem dX0_init_6 : decode cX0_init 6 = .ok (.newarray .int, 2) := by decide +kernel
theorem dX0_init_8 : decode cX0_init 8 = .ok (.putfield 9, 3) := by decide +kernel
theorem dX0_init_11 : decode cX0_init 11 = .ok (.aload_n 0, 1) := by decide +kernel
theorem dX0_init_12 : decode cX0_init 12 = .ok (.iconst 5, 1) := by decide +kernel
theorem dX0_init_13 : decode cX0_init 13 = .ok (.newarray .int, 2) := by decide +kernel
theorem dX0_init_15 : decode cX0_init 15 = .ok (.putfield 15, 3) := by decide +kernel
theorem dX0_init_18 : decode cX0_init 18 = .ok (.aload_n 0, 1) := by decide +kernel
theorem dX0_init_19 : decode cX0_init 19 = .ok (.iconst 5, 1) := by decide +kernel
theorem dX0_init_20 : decode cX0_init 20 = .ok (.newarray .int, 2) := by decide +kernel
theorem dX0_init_22 : decode cX0_init 22 = .ok (.putfield 18, 3) := by decide +kernel
theorem dX0_init_25 : decode cX0_init 25 = .ok (.aload_n 0, 1) := by decide +kernel
theorem dX0_init_26 : decode cX0_init 26 = .ok (.iconst 5, 1) := by decide +kernel
theorem dX0_init_27 : decode cX0_init 27 = .ok (.newarray .int, 2) := by decide +kernel
theorem dX0_init_29 : decode cX0_init 29 = .ok (.putfield 21, 3) := by decide +kernel
theorem dX0_init_32 : decode cX0_init 32 = .ok (.aload_n 0, 1) := by decide +kernel
theorem dX0_init_33 : decode cX0_init 33 = .ok (.iconst 5, 1) := by decide +kernel
theorem dX0_init_34 : decode cX0_init 34 = .ok (.newarray .int, 2) := by decide +kernel
theorem dX0_init_36 : decode cX0_init 36 = .ok (.putfield 24, 3) := by decide +kernel
theorem dX0_init_39 : decode cX0_init 39 = .ok (.aload_n 0, 1) := by decide +kernel
theorem dX0_init_40 : decode cX0_init 40 = .ok (.aload_n 1, 1) := by decide +kernel
theorem dX0_init_41 : decode cX0_init 41 = .ok (.putfield 27, 3) := by decide +kernel
theorem dX0_init_44 : decode cX0_init 44 = .ok (.return_, 1) := by decide +kernel
theorem dX0_wakes_0 : decode cX0_wakes 0 = .ok (.aload_n 1, 1) := by decide +kernel
theorem dX0_wakes_1 : decode cX0_wakes 1 = .ok (.iload_n 2, 1) := by decide +kernel
theorem dX0_wakes_2 : decode cX0_wakes 2 = .ok (.invokevirtual 31, 3) := by decide +kernel
theorem dX0_wakes_5 : decode cX0_wakes 5 = .ok (.istore_n 3, 1) := by decide +kernel
theorem dX0_wakes_6 : decode cX0_wakes 6 = .ok (.iload_n 3, 1) := by decide +kernel
theorem dX0_wakes_7 : decode cX0_wakes 7 = .ok (.iconst (-1), 1) := by decide +kernel
theorem dX0_wakes_8 : decode cX0_wakes 8 = .ok (.if_icmp .ne 7, 3) := by decide +kernel
theorem dX0_wakes_11 : decode cX0_wakes 11 = .ok (.iconst (-1), 1) := by decide +kernel
theorem dX0_wakes_12 : decode cX0_wakes 12 = .ok (.goto 13, 3) := by decide +kernel
theorem dX0_wakes_15 : decode cX0_wakes 15 = .ok (.aload_n 0, 1) := by decide +kernel
theorem dX0_wakes_16 : decode cX0_wakes 16 = .ok (.getfield 27, 3) := by decide +kernel
theorem dX0_wakes_19 : decode cX0_wakes 19 = .ok (.aload_n 1, 1) := by decide +kernel
theorem dX0_wakes_20 : decode cX0_wakes 20 = .ok (.iload_n 3, 1) := by decide +kernel
theorem dX0_wakes_21 : decode cX0_wakes 21 = .ok (.iload_n 2, 1) := by decide +kernel
theorem dX0_wakes_22 : decode cX0_wakes 22 = .ok (.invokevirtual 37, 3) := by decide +kernel
theorem dX0_wakes_25 : decode cX0_wakes 25 = .ok (.ireturn, 1) := by decide +kernel
theorem dX0_lateBy_0 : decode cX0_lateBy 0 = .ok (.iconst 0, 1) := by decide +kernel
theorem dX0_lateBy_1 : decode cX0_lateBy 1 = .ok (.aload_n 0, 1) := by decide +kernel
theorem dX0_lateBy_2 : decode cX0_lateBy 2 = .ok (.aload_n 1, 1) := by decide +kernel
theorem dX0_lateBy_3 : decode cX0_lateBy 3 = .ok (.iload_n 2, 1) := by decide +kernel
theorem dX0_lateBy_4 : decode cX0_lateBy 4 = .ok (.invokevirtual 43, 3) := by decide +kernel
theorem dX0_lateBy_7 : decode cX0_lateBy 7 = .ok (.aload_n 1, 1) := by decide +kernel
theorem dX0_lateBy_8 : decode cX0_lateBy 8 = .ok (.iconst 2, 1) := by decide +kernel
theorem dX0_lateBy_9 : decode cX0_lateBy 9 = .ok (.iload_n 2, 1) := by decide +kernel
theorem dX0_lateBy_10 : decode cX0_lateBy 10 = .ok (.invokevirtual 47, 3) := by decide +kernel
theorem dX0_lateBy_13 : decode cX0_lateBy 13 = .ok (.isub, 1) := by decide +kernel
theorem dX0_lateBy_14 : decode cX0_lateBy 14 = .ok (.invokestatic 51, 3) := by decide +kernel
theorem dX0_lateBy_17 : decode cX0_lateBy 17 = .ok (.ireturn, 1) := by decide +kernel
theorem dX0_hour_0 : decode cX0_hour 0 = .ok (.iload_n 1, 1) := by decide +kernel
theorem dX0_hour_1 : decode cX0_hour 1 = .ok (.ifCond .lt 17, 3) := by decide +kernel
theorem dX0_hour_4 : decode cX0_hour 4 = .ok (.iload_n 1, 1) := by decide +kernel
theorem dX0_hour_5 : decode cX0_hour 5 = .ok (.iconst 5, 1) := by decide +kernel
theorem dX0_hour_6 : decode cX0_hour 6 = .ok (.if_icmp .ge 12, 3) := by decide +kernel
theorem dX0_hour_9 : decode cX0_hour 9 = .ok (.aload_n 0, 1) := by decide +kernel
theorem dX0_hour_10 : decode cX0_hour 10 = .ok (.getfield 15, 3) := by decide +kernel
theorem dX0_hour_13 : decode cX0_hour 13 = .ok (.iload_n 1, 1) := by decide +kernel
theorem dX0_hour_14 : decode cX0_hour 14 = .ok (.iaload, 1) := by decide +kernel
theorem dX0_hour_15 : decode cX0_hour 15 = .ok (.goto 4, 3) := by decide +kernel
theorem dX0_hour_18 : decode cX0_hour 18 = .ok (.iconst (-1), 1) := by decide +kernel
theorem dX0_hour_19 : decode cX0_hour 19 = .ok (.ireturn, 1) := by decide +kernel
theorem dX0_dawn_0 : decode cX0_dawn 0 = .ok (.iconst 0, 1) := by decide +kernel
theorem dX0_dawn_1 : decode cX0_dawn 1 = .ok (.istore_n 2, 1) := by decide +kernel
theorem dX0_dawn_2 : decode cX0_dawn 2 = .ok (.iload_n 2, 1) := by decide +kernel
theorem dX0_dawn_3 : decode cX0_dawn 3 = .ok (.aload_n 1, 1) := by decide +kernel
theorem dX0_dawn_4 : decode cX0_dawn 4 = .ok (.invokevirtual 56, 3) := by decide +kernel
theorem dX0_dawn_7 : decode cX0_dawn 7 = .ok (.if_icmp .ge 134, 3) := by decide +kernel
theorem dX0_dawn_10 : decode cX0_dawn 10 = .ok (.aload_n 1, 1) := by decide +kernel
theorem dX0_dawn_11 : decode cX0_dawn 11 = .ok (.iload_n 2, 1) := by decide +kernel
theorem dX0_dawn_12 : decode cX0_dawn 12 = .ok (.invokevirtual 31, 3) := by decide +kernel
theorem dX0_dawn_15 : decode cX0_dawn 15 = .ok (.istore_n 3, 1) := by decide +kernel
theorem dX0_dawn_16 : decode cX0_dawn 16 = .ok (.aload_n 0, 1) := by decide +kernel
theorem dX0_dawn_17 : decode cX0_dawn 17 = .ok (.getfield 9, 3) := by decide +kernel
theorem dX0_dawn_20 : decode cX0_dawn 20 = .ok (.iload_n 2, 1) := by decide +kernel
theorem dX0_dawn_21 : decode cX0_dawn 21 = .ok (.iload_n 3, 1) := by decide +kernel
theorem dX0_dawn_22 : decode cX0_dawn 22 = .ok (.iastore, 1) := by decide +kernel
theorem dX0_dawn_23 : decode cX0_dawn 23 = .ok (.iload_n 3, 1) := by decide +kernel
theorem dX0_dawn_24 : decode cX0_dawn 24 = .ok (.iconst (-1), 1) := by decide +kernel
theorem dX0_dawn_25 : decode cX0_dawn 25 = .ok (.if_icmp .ne 20, 3) := by decide +kernel
theorem dX0_dawn_28 : decode cX0_dawn 28 = .ok (.aload_n 0, 1) := by decide +kernel
theorem dX0_dawn_29 : decode cX0_dawn 29 = .ok (.getfield 15, 3) := by decide +kernel
theorem dX0_dawn_32 : decode cX0_dawn 32 = .ok (.iload_n 2, 1) := by decide +kernel
theorem dX0_dawn_33 : decode cX0_dawn 33 = .ok (.iconst (-1), 1) := by decide +kernel
theorem dX0_dawn_34 : decode cX0_dawn 34 = .ok (.iastore, 1) := by decide +kernel
theorem dX0_dawn_35 : decode cX0_dawn 35 = .ok (.aload_n 0, 1) := by decide +kernel
theorem dX0_dawn_36 : decode cX0_dawn 36 = .ok (.getfield 18, 3) := by decide +kernel
theorem dX0_dawn_39 : decode cX0_dawn 39 = .ok (.iload_n 2, 1) := by decide +kernel
theorem dX0_dawn_40 : decode cX0_dawn 40 = .ok (.iconst 0, 1) := by decide +kernel
theorem dX0_dawn_41 : decode cX0_dawn 41 = .ok (.iastore, 1) := by decide +kernel
theorem dX0_dawn_42 : decode cX0_dawn 42 = .ok (.goto 93, 3) := by decide +kernel
theorem dX0_dawn_45 : decode cX0_dawn 45 = .ok (.aload_n 0, 1) := by decide +kernel
theorem dX0_dawn_46 : decode cX0_dawn 46 = .ok (.getfield 15, 3) := by decide +kernel
theorem dX0_dawn_49 : decode cX0_dawn 49 = .ok (.iload_n 2, 1) := by decide +kernel
theorem dX0_dawn_50 : decode cX0_dawn 50 = .ok (.aload_n 0, 1) := by decide +kernel
theorem dX0_dawn_51 : decode cX0_dawn 51 = .ok (.getfield 27, 3) := by decide +kernel
theorem dX0_dawn_54 : decode cX0_dawn 54 = .ok (.aload_n 1, 1) := by decide +kernel
theorem dX0_dawn_55 : decode cX0_dawn 55 = .ok (.iload_n 3, 1) := by decide +kernel
theorem dX0_dawn_56 : decode cX0_dawn 56 = .ok (.iload_n 2, 1) := by decide +kernel
theorem dX0_dawn_57 : decode cX0_dawn 57 = .ok (.invokevirtual 37, 3) := by decide +kernel
theorem dX0_dawn_60 : decode cX0_dawn 60 = .ok (.iastore, 1) := by decide +kernel
theorem dX0_dawn_61 : decode cX0_dawn 61 = .ok (.aload_n 0, 1) := by decide +kernel
theorem dX0_dawn_62 : decode cX0_dawn 62 = .ok (.getfield 18, 3) := by decide +kernel
theorem dX0_dawn_65 : decode cX0_dawn 65 = .ok (.iload_n 2, 1) := by decide +kernel
theorem dX0_dawn_66 : decode cX0_dawn 66 = .ok (.iconst 0, 1) := by decide +kernel
theorem dX0_dawn_67 : decode cX0_dawn 67 = .ok (.aload_n 0, 1) := by decide +kernel
theorem dX0_dawn_68 : decode cX0_dawn 68 = .ok (.getfield 15, 3) := by decide +kernel
theorem dX0_dawn_71 : decode cX0_dawn 71 = .ok (.iload_n 2, 1) := by decide +kernel
theorem dX0_dawn_72 : decode cX0_dawn 72 = .ok (.iaload, 1) := by decide +kernel
theorem dX0_dawn_73 : decode cX0_dawn 73 = .ok (.aload_n 1, 1) := by decide +kernel
theorem dX0_dawn_74 : decode cX0_dawn 74 = .ok (.iconst 2, 1) := by decide +kernel
theorem dX0_dawn_75 : decode cX0_dawn 75 = .ok (.iload_n 2, 1) := by decide +kernel
theorem dX0_dawn_76 : decode cX0_dawn 76 = .ok (.invokevirtual 47, 3) := by decide +kernel
theorem dX0_dawn_79 : decode cX0_dawn 79 = .ok (.isub, 1) := by decide +kernel
theorem dX0_dawn_80 : decode cX0_dawn 80 = .ok (.invokestatic 51, 3) := by decide +kernel
theorem dX0_dawn_83 : decode cX0_dawn 83 = .ok (.iastore, 1) := by decide +kernel
theorem dX0_dawn_84 : decode cX0_dawn 84 = .ok (.aload_n 0, 1) := by decide +kernel
theorem dX0_dawn_85 : decode cX0_dawn 85 = .ok (.getfield 21, 3) := by decide +kernel
theorem dX0_dawn_88 : decode cX0_dawn 88 = .ok (.iload_n 2, 1) := by decide +kernel
theorem dX0_dawn_89 : decode cX0_dawn 89 = .ok (.aload_n 0, 1) := by decide +kernel
theorem dX0_dawn_90 : decode cX0_dawn 90 = .ok (.getfield 27, 3) := by decide +kernel
theorem dX0_dawn_93 : decode cX0_dawn 93 = .ok (.aload_n 1, 1) := by decide +kernel
theorem dX0_dawn_94 : decode cX0_dawn 94 = .ok (.iload_n 2, 1) := by decide +kernel
theorem dX0_dawn_95 : decode cX0_dawn 95 = .ok (.aload_n 0, 1) := by decide +kernel
theorem dX0_dawn_96 : decode cX0_dawn 96 = .ok (.getfield 15, 3) := by decide +kernel
theorem dX0_dawn_99 : decode cX0_dawn 99 = .ok (.iload_n 2, 1) := by decide +kernel
theorem dX0_dawn_100 : decode cX0_dawn 100 = .ok (.iaload, 1) := by decide +kernel
theorem dX0_dawn_101 : decode cX0_dawn 101 = .ok (.invokevirtual 60, 3) := by decide +kernel
theorem dX0_dawn_104 : decode cX0_dawn 104 = .ok (.iastore, 1) := by decide +kernel
theorem dX0_dawn_105 : decode cX0_dawn 105 = .ok (.aload_n 0, 1) := by decide +kernel
theorem dX0_dawn_106 : decode cX0_dawn 106 = .ok (.getfield 24, 3) := by decide +kernel
theorem dX0_dawn_109 : decode cX0_dawn 109 = .ok (.iload_n 2, 1) := by decide +kernel
theorem dX0_dawn_110 : decode cX0_dawn 110 = .ok (.aload_n 0, 1) := by decide +kernel
theorem dX0_dawn_111 : decode cX0_dawn 111 = .ok (.getfield 27, 3) := by decide +kernel
theorem dX0_dawn_114 : decode cX0_dawn 114 = .ok (.aload_n 1, 1) := by decide +kernel
theorem dX0_dawn_115 : decode cX0_dawn 115 = .ok (.iload_n 3, 1) := by decide +kernel
theorem dX0_dawn_116 : decode cX0_dawn 116 = .ok (.iload_n 2, 1) := by decide +kernel
theorem dX0_dawn_117 : decode cX0_dawn 117 = .ok (.aload_n 0, 1) := by decide +kernel
theorem dX0_dawn_118 : decode cX0_dawn 118 = .ok (.getfield 18, 3) := by decide +kernel
theorem dX0_dawn_121 : decode cX0_dawn 121 = .ok (.iload_n 2, 1) := by decide +kernel
theorem dX0_dawn_122 : decode cX0_dawn 122 = .ok (.iaload, 1) := by decide +kernel
theorem dX0_dawn_123 : decode cX0_dawn 123 = .ok (.ifCond .le 7, 3) := by decide +kernel
theorem dX0_dawn_126 : decode cX0_dawn 126 = .ok (.iconst 1, 1) := by decide +kernel
theorem dX0_dawn_127 : decode cX0_dawn 127 = .ok (.goto 4, 3) := by decide +kernel
theorem dX0_dawn_130 : decode cX0_dawn 130 = .ok (.iconst 0, 1) := by decide +kernel
theorem dX0_dawn_131 : decode cX0_dawn 131 = .ok (.invokevirtual 63, 3) := by decide +kernel
theorem dX0_dawn_134 : decode cX0_dawn 134 = .ok (.iastore, 1) := by decide +kernel
theorem dX0_dawn_135 : decode cX0_dawn 135 = .ok (.iinc 2 1, 3) := by decide +kernel
theorem dX0_dawn_138 : decode cX0_dawn 138 = .ok (.goto (-136), 3) := by decide +kernel
theorem dX0_dawn_141 : decode cX0_dawn 141 = .ok (.return_, 1) := by decide +kernel
theorem dX0_settle_0 : decode cX0_settle 0 = .ok (.iconst 0, 1) := by decide +kernel
theorem dX0_settle_1 : decode cX0_settle 1 = .ok (.istore_n 2, 1) := by decide +kernel
theorem dX0_settle_2 : decode cX0_settle 2 = .ok (.iload_n 2, 1) := by decide +kernel
theorem dX0_settle_3 : decode cX0_settle 3 = .ok (.aload_n 1, 1) := by decide +kernel
theorem dX0_settle_4 : decode cX0_settle 4 = .ok (.invokevirtual 56, 3) := by decide +kernel
theorem dX0_settle_7 : decode cX0_settle 7 = .ok (.if_icmp .ge 61, 3) := by decide +kernel
theorem dX0_settle_10 : decode cX0_settle 10 = .ok (.aload_n 0, 1) := by decide +kernel
theorem dX0_settle_11 : decode cX0_settle 11 = .ok (.getfield 9, 3) := by decide +kernel
theorem dX0_settle_14 : decode cX0_settle 14 = .ok (.iload_n 2, 1) := by decide +kernel
theorem dX0_settle_15 : decode cX0_settle 15 = .ok (.iaload, 1) := by decide +kernel
theorem dX0_settle_16 : decode cX0_settle 16 = .ok (.iconst (-1), 1) := by decide +kernel
theorem dX0_settle_17 : decode cX0_settle 17 = .ok (.if_icmp .ne 11, 3) := by decide +kernel
theorem dX0_settle_20 : decode cX0_settle 20 = .ok (.aload_n 1, 1) := by decide +kernel
theorem dX0_settle_21 : decode cX0_settle 21 = .ok (.iload_n 2, 1) := by decide +kernel
theorem dX0_settle_22 : decode cX0_settle 22 = .ok (.invokevirtual 67, 3) := by decide +kernel
theorem dX0_settle_25 : decode cX0_settle 25 = .ok (.goto 37, 3) := by decide +kernel
theorem dX0_settle_28 : decode cX0_settle 28 = .ok (.aload_n 1, 1) := by decide +kernel
theorem dX0_settle_29 : decode cX0_settle 29 = .ok (.iload_n 2, 1) := by decide +kernel
theorem dX0_settle_30 : decode cX0_settle 30 = .ok (.aload_n 0, 1) := by decide +kernel
theorem dX0_settle_31 : decode cX0_settle 31 = .ok (.getfield 21, 3) := by decide +kernel
theorem dX0_settle_34 : decode cX0_settle 34 = .ok (.iload_n 2, 1) := by decide +kernel
theorem dX0_settle_35 : decode cX0_settle 35 = .ok (.iaload, 1) := by decide +kernel
theorem dX0_settle_36 : decode cX0_settle 36 = .ok (.aload_n 0, 1) := by decide +kernel
theorem dX0_settle_37 : decode cX0_settle 37 = .ok (.getfield 18, 3) := by decide +kernel
theorem dX0_settle_40 : decode cX0_settle 40 = .ok (.iload_n 2, 1) := by decide +kernel
theorem dX0_settle_41 : decode cX0_settle 41 = .ok (.iaload, 1) := by decide +kernel
theorem dX0_settle_42 : decode cX0_settle 42 = .ok (.invokevirtual 71, 3) := by decide +kernel
theorem dX0_settle_45 : decode cX0_settle 45 = .ok (.aload_n 1, 1) := by decide +kernel
theorem dX0_settle_46 : decode cX0_settle 46 = .ok (.aload_n 0, 1) := by decide +kernel
theorem dX0_settle_47 : decode cX0_settle 47 = .ok (.getfield 9, 3) := by decide +kernel
theorem dX0_settle_50 : decode cX0_settle 50 = .ok (.iload_n 2, 1) := by decide +kernel
theorem dX0_settle_51 : decode cX0_settle 51 = .ok (.iaload, 1) := by decide +kernel
theorem dX0_settle_52 : decode cX0_settle 52 = .ok (.iload_n 2, 1) := by decide +kernel
theorem dX0_settle_53 : decode cX0_settle 53 = .ok (.aload_n 0, 1) := by decide +kernel
theorem dX0_settle_54 : decode cX0_settle 54 = .ok (.getfield 24, 3) := by decide +kernel
theorem dX0_settle_57 : decode cX0_settle 57 = .ok (.iload_n 2, 1) := by decide +kernel
theorem dX0_settle_58 : decode cX0_settle 58 = .ok (.iaload, 1) := by decide +kernel
theorem dX0_settle_59 : decode cX0_settle 59 = .ok (.invokevirtual 75, 3) := by decide +kernel
theorem dX0_settle_62 : decode cX0_settle 62 = .ok (.iinc 2 1, 3) := by decide +kernel
theorem dX0_settle_65 : decode cX0_settle 65 = .ok (.goto (-63), 3) := by decide +kernel
theorem dX0_settle_68 : decode cX0_settle 68 = .ok (.aload_n 1, 1) := by decide +kernel
theorem dX0_settle_69 : decode cX0_settle 69 = .ok (.invokevirtual 78, 3) := by decide +kernel
theorem dX0_settle_72 : decode cX0_settle 72 = .ok (.return_, 1) := by decide +kernel
theorem dX0_whoIsLate_0 : decode cX0_whoIsLate 0 = .ok (.iconst 0, 1) := by decide +kernel
theorem dX0_whoIsLate_1 : decode cX0_whoIsLate 1 = .ok (.istore_n 2, 1) := by decide +kernel
theorem dX0_whoIsLate_2 : decode cX0_whoIsLate 2 = .ok (.iconst 0, 1) := by decide +kernel
theorem dX0_whoIsLate_3 : decode cX0_whoIsLate 3 = .ok (.istore_n 3, 1) := by decide +kernel
theorem dX0_whoIsLate_4 : decode cX0_whoIsLate 4 = .ok (.iload_n 3, 1) := by decide +kernel
theorem dX0_whoIsLate_5 : decode cX0_whoIsLate 5 = .ok (.aload_n 1, 1) := by decide +kernel
theorem dX0_whoIsLate_6 : decode cX0_whoIsLate 6 = .ok (.invokevirtual 56, 3) := by decide +kernel
theorem dX0_whoIsLate_9 : decode cX0_whoIsLate 9 = .ok (.if_icmp .ge 24, 3) := by decide +kernel
theorem dX0_whoIsLate_12 : decode cX0_whoIsLate 12 = .ok (.aload_n 0, 1) := by decide +kernel
theorem dX0_whoIsLate_13 : decode cX0_whoIsLate 13 = .ok (.getfield 18, 3) := by decide +kernel
theorem dX0_whoIsLate_16 : decode cX0_whoIsLate 16 = .ok (.iload_n 3, 1) := by decide +kernel
theorem dX0_whoIsLate_17 : decode cX0_whoIsLate 17 = .ok (.iaload, 1) := by decide +kernel
theorem dX0_whoIsLate_18 : decode cX0_whoIsLate 18 = .ok (.ifCond .le 9, 3) := by decide +kernel
theorem dX0_whoIsLate_21 : decode cX0_whoIsLate 21 = .ok (.iload_n 2, 1) := by decide +kernel
theorem dX0_whoIsLate_22 : decode cX0_whoIsLate 22 = .ok (.iconst 1, 1) := by decide +kernel
theorem dX0_whoIsLate_23 : decode cX0_whoIsLate 23 = .ok (.iload_n 3, 1) := by decide +kernel
theorem dX0_whoIsLate_24 : decode cX0_whoIsLate 24 = .ok (.ishl, 1) := by decide +kernel
theorem dX0_whoIsLate_25 : decode cX0_whoIsLate 25 = .ok (.ior, 1) := by decide +kernel
theorem dX0_whoIsLate_26 : decode cX0_whoIsLate 26 = .ok (.istore_n 2, 1) := by decide +kernel
theorem dX0_whoIsLate_27 : decode cX0_whoIsLate 27 = .ok (.iinc 3 1, 3) := by decide +kernel
theorem dX0_whoIsLate_30 : decode cX0_whoIsLate 30 = .ok (.goto (-26), 3) := by decide +kernel
theorem dX0_whoIsLate_33 : decode cX0_whoIsLate 33 = .ok (.iload_n 2, 1) := by decide +kernel
theorem dX0_whoIsLate_34 : decode cX0_whoIsLate 34 = .ok (.ireturn, 1) := by decide +kernel
