theorem dX7_init_0 : decode cX7_init 0 = .ok (.aload_n 0, 1) := by decide +kernel
theorem dX7_init_1 : decode cX7_init 1 = .ok (.invokespecial 1, 3) := by decide +kernel
theorem dX7_init_4 : decode cX7_init 4 = .ok (.aload_n 0, 1) := by decide +kernel
theorem dX7_init_5 : decode cX7_init 5 = .ok (.new 7, 3) := by decide +kernel
theorem dX7_init_8 : decode cX7_init 8 = .ok (.dup, 1) := by decide +kernel
theorem dX7_init_9 : decode cX7_init 9 = .ok (.invokespecial 9, 3) := by decide +kernel
theorem dX7_init_12 : decode cX7_init 12 = .ok (.putfield 10, 3) := by decide +kernel
theorem dX7_init_15 : decode cX7_init 15 = .ok (.aload_n 0, 1) := by decide +kernel
theorem dX7_init_16 : decode cX7_init 16 = .ok (.new 16, 3) := by decide +kernel
theorem dX7_init_19 : decode cX7_init 19 = .ok (.dup, 1) := by decide +kernel
theorem dX7_init_20 : decode cX7_init 20 = .ok (.invokespecial 18, 3) := by decide +kernel
theorem dX7_init_23 : decode cX7_init 23 = .ok (.putfield 19, 3) := by decide +kernel
theorem dX7_init_26 : decode cX7_init 26 = .ok (.aload_n 0, 1) := by decide +kernel
theorem dX7_init_27 : decode cX7_init 27 = .ok (.getfield 10, 3) := by decide +kernel
theorem dX7_init_30 : decode cX7_init 30 = .ok (.ldc 23, 2) := by decide +kernel
theorem dX7_init_32 : decode cX7_init 32 = .ok (.invokevirtual 25, 3) := by decide +kernel
theorem dX7_init_35 : decode cX7_init 35 = .ok (.aload_n 0, 1) := by decide +kernel
theorem dX7_init_36 : decode cX7_init 36 = .ok (.getfield 19, 3) := by decide +kernel
theorem dX7_init_39 : decode cX7_init 39 = .ok (.aload_n 0, 1) := by decide +kernel
theorem dX7_init_40 : decode cX7_init 40 = .ok (.getfield 10, 3) := by decide +kernel
theorem dX7_init_43 : decode cX7_init 43 = .ok (.invokevirtual 29, 3) := by decide +kernel
theorem dX7_init_46 : decode cX7_init 46 = .ok (.pop, 1) := by decide +kernel
theorem dX7_init_47 : decode cX7_init 47 = .ok (.aload_n 0, 1) := by decide +kernel
theorem dX7_init_48 : decode cX7_init 48 = .ok (.new 33, 3) := by decide +kernel
theorem dX7_init_51 : decode cX7_init 51 = .ok (.dup, 1) := by decide +kernel
theorem dX7_init_52 : decode cX7_init 52 = .ok (.aload_n 0, 1) := by decide +kernel
theorem dX7_init_53 : decode cX7_init 53 = .ok (.getfield 19, 3) := by decide +kernel
theorem dX7_init_56 : decode cX7_init 56 = .ok (.invokespecial 35, 3) := by decide +kernel
theorem dX7_init_59 : decode cX7_init 59 = .ok (.putfield 38, 3) := by decide +kernel
theorem dX7_init_62 : decode cX7_init 62 = .ok (.aload_n 0, 1) := by decide +kernel
theorem dX7_init_63 : decode cX7_init 63 = .ok (.new 42, 3) := by decide +kernel
theorem dX7_init_66 : decode cX7_init 66 = .ok (.dup, 1) := by decide +kernel
theorem dX7_init_67 : decode cX7_init 67 = .ok (.invokespecial 44, 3) := by decide +kernel
theorem dX7_init_70 : decode cX7_init 70 = .ok (.putfield 45, 3) := by decide +kernel
theorem dX7_init_73 : decode cX7_init 73 = .ok (.aload_n 0, 1) := by decide +kernel
theorem dX7_init_74 : decode cX7_init 74 = .ok (.new 42, 3) := by decide +kernel
theorem dX7_init_77 : decode cX7_init 77 = .ok (.dup, 1) := by decide +kernel
theorem dX7_init_78 : decode cX7_init 78 = .ok (.invokespecial 44, 3) := by decide +kernel
theorem dX7_init_81 : decode cX7_init 81 = .ok (.putfield 49, 3) := by decide +kernel
theorem dX7_init_84 : decode cX7_init 84 = .ok (.aload_n 0, 1) := by decide +kernel
theorem dX7_init_85 : decode cX7_init 85 = .ok (.new 42, 3) := by decide +kernel
theorem dX7_init_88 : decode cX7_init 88 = .ok (.dup, 1) := by decide +kernel
theorem dX7_init_89 : decode cX7_init 89 = .ok (.invokespecial 44, 3) := by decide +kernel
theorem dX7_init_92 : decode cX7_init 92 = .ok (.putfield 52, 3) := by decide +kernel
theorem dX7_init_95 : decode cX7_init 95 = .ok (.aload_n 0, 1) := by decide +kernel
theorem dX7_init_96 : decode cX7_init 96 = .ok (.new 55, 3) := by decide +kernel
theorem dX7_init_99 : decode cX7_init 99 = .ok (.dup, 1) := by decide +kernel
theorem dX7_init_100 : decode cX7_init 100 = .ok (.invokespecial 57, 3) := by decide +kernel
theorem dX7_init_103 : decode cX7_init 103 = .ok (.putfield 58, 3) := by decide +kernel
theorem dX7_init_106 : decode cX7_init 106 = .ok (.aload_n 0, 1) := by decide +kernel
theorem dX7_init_107 : decode cX7_init 107 = .ok (.iconst 4, 1) := by decide +kernel
theorem dX7_init_108 : decode cX7_init 108 = .ok (.anewarray 62, 3) := by decide +kernel
theorem dX7_init_111 : decode cX7_init 111 = .ok (.putfield 64, 3) := by decide +kernel
theorem dX7_init_114 : decode cX7_init 114 = .ok (.iconst 0, 1) := by decide +kernel
theorem dX7_init_115 : decode cX7_init 115 = .ok (.istore_n 1, 1) := by decide +kernel
theorem dX7_init_116 : decode cX7_init 116 = .ok (.iload_n 1, 1) := by decide +kernel
theorem dX7_init_117 : decode cX7_init 117 = .ok (.iconst 4, 1) := by decide +kernel
theorem dX7_init_118 : decode cX7_init 118 = .ok (.if_icmp .ge 22, 3) := by decide +kernel
theorem dX7_init_121 : decode cX7_init 121 = .ok (.aload_n 0, 1) := by decide +kernel
theorem dX7_init_122 : decode cX7_init 122 = .ok (.getfield 64, 3) := by decide +kernel
theorem dX7_init_125 : decode cX7_init 125 = .ok (.iload_n 1, 1) := by decide +kernel
theorem dX7_init_126 : decode cX7_init 126 = .ok (.new 62, 3) := by decide +kernel
theorem dX7_init_129 : decode cX7_init 129 = .ok (.dup, 1) := by decide +kernel
theorem dX7_init_130 : decode cX7_init 130 = .ok (.invokespecial 68, 3) := by decide +kernel
theorem dX7_init_133 : decode cX7_init 133 = .ok (.aastore, 1) := by decide +kernel
theorem dX7_init_134 : decode cX7_init 134 = .ok (.iinc 1 1, 3) := by decide +kernel
theorem dX7_init_137 : decode cX7_init 137 = .ok (.goto (-21), 3) := by decide +kernel
theorem dX7_init_140 : decode cX7_init 140 = .ok (.return_, 1) := by decide +kernel
theorem dX7_set_0 : decode cX7_set 0 = .ok (.iload_n 1, 1) := by decide +kernel
theorem dX7_set_1 : decode cX7_set 1 = .ok (.ifCond .lt 34, 3) := by decide +kernel
theorem dX7_set_4 : decode cX7_set 4 = .ok (.iload_n 1, 1) := by decide +kernel
theorem dX7_set_5 : decode cX7_set 5 = .ok (.bipush 6, 2) := by decide +kernel
theorem dX7_set_7 : decode cX7_set 7 = .ok (.if_icmp .gt 28, 3) := by decide +kernel
theorem dX7_set_10 : decode cX7_set 10 = .ok (.aload_n 0, 1) := by decide +kernel
theorem dX7_set_11 : decode cX7_set 11 = .ok (.getfield 45, 3) := by decide +kernel
theorem dX7_set_14 : decode cX7_set 14 = .ok (.iload_n 1, 1) := by decide +kernel
theorem dX7_set_15 : decode cX7_set 15 = .ok (.iload_n 2, 1) := by decide +kernel
theorem dX7_set_16 : decode cX7_set 16 = .ok (.invokevirtual 69, 3) := by decide +kernel
theorem dX7_set_19 : decode cX7_set 19 = .ok (.ifCond .eq 16, 3) := by decide +kernel
theorem dX7_set_22 : decode cX7_set 22 = .ok (.iload_n 3, 1) := by decide +kernel
theorem dX7_set_23 : decode cX7_set 23 = .ok (.ifCond .lt 12, 3) := by decide +kernel
theorem dX7_set_26 : decode cX7_set 26 = .ok (.iload_n 3, 1) := by decide +kernel
theorem dX7_set_27 : decode cX7_set 27 = .ok (.getstatic 73, 3) := by decide +kernel
theorem dX7_set_30 : decode cX7_set 30 = .ok (.iload_n 1, 1) := by decide +kernel
theorem dX7_set_31 : decode cX7_set 31 = .ok (.iaload, 1) := by decide +kernel
theorem dX7_set_32 : decode cX7_set 32 = .ok (.if_icmp .le 6, 3) := by decide +kernel
theorem dX7_set_35 : decode cX7_set 35 = .ok (.bipush (-2), 2) := by decide +kernel
theorem dX7_set_37 : decode cX7_set 37 = .ok (.ireturn, 1) := by decide +kernel
theorem dX7_set_38 : decode cX7_set 38 = .ok (.aload_n 0, 1) := by decide +kernel
theorem dX7_set_39 : decode cX7_set 39 = .ok (.getfield 45, 3) := by decide +kernel
theorem dX7_set_42 : decode cX7_set 42 = .ok (.iload_n 1, 1) := by decide +kernel
theorem dX7_set_43 : decode cX7_set 43 = .ok (.iload_n 2, 1) := by decide +kernel
theorem dX7_set_44 : decode cX7_set 44 = .ok (.invokevirtual 77, 3) := by decide +kernel
theorem dX7_set_47 : decode cX7_set 47 = .ok (.istore 4, 2) := by decide +kernel
theorem dX7_set_49 : decode cX7_set 49 = .ok (.aload_n 0, 1) := by decide +kernel
theorem dX7_set_50 : decode cX7_set 50 = .ok (.getfield 45, 3) := by decide +kernel
theorem dX7_set_53 : decode cX7_set 53 = .ok (.iload_n 1, 1) := by decide +kernel
theorem dX7_set_54 : decode cX7_set 54 = .ok (.iload_n 2, 1) := by decide +kernel
theorem dX7_set_55 : decode cX7_set 55 = .ok (.iload_n 3, 1) := by decide +kernel
theorem dX7_set_56 : decode cX7_set 56 = .ok (.invokevirtual 81, 3) := by decide +kernel
theorem dX7_set_59 : decode cX7_set 59 = .ok (.iload 4, 2) := by decide +kernel
theorem dX7_set_61 : decode cX7_set 61 = .ok (.ireturn, 1) := by decide +kernel
theorem dX7_person_0 : decode cX7_person 0 = .ok (.aload_n 0, 1) := by decide +kernel
theorem dX7_person_1 : decode cX7_person 1 = .ok (.getfield 45, 3) := by decide +kernel
theorem dX7_person_4 : decode cX7_person 4 = .ok (.iload_n 1, 1) := by decide +kernel
theorem dX7_person_5 : decode cX7_person 5 = .ok (.iload_n 2, 1) := by decide +kernel
theorem dX7_person_6 : decode cX7_person 6 = .ok (.iload_n 3, 1) := by decide +kernel
theorem dX7_person_7 : decode cX7_person 7 = .ok (.invokevirtual 85, 3) := by decide +kernel
theorem dX7_person_10 : decode cX7_person 10 = .ok (.ireturn, 1) := by decide +kernel
theorem dX7_told_0 : decode cX7_told 0 = .ok (.iload_n 2, 1) := by decide +kernel
theorem dX7_told_1 : decode cX7_told 1 = .ok (.ifCond .lt 37, 3) := by decide +kernel
theorem dX7_told_4 : decode cX7_told 4 = .ok (.iload_n 2, 1) := by decide +kernel
theorem dX7_told_5 : decode cX7_told 5 = .ok (.bipush 7, 2) := by decide +kernel
theorem dX7_told_7 : decode cX7_told 7 = .ok (.if_icmp .gt 31, 3) := by decide +kernel
theorem dX7_told_10 : decode cX7_told 10 = .ok (.aload_n 0, 1) := by decide +kernel
theorem dX7_told_11 : decode cX7_told 11 = .ok (.getfield 45, 3) := by decide +kernel
theorem dX7_told_14 : decode cX7_told 14 = .ok (.iload_n 2, 1) := by decide +kernel
theorem dX7_told_15 : decode cX7_told 15 = .ok (.iload_n 1, 1) := by decide +kernel
theorem dX7_told_16 : decode cX7_told 16 = .ok (.invokevirtual 69, 3) := by decide +kernel
theorem dX7_told_19 : decode cX7_told 19 = .ok (.ifCond .eq 15, 3) := by decide +kernel
theorem dX7_told_22 : decode cX7_told 22 = .ok (.aload_n 0, 1) := by decide +kernel
theorem dX7_told_23 : decode cX7_told 23 = .ok (.getfield 45, 3) := by decide +kernel
theorem dX7_told_26 : decode cX7_told 26 = .ok (.iload_n 2, 1) := by decide +kernel
theorem dX7_told_27 : decode cX7_told 27 = .ok (.iload_n 1, 1) := by decide +kernel
theorem dX7_told_28 : decode cX7_told 28 = .ok (.invokevirtual 77, 3) := by decide +kernel
theorem dX7_told_31 : decode cX7_told 31 = .ok (.goto 6, 3) := by decide +kernel
theorem dX7_told_34 : decode cX7_told 34 = .ok (.sipush (-1000), 3) := by decide +kernel
theorem dX7_told_37 : decode cX7_told 37 = .ok (.ireturn, 1) := by decide +kernel
theorem dX7_told_38 : decode cX7_told 38 = .ok (.aload_n 0, 1) := by decide +kernel
theorem dX7_told_39 : decode cX7_told 39 = .ok (.getfield 45, 3) := by decide +kernel
theorem dX7_told_42 : decode cX7_told 42 = .ok (.iload_n 1, 1) := by decide +kernel
theorem dX7_told_43 : decode cX7_told 43 = .ok (.invokevirtual 89, 3) := by decide +kernel
theorem dX7_told_46 : decode cX7_told 46 = .ok (.ifCond .ne 7, 3) := by decide +kernel
theorem dX7_told_49 : decode cX7_told 49 = .ok (.sipush (-1000), 3) := by decide +kernel
theorem dX7_told_52 : decode cX7_told 52 = .ok (.ireturn, 1) := by decide +kernel
theorem dX7_told_53 : decode cX7_told 53 = .ok (.iload_n 2, 1) := by decide +kernel
theorem dX7_told_54 : decode cX7_told 54 = .ok (.tableswitch 74 8 11 #[30, 39, 52, 65], 30) := by decide +kernel
theorem dX7_told_84 : decode cX7_told 84 = .ok (.aload_n 0, 1) := by decide +kernel
theorem dX7_told_85 : decode cX7_told 85 = .ok (.getfield 45, 3) := by decide +kernel
theorem dX7_told_88 : decode cX7_told 88 = .ok (.iload_n 1, 1) := by decide +kernel
theorem dX7_told_89 : decode cX7_told 89 = .ok (.invokevirtual 93, 3) := by decide +kernel
theorem dX7_told_92 : decode cX7_told 92 = .ok (.ireturn, 1) := by decide +kernel
theorem dX7_told_93 : decode cX7_told 93 = .ok (.aload_n 0, 1) := by decide +kernel
theorem dX7_told_94 : decode cX7_told 94 = .ok (.getfield 38, 3) := by decide +kernel
theorem dX7_told_97 : decode cX7_told 97 = .ok (.aload_n 0, 1) := by decide +kernel
theorem dX7_told_98 : decode cX7_told 98 = .ok (.getfield 45, 3) := by decide +kernel
theorem dX7_told_101 : decode cX7_told 101 = .ok (.iload_n 1, 1) := by decide +kernel
theorem dX7_told_102 : decode cX7_told 102 = .ok (.invokevirtual 97, 3) := by decide +kernel
theorem dX7_told_105 : decode cX7_told 105 = .ok (.ireturn, 1) := by decide +kernel
theorem dX7_told_106 : decode cX7_told 106 = .ok (.aload_n 0, 1) := by decide +kernel
theorem dX7_told_107 : decode cX7_told 107 = .ok (.getfield 38, 3) := by decide +kernel
theorem dX7_told_110 : decode cX7_told 110 = .ok (.aload_n 0, 1) := by decide +kernel
theorem dX7_told_111 : decode cX7_told 111 = .ok (.getfield 45, 3) := by decide +kernel
theorem dX7_told_114 : decode cX7_told 114 = .ok (.iload_n 1, 1) := by decide +kernel
theorem dX7_told_115 : decode cX7_told 115 = .ok (.invokevirtual 101, 3) := by decide +kernel
theorem dX7_told_118 : decode cX7_told 118 = .ok (.ireturn, 1) := by decide +kernel
theorem dX7_told_119 : decode cX7_told 119 = .ok (.aload_n 0, 1) := by decide +kernel
theorem dX7_told_120 : decode cX7_told 120 = .ok (.getfield 45, 3) := by decide +kernel
theorem dX7_told_123 : decode cX7_told 123 = .ok (.iload_n 1, 1) := by decide +kernel
theorem dX7_told_124 : decode cX7_told 124 = .ok (.invokevirtual 104, 3) := by decide +kernel
theorem dX7_told_127 : decode cX7_told 127 = .ok (.ireturn, 1) := by decide +kernel
theorem dX7_told_128 : decode cX7_told 128 = .ok (.sipush (-1000), 3) := by decide +kernel
theorem dX7_told_131 : decode cX7_told 131 = .ok (.ireturn, 1) := by decide +kernel
theorem dX7_asks_0 : decode cX7_asks 0 = .ok (.aload_n 0, 1) := by decide +kernel
theorem dX7_asks_1 : decode cX7_asks 1 = .ok (.getfield 45, 3) := by decide +kernel
theorem dX7_asks_4 : decode cX7_asks 4 = .ok (.iload_n 1, 1) := by decide +kernel
theorem dX7_asks_5 : decode cX7_asks 5 = .ok (.iload_n 2, 1) := by decide +kernel
theorem dX7_asks_6 : decode cX7_asks 6 = .ok (.invokevirtual 107, 3) := by decide +kernel
theorem dX7_asks_9 : decode cX7_asks 9 = .ok (.ifCond .ne 7, 3) := by decide +kernel
theorem dX7_asks_12 : decode cX7_asks 12 = .ok (.sipush (-1000), 3) := by decide +kernel
theorem dX7_asks_15 : decode cX7_asks 15 = .ok (.ireturn, 1) := by decide +kernel
theorem dX7_asks_16 : decode cX7_asks 16 = .ok (.iload_n 3, 1) := by decide +kernel
theorem dX7_asks_17 : decode cX7_asks 17 = .ok (.tableswitch 71 0 2 #[27, 41, 56], 27) := by decide +kernel
theorem dX7_asks_44 : decode cX7_asks 44 = .ok (.aload_n 0, 1) := by decide +kernel
theorem dX7_asks_45 : decode cX7_asks 45 = .ok (.getfield 19, 3) := by decide +kernel
theorem dX7_asks_48 : decode cX7_asks 48 = .ok (.aload_n 0, 1) := by decide +kernel
theorem dX7_asks_49 : decode cX7_asks 49 = .ok (.getfield 45, 3) := by decide +kernel
theorem dX7_asks_52 : decode cX7_asks 52 = .ok (.iload_n 1, 1) := by decide +kernel
theorem dX7_asks_53 : decode cX7_asks 53 = .ok (.iload_n 2, 1) := by decide +kernel
theorem dX7_asks_54 : decode cX7_asks 54 = .ok (.invokevirtual 110, 3) := by decide +kernel
theorem dX7_asks_57 : decode cX7_asks 57 = .ok (.ireturn, 1) := by decide +kernel
theorem dX7_asks_58 : decode cX7_asks 58 = .ok (.aload_n 0, 1) := by decide +kernel
theorem dX7_asks_59 : decode cX7_asks 59 = .ok (.getfield 19, 3) := by decide +kernel
theorem dX7_asks_62 : decode cX7_asks 62 = .ok (.aload_n 0, 1) := by decide +kernel
theorem dX7_asks_63 : decode cX7_asks 63 = .ok (.getfield 45, 3) := by decide +kernel
theorem dX7_asks_66 : decode cX7_asks 66 = .ok (.iload_n 1, 1) := by decide +kernel
theorem dX7_asks_67 : decode cX7_asks 67 = .ok (.iload_n 2, 1) := by decide +kernel
theorem dX7_asks_68 : decode cX7_asks 68 = .ok (.iconst 1, 1) := by decide +kernel
theorem dX7_asks_69 : decode cX7_asks 69 = .ok (.invokevirtual 114, 3) := by decide +kernel
theorem dX7_asks_72 : decode cX7_asks 72 = .ok (.ireturn, 1) := by decide +kernel
theorem dX7_asks_73 : decode cX7_asks 73 = .ok (.aload_n 0, 1) := by decide +kernel
theorem dX7_asks_74 : decode cX7_asks 74 = .ok (.getfield 19, 3) := by decide +kernel
theorem dX7_asks_77 : decode cX7_asks 77 = .ok (.aload_n 0, 1) := by decide +kernel
theorem dX7_asks_78 : decode cX7_asks 78 = .ok (.getfield 45, 3) := by decide +kernel
theorem dX7_asks_81 : decode cX7_asks 81 = .ok (.iload_n 1, 1) := by decide +kernel
theorem dX7_asks_82 : decode cX7_asks 82 = .ok (.iload_n 2, 1) := by decide +kernel
theorem dX7_asks_83 : decode cX7_asks 83 = .ok (.iconst 0, 1) := by decide +kernel
theorem dX7_asks_84 : decode cX7_asks 84 = .ok (.invokevirtual 114, 3) := by decide +kernel
theorem dX7_asks_87 : decode cX7_asks 87 = .ok (.ireturn, 1) := by decide +kernel
theorem dX7_asks_88 : decode cX7_asks 88 = .ok (.sipush (-1000), 3) := by decide +kernel
theorem dX7_asks_91 : decode cX7_asks 91 = .ok (.ireturn, 1) := by decide +kernel
theorem dX7_woken_0 : decode cX7_woken 0 = .ok (.aload_n 0, 1) := by decide +kernel
theorem dX7_woken_1 : decode cX7_woken 1 = .ok (.getfield 45, 3) := by decide +kernel
theorem dX7_woken_4 : decode cX7_woken 4 = .ok (.iload_n 1, 1) := by decide +kernel
theorem dX7_woken_5 : decode cX7_woken 5 = .ok (.invokevirtual 89, 3) := by decide +kernel
theorem dX7_woken_8 : decode cX7_woken 8 = .ok (.ifCond .eq 13, 3) := by decide +kernel
theorem dX7_woken_11 : decode cX7_woken 11 = .ok (.iload_n 2, 1) := by decide +kernel
theorem dX7_woken_12 : decode cX7_woken 12 = .ok (.ifCond .lt 9, 3) := by decide +kernel
theorem dX7_woken_15 : decode cX7_woken 15 = .ok (.iload_n 2, 1) := by decide +kernel
theorem dX7_woken_16 : decode cX7_woken 16 = .ok (.bipush 24, 2) := by decide +kernel
theorem dX7_woken_18 : decode cX7_woken 18 = .ok (.if_icmp .lt 7, 3) := by decide +kernel
theorem dX7_woken_21 : decode cX7_woken 21 = .ok (.sipush (-1000), 3) := by decide +kernel
theorem dX7_woken_24 : decode cX7_woken 24 = .ok (.ireturn, 1) := by decide +kernel
theorem dX7_woken_25 : decode cX7_woken 25 = .ok (.aload_n 0, 1) := by decide +kernel
theorem dX7_woken_26 : decode cX7_woken 26 = .ok (.getfield 19, 3) := by decide +kernel
theorem dX7_woken_29 : decode cX7_woken 29 = .ok (.aload_n 0, 1) := by decide +kernel
theorem dX7_woken_30 : decode cX7_woken 30 = .ok (.getfield 45, 3) := by decide +kernel
theorem dX7_woken_33 : decode cX7_woken 33 = .ok (.iload_n 1, 1) := by decide +kernel
theorem dX7_woken_34 : decode cX7_woken 34 = .ok (.iload_n 2, 1) := by decide +kernel
theorem dX7_woken_35 : decode cX7_woken 35 = .ok (.invokevirtual 118, 3) := by decide +kernel
theorem dX7_woken_38 : decode cX7_woken 38 = .ok (.ireturn, 1) := by decide +kernel
theorem dX7_feed_0 : decode cX7_feed 0 = .ok (.iload_n 1, 1) := by decide +kernel
theorem dX7_feed_1 : decode cX7_feed 1 = .ok (.ifCond .lt 10, 3) := by decide +kernel
theorem dX7_feed_4 : decode cX7_feed 4 = .ok (.iload_n 1, 1) := by decide +kernel
theorem dX7_feed_5 : decode cX7_feed 5 = .ok (.sipush 255, 3) := by decide +kernel
theorem dX7_feed_8 : decode cX7_feed 8 = .ok (.if_icmp .le 6, 3) := by decide +kernel
theorem dX7_feed_11 : decode cX7_feed 11 = .ok (.bipush (-2), 2) := by decide +kernel
theorem dX7_feed_13 : decode cX7_feed 13 = .ok (.ireturn, 1) := by decide +kernel
theorem dX7_feed_14 : decode cX7_feed 14 = .ok (.aload_n 0, 1) := by decide +kernel
theorem dX7_feed_15 : decode cX7_feed 15 = .ok (.getfield 10, 3) := by decide +kernel
theorem dX7_feed_18 : decode cX7_feed 18 = .ok (.iload_n 1, 1) := by decide +kernel
theorem dX7_feed_19 : decode cX7_feed 19 = .ok (.invokevirtual 121, 3) := by decide +kernel
theorem dX7_feed_22 : decode cX7_feed 22 = .ok (.ifCond .eq 13, 3) := by decide +kernel
theorem dX7_feed_25 : decode cX7_feed 25 = .ok (.aload_n 0, 1) := by decide +kernel
theorem dX7_feed_26 : decode cX7_feed 26 = .ok (.getfield 10, 3) := by decide +kernel
theorem dX7_feed_29 : decode cX7_feed 29 = .ok (.invokevirtual 124, 3) := by decide +kernel
theorem dX7_feed_32 : decode cX7_feed 32 = .ok (.goto 5, 3) := by decide +kernel
theorem dX7_feed_35 : decode cX7_feed 35 = .ok (.bipush (-4), 2) := by decide +kernel
theorem dX7_feed_37 : decode cX7_feed 37 = .ok (.ireturn, 1) := by decide +kernel
theorem dX7_text_0 : decode cX7_text 0 = .ok (.aload_n 0, 1) := by decide +kernel
theorem dX7_text_1 : decode cX7_text 1 = .ok (.getfield 19, 3) := by decide +kernel
theorem dX7_text_4 : decode cX7_text 4 = .ok (.aload_n 0, 1) := by decide +kernel
theorem dX7_text_5 : decode cX7_text 5 = .ok (.getfield 10, 3) := by decide +kernel
theorem dX7_text_8 : decode cX7_text 8 = .ok (.invokevirtual 29, 3) := by decide +kernel
theorem dX7_text_11 : decode cX7_text 11 = .ok (.ireturn, 1) := by decide +kernel
theorem dX7_force_0 : decode cX7_force 0 = .ok (.iload_n 1, 1) := by decide +kernel
theorem dX7_force_1 : decode cX7_force 1 = .ok (.ifCond .lt 14, 3) := by decide +kernel
theorem dX7_force_4 : decode cX7_force 4 = .ok (.iload_n 1, 1) := by decide +kernel
theorem dX7_force_5 : decode cX7_force 5 = .ok (.aload_n 0, 1) := by decide +kernel
theorem dX7_force_6 : decode cX7_force 6 = .ok (.getfield 19, 3) := by decide +kernel
theorem dX7_force_9 : decode cX7_force 9 = .ok (.invokevirtual 128, 3) := by decide +kernel
theorem dX7_force_12 : decode cX7_force 12 = .ok (.if_icmp .lt 6, 3) := by decide +kernel
theorem dX7_force_15 : decode cX7_force 15 = .ok (.bipush (-2), 2) := by decide +kernel
theorem dX7_force_17 : decode cX7_force 17 = .ok (.ireturn, 1) := by decide +kernel
theorem dX7_force_18 : decode cX7_force 18 = .ok (.aload_n 0, 1) := by decide +kernel
theorem dX7_force_19 : decode cX7_force 19 = .ok (.getfield 45, 3) := by decide +kernel
theorem dX7_force_22 : decode cX7_force 22 = .ok (.invokevirtual 131, 3) := by decide +kernel
theorem dX7_force_25 : decode cX7_force 25 = .ok (.istore_n 2, 1) := by decide +kernel
theorem dX7_force_26 : decode cX7_force 26 = .ok (.aload_n 0, 1) := by decide +kernel
theorem dX7_force_27 : decode cX7_force 27 = .ok (.getfield 45, 3) := by decide +kernel
theorem dX7_force_30 : decode cX7_force 30 = .ok (.bipush 8, 2) := by decide +kernel
theorem dX7_force_32 : decode cX7_force 32 = .ok (.iconst (-1), 1) := by decide +kernel
theorem dX7_force_33 : decode cX7_force 33 = .ok (.iload_n 1, 1) := by decide +kernel
theorem dX7_force_34 : decode cX7_force 34 = .ok (.invokevirtual 81, 3) := by decide +kernel
theorem dX7_force_37 : decode cX7_force 37 = .ok (.iload_n 2, 1) := by decide +kernel
theorem dX7_force_38 : decode cX7_force 38 = .ok (.ireturn, 1) := by decide +kernel
theorem dX7_day_0 : decode cX7_day 0 = .ok (.aload_n 0, 1) := by decide +kernel
theorem dX7_day_1 : decode cX7_day 1 = .ok (.getfield 45, 3) := by decide +kernel
theorem dX7_day_4 : decode cX7_day 4 = .ok (.invokevirtual 134, 3) := by decide +kernel
theorem dX7_day_7 : decode cX7_day 7 = .ok (.sipush 999, 3) := by decide +kernel
theorem dX7_day_10 : decode cX7_day 10 = .ok (.if_icmp .lt 6, 3) := by decide +kernel
theorem dX7_day_13 : decode cX7_day 13 = .ok (.bipush (-3), 2) := by decide +kernel
theorem dX7_day_15 : decode cX7_day 15 = .ok (.ireturn, 1) := by decide +kernel
theorem dX7_day_16 : decode cX7_day 16 = .ok (.aload_n 0, 1) := by decide +kernel
theorem dX7_day_17 : decode cX7_day 17 = .ok (.getfield 38, 3) := by decide +kernel
theorem dX7_day_20 : decode cX7_day 20 = .ok (.aload_n 0, 1) := by decide +kernel
theorem dX7_day_21 : decode cX7_day 21 = .ok (.getfield 45, 3) := by decide +kernel
theorem dX7_day_24 : decode cX7_day 24 = .ok (.invokevirtual 137, 3) := by decide +kernel
theorem dX7_day_27 : decode cX7_day 27 = .ok (.aload_n 0, 1) := by decide +kernel
theorem dX7_day_28 : decode cX7_day 28 = .ok (.getfield 38, 3) := by decide +kernel
theorem dX7_day_31 : decode cX7_day 31 = .ok (.aload_n 0, 1) := by decide +kernel
theorem dX7_day_32 : decode cX7_day 32 = .ok (.getfield 45, 3) := by decide +kernel
theorem dX7_day_35 : decode cX7_day 35 = .ok (.invokevirtual 141, 3) := by decide +kernel
theorem dX7_day_38 : decode cX7_day 38 = .ok (.aload_n 0, 1) := by decide +kernel
theorem dX7_day_39 : decode cX7_day 39 = .ok (.getfield 38, 3) := by decide +kernel
theorem dX7_day_42 : decode cX7_day 42 = .ok (.aload_n 0, 1) := by decide +kernel
theorem dX7_day_43 : decode cX7_day 43 = .ok (.getfield 45, 3) := by decide +kernel
theorem dX7_day_46 : decode cX7_day 46 = .ok (.invokevirtual 144, 3) := by decide +kernel
theorem dX7_day_49 : decode cX7_day 49 = .ok (.ireturn, 1) := by decide +kernel
theorem dX7_run_0 : decode cX7_run 0 = .ok (.aload_n 0, 1) := by decide +kernel
theorem dX7_run_1 : decode cX7_run 1 = .ok (.getfield 45, 3) := by decide +kernel
theorem dX7_run_4 : decode cX7_run 4 = .ok (.iload_n 1, 1) := by decide +kernel
theorem dX7_run_5 : decode cX7_run 5 = .ok (.invokevirtual 89, 3) := by decide +kernel
theorem dX7_run_8 : decode cX7_run 8 = .ok (.ifCond .eq 22, 3) := by decide +kernel
theorem dX7_run_11 : decode cX7_run 11 = .ok (.iload_n 2, 1) := by decide +kernel
theorem dX7_run_12 : decode cX7_run 12 = .ok (.ifCond .lt 18, 3) := by decide +kernel
theorem dX7_run_15 : decode cX7_run 15 = .ok (.iload_n 2, 1) := by decide +kernel
theorem dX7_run_16 : decode cX7_run 16 = .ok (.bipush 40, 2) := by decide +kernel
theorem dX7_run_18 : decode cX7_run 18 = .ok (.if_icmp .gt 12, 3) := by decide +kernel
theorem dX7_run_21 : decode cX7_run 21 = .ok (.iload_n 3, 1) := by decide +kernel
theorem dX7_run_22 : decode cX7_run 22 = .ok (.ifCond .lt 8, 3) := by decide +kernel
theorem dX7_run_25 : decode cX7_run 25 = .ok (.iload_n 3, 1) := by decide +kernel
theorem dX7_run_26 : decode cX7_run 26 = .ok (.iconst 4, 1) := by decide +kernel
theorem dX7_run_27 : decode cX7_run 27 = .ok (.if_icmp .le 6, 3) := by decide +kernel
theorem dX7_run_30 : decode cX7_run 30 = .ok (.bipush (-2), 2) := by decide +kernel
theorem dX7_run_32 : decode cX7_run 32 = .ok (.ireturn, 1) := by decide +kernel
theorem dX7_run_33 : decode cX7_run 33 = .ok (.aload_n 0, 1) := by decide +kernel
theorem dX7_run_34 : decode cX7_run 34 = .ok (.getfield 49, 3) := by decide +kernel
theorem dX7_run_37 : decode cX7_run 37 = .ok (.aload_n 0, 1) := by decide +kernel
theorem dX7_run_38 : decode cX7_run 38 = .ok (.getfield 45, 3) := by decide +kernel
theorem dX7_run_41 : decode cX7_run 41 = .ok (.invokevirtual 148, 3) := by decide +kernel
theorem dX7_run_44 : decode cX7_run 44 = .ok (.aload_n 0, 1) := by decide +kernel
theorem dX7_run_45 : decode cX7_run 45 = .ok (.iload_n 2, 1) := by decide +kernel
theorem dX7_run_46 : decode cX7_run 46 = .ok (.invokevirtual 151, 3) := by decide +kernel
theorem dX7_run_49 : decode cX7_run 49 = .ok (.iload_n 3, 1) := by decide +kernel
theorem dX7_run_50 : decode cX7_run 50 = .ok (.tableswitch 89 0 3 #[30, 43, 53, 63], 30) := by decide +kernel
theorem dX7_run_80 : decode cX7_run 80 = .ok (.aload_n 0, 1) := by decide +kernel
theorem dX7_run_81 : decode cX7_run 81 = .ok (.getfield 38, 3) := by decide +kernel
theorem dX7_run_84 : decode cX7_run 84 = .ok (.aload_n 0, 1) := by decide +kernel
theorem dX7_run_85 : decode cX7_run 85 = .ok (.getfield 49, 3) := by decide +kernel
theorem dX7_run_88 : decode cX7_run 88 = .ok (.iload_n 1, 1) := by decide +kernel
theorem dX7_run_89 : decode cX7_run 89 = .ok (.invokevirtual 97, 3) := by decide +kernel
theorem dX7_run_92 : decode cX7_run 92 = .ok (.ireturn, 1) := by decide +kernel
theorem dX7_run_93 : decode cX7_run 93 = .ok (.aload_n 0, 1) := by decide +kernel
theorem dX7_run_94 : decode cX7_run 94 = .ok (.getfield 49, 3) := by decide +kernel
theorem dX7_run_97 : decode cX7_run 97 = .ok (.iconst 3, 1) := by decide +kernel
theorem dX7_run_98 : decode cX7_run 98 = .ok (.iload_n 1, 1) := by decide +kernel
theorem dX7_run_99 : decode cX7_run 99 = .ok (.invokevirtual 77, 3) := by decide +kernel
theorem dX7_run_102 : decode cX7_run 102 = .ok (.ireturn, 1) := by decide +kernel
theorem dX7_run_103 : decode cX7_run 103 = .ok (.aload_n 0, 1) := by decide +kernel
theorem dX7_run_104 : decode cX7_run 104 = .ok (.getfield 49, 3) := by decide +kernel
theorem dX7_run_107 : decode cX7_run 107 = .ok (.iconst 5, 1) := by decide +kernel
theorem dX7_run_108 : decode cX7_run 108 = .ok (.iload_n 1, 1) := by decide +kernel
theorem dX7_run_109 : decode cX7_run 109 = .ok (.invokevirtual 77, 3) := by decide +kernel
theorem dX7_run_112 : decode cX7_run 112 = .ok (.ireturn, 1) := by decide +kernel
theorem dX7_run_113 : decode cX7_run 113 = .ok (.aload_n 0, 1) := by decide +kernel
theorem dX7_run_114 : decode cX7_run 114 = .ok (.getfield 38, 3) := by decide +kernel
theorem dX7_run_117 : decode cX7_run 117 = .ok (.aload_n 0, 1) := by decide +kernel
theorem dX7_run_118 : decode cX7_run 118 = .ok (.getfield 49, 3) := by decide +kernel
theorem dX7_run_121 : decode cX7_run 121 = .ok (.invokevirtual 137, 3) := by decide +kernel
theorem dX7_run_124 : decode cX7_run 124 = .ok (.aload_n 0, 1) := by decide +kernel
theorem dX7_run_125 : decode cX7_run 125 = .ok (.getfield 38, 3) := by decide +kernel
theorem dX7_run_128 : decode cX7_run 128 = .ok (.aload_n 0, 1) := by decide +kernel
theorem dX7_run_129 : decode cX7_run 129 = .ok (.getfield 49, 3) := by decide +kernel
theorem dX7_run_132 : decode cX7_run 132 = .ok (.invokevirtual 144, 3) := by decide +kernel
theorem dX7_run_135 : decode cX7_run 135 = .ok (.invokestatic 155, 3) := by decide +kernel
theorem dX7_run_138 : decode cX7_run 138 = .ok (.ireturn, 1) := by decide +kernel
theorem dX7_run_139 : decode cX7_run 139 = .ok (.aload_n 0, 1) := by decide +kernel
theorem dX7_run_140 : decode cX7_run 140 = .ok (.getfield 49, 3) := by decide +kernel
theorem dX7_run_143 : decode cX7_run 143 = .ok (.iconst 4, 1) := by decide +kernel
theorem dX7_run_144 : decode cX7_run 144 = .ok (.invokevirtual 160, 3) := by decide +kernel
theorem dX7_run_147 : decode cX7_run 147 = .ok (.ireturn, 1) := by decide +kernel
theorem dX7_round_0 : decode cX7_round 0 = .ok (.aload_n 0, 1) := by decide +kernel
theorem dX7_round_1 : decode cX7_round 1 = .ok (.getfield 45, 3) := by decide +kernel
theorem dX7_round_4 : decode cX7_round 4 = .ok (.iload_n 1, 1) := by decide +kernel
theorem dX7_round_5 : decode cX7_round 5 = .ok (.invokevirtual 89, 3) := by decide +kernel
theorem dX7_round_8 : decode cX7_round 8 = .ok (.ifCond .ne 6, 3) := by decide +kernel
theorem dX7_round_11 : decode cX7_round 11 = .ok (.bipush (-2), 2) := by decide +kernel
theorem dX7_round_13 : decode cX7_round 13 = .ok (.ireturn, 1) := by decide +kernel
theorem dX7_round_14 : decode cX7_round 14 = .ok (.iconst 1, 1) := by decide +kernel
theorem dX7_round_15 : decode cX7_round 15 = .ok (.iload_n 1, 1) := by decide +kernel
theorem dX7_round_16 : decode cX7_round 16 = .ok (.ishl, 1) := by decide +kernel
theorem dX7_round_17 : decode cX7_round 17 = .ok (.istore_n 2, 1) := by decide +kernel
theorem dX7_round_18 : decode cX7_round 18 = .ok (.iload_n 1, 1) := by decide +kernel
theorem dX7_round_19 : decode cX7_round 19 = .ok (.istore_n 3, 1) := by decide +kernel
theorem dX7_round_20 : decode cX7_round 20 = .ok (.iconst 1, 1) := by decide +kernel
theorem dX7_round_21 : decode cX7_round 21 = .ok (.istore 4, 2) := by decide +kernel
theorem dX7_round_23 : decode cX7_round 23 = .ok (.iload 4, 2) := by decide +kernel
theorem dX7_round_25 : decode cX7_round 25 = .ok (.iconst 5, 1) := by decide +kernel
theorem dX7_round_26 : decode cX7_round 26 = .ok (.if_icmp .gt 42, 3) := by decide +kernel
theorem dX7_round_29 : decode cX7_round 29 = .ok (.aload_n 0, 1) := by decide +kernel
theorem dX7_round_30 : decode cX7_round 30 = .ok (.getfield 45, 3) := by decide +kernel
theorem dX7_round_33 : decode cX7_round 33 = .ok (.iload_n 3, 1) := by decide +kernel
theorem dX7_round_34 : decode cX7_round 34 = .ok (.invokevirtual 93, 3) := by decide +kernel
theorem dX7_round_37 : decode cX7_round 37 = .ok (.istore_n 3, 1) := by decide +kernel
theorem dX7_round_38 : decode cX7_round 38 = .ok (.iload_n 3, 1) := by decide +kernel
theorem dX7_round_39 : decode cX7_round 39 = .ok (.iconst (-1), 1) := by decide +kernel
theorem dX7_round_40 : decode cX7_round 40 = .ok (.if_icmp .ne 5, 3) := by decide +kernel
theorem dX7_round_43 : decode cX7_round 43 = .ok (.iconst (-1), 1) := by decide +kernel
theorem dX7_round_44 : decode cX7_round 44 = .ok (.ireturn, 1) := by decide +kernel
theorem dX7_round_45 : decode cX7_round 45 = .ok (.iload_n 2, 1) := by decide +kernel
theorem dX7_round_46 : decode cX7_round 46 = .ok (.iload_n 3, 1) := by decide +kernel
theorem dX7_round_47 : decode cX7_round 47 = .ok (.ishr, 1) := by decide +kernel
theorem dX7_round_48 : decode cX7_round 48 = .ok (.iconst 1, 1) := by decide +kernel
theorem dX7_round_49 : decode cX7_round 49 = .ok (.iand, 1) := by decide +kernel
theorem dX7_round_50 : decode cX7_round 50 = .ok (.ifCond .eq 6, 3) := by decide +kernel
theorem dX7_round_53 : decode cX7_round 53 = .ok (.iload 4, 2) := by decide +kernel
theorem dX7_round_55 : decode cX7_round 55 = .ok (.ireturn, 1) := by decide +kernel
theorem dX7_round_56 : decode cX7_round 56 = .ok (.iload_n 2, 1) := by decide +kernel
theorem dX7_round_57 : decode cX7_round 57 = .ok (.iconst 1, 1) := by decide +kernel
theorem dX7_round_58 : decode cX7_round 58 = .ok (.iload_n 3, 1) := by decide +kernel
theorem dX7_round_59 : decode cX7_round 59 = .ok (.ishl, 1) := by decide +kernel
theorem dX7_round_60 : decode cX7_round 60 = .ok (.ior, 1) := by decide +kernel
theorem dX7_round_61 : decode cX7_round 61 = .ok (.istore_n 2, 1) := by decide +kernel
theorem dX7_round_62 : decode cX7_round 62 = .ok (.iinc 4 1, 3) := by decide +kernel
theorem dX7_round_65 : decode cX7_round 65 = .ok (.goto (-42), 3) := by decide +kernel
theorem dX7_round_68 : decode cX7_round 68 = .ok (.iconst (-1), 1) := by decide +kernel
theorem dX7_round_69 : decode cX7_round 69 = .ok (.ireturn, 1) := by decide +kernel
theorem dX7_others_0 : decode cX7_others 0 = .ok (.iload_n 1, 1) := by decide +kernel
theorem dX7_others_1 : decode cX7_others 1 = .ok (.ifCond .lt 8, 3) := by decide +kernel
theorem dX7_others_4 : decode cX7_others 4 = .ok (.iload_n 1, 1) := by decide +kernel
theorem dX7_others_5 : decode cX7_others 5 = .ok (.iconst 1, 1) := by decide +kernel
theorem dX7_others_6 : decode cX7_others 6 = .ok (.if_icmp .le 6, 3) := by decide +kernel
theorem dX7_others_9 : decode cX7_others 9 = .ok (.bipush (-2), 2) := by decide +kernel
theorem dX7_others_11 : decode cX7_others 11 = .ok (.ireturn, 1) := by decide +kernel
theorem dX7_others_12 : decode cX7_others 12 = .ok (.aload_n 0, 1) := by decide +kernel
theorem dX7_others_13 : decode cX7_others 13 = .ok (.getfield 45, 3) := by decide +kernel
theorem dX7_others_16 : decode cX7_others 16 = .ok (.invokevirtual 163, 3) := by decide +kernel
theorem dX7_others_19 : decode cX7_others 19 = .ok (.iconst 2, 1) := by decide +kernel
theorem dX7_others_20 : decode cX7_others 20 = .ok (.if_icmp .ge 5, 3) := by decide +kernel
theorem dX7_others_23 : decode cX7_others 23 = .ok (.iconst (-1), 1) := by decide +kernel
theorem dX7_others_24 : decode cX7_others 24 = .ok (.ireturn, 1) := by decide +kernel
theorem dX7_others_25 : decode cX7_others 25 = .ok (.aload_n 0, 1) := by decide +kernel
theorem dX7_others_26 : decode cX7_others 26 = .ok (.getfield 58, 3) := by decide +kernel
theorem dX7_others_29 : decode cX7_others 29 = .ok (.aload_n 0, 1) := by decide +kernel
theorem dX7_others_30 : decode cX7_others 30 = .ok (.getfield 45, 3) := by decide +kernel
theorem dX7_others_33 : decode cX7_others 33 = .ok (.aload_n 0, 1) := by decide +kernel
theorem dX7_others_34 : decode cX7_others 34 = .ok (.getfield 19, 3) := by decide +kernel
theorem dX7_others_37 : decode cX7_others 37 = .ok (.invokevirtual 164, 3) := by decide +kernel
theorem dX7_others_40 : decode cX7_others 40 = .ok (.iload_n 1, 1) := by decide +kernel
theorem dX7_others_41 : decode cX7_others 41 = .ok (.ifCond .ne 13, 3) := by decide +kernel
theorem dX7_others_44 : decode cX7_others 44 = .ok (.aload_n 0, 1) := by decide +kernel
theorem dX7_others_45 : decode cX7_others 45 = .ok (.getfield 58, 3) := by decide +kernel
theorem dX7_others_48 : decode cX7_others 48 = .ok (.invokevirtual 168, 3) := by decide +kernel
theorem dX7_others_51 : decode cX7_others 51 = .ok (.goto 10, 3) := by decide +kernel
theorem dX7_others_54 : decode cX7_others 54 = .ok (.aload_n 0, 1) := by decide +kernel
theorem dX7_others_55 : decode cX7_others 55 = .ok (.getfield 58, 3) := by decide +kernel
theorem dX7_others_58 : decode cX7_others 58 = .ok (.invokevirtual 171, 3) := by decide +kernel
theorem dX7_others_61 : decode cX7_others 61 = .ok (.ireturn, 1) := by decide +kernel
theorem dX7_duty_0 : decode cX7_duty 0 = .ok (.aload_n 0, 1) := by decide +kernel
theorem dX7_duty_1 : decode cX7_duty 1 = .ok (.getfield 45, 3) := by decide +kernel
theorem dX7_duty_4 : decode cX7_duty 4 = .ok (.iload_n 1, 1) := by decide +kernel
theorem dX7_duty_5 : decode cX7_duty 5 = .ok (.invokevirtual 89, 3) := by decide +kernel
theorem dX7_duty_8 : decode cX7_duty 8 = .ok (.ifCond .eq 22, 3) := by decide +kernel
theorem dX7_duty_11 : decode cX7_duty 11 = .ok (.iload_n 2, 1) := by decide +kernel
theorem dX7_duty_12 : decode cX7_duty 12 = .ok (.ifCond .lt 18, 3) := by decide +kernel
theorem dX7_duty_15 : decode cX7_duty 15 = .ok (.iload_n 2, 1) := by decide +kernel
theorem dX7_duty_16 : decode cX7_duty 16 = .ok (.bipush 20, 2) := by decide +kernel
theorem dX7_duty_18 : decode cX7_duty 18 = .ok (.if_icmp .gt 12, 3) := by decide +kernel
theorem dX7_duty_21 : decode cX7_duty 21 = .ok (.iload_n 3, 1) := by decide +kernel
theorem dX7_duty_22 : decode cX7_duty 22 = .ok (.ifCond .lt 8, 3) := by decide +kernel
theorem dX7_duty_25 : decode cX7_duty 25 = .ok (.iload_n 3, 1) := by decide +kernel
theorem dX7_duty_26 : decode cX7_duty 26 = .ok (.iconst 1, 1) := by decide +kernel
theorem dX7_duty_27 : decode cX7_duty 27 = .ok (.if_icmp .le 6, 3) := by decide +kernel
theorem dX7_duty_30 : decode cX7_duty 30 = .ok (.bipush (-2), 2) := by decide +kernel
theorem dX7_duty_32 : decode cX7_duty 32 = .ok (.ireturn, 1) := by decide +kernel
theorem dX7_duty_33 : decode cX7_duty 33 = .ok (.iconst 0, 1) := by decide +kernel
theorem dX7_duty_34 : decode cX7_duty 34 = .ok (.istore 4, 2) := by decide +kernel
theorem dX7_duty_36 : decode cX7_duty 36 = .ok (.ldc 174, 2) := by decide +kernel
theorem dX7_duty_38 : decode cX7_duty 38 = .ok (.istore 5, 2) := by decide +kernel
theorem dX7_duty_40 : decode cX7_duty 40 = .ok (.iconst 0, 1) := by decide +kernel
theorem dX7_duty_41 : decode cX7_duty 41 = .ok (.istore 6, 2) := by decide +kernel
theorem dX7_duty_43 : decode cX7_duty 43 = .ok (.iload 6, 2) := by decide +kernel
theorem dX7_duty_45 : decode cX7_duty 45 = .ok (.bipush 24, 2) := by decide +kernel
theorem dX7_duty_47 : decode cX7_duty 47 = .ok (.if_icmp .ge 35, 3) := by decide +kernel
theorem dX7_duty_50 : decode cX7_duty 50 = .ok (.aload_n 0, 1) := by decide +kernel
theorem dX7_duty_51 : decode cX7_duty 51 = .ok (.iload_n 2, 1) := by decide +kernel
theorem dX7_duty_52 : decode cX7_duty 52 = .ok (.iconst 2, 1) := by decide +kernel
theorem dX7_duty_53 : decode cX7_duty 53 = .ok (.iload_n 1, 1) := by decide +kernel
theorem dX7_duty_54 : decode cX7_duty 54 = .ok (.iload 6, 2) := by decide +kernel
theorem dX7_duty_56 : decode cX7_duty 56 = .ok (.invokevirtual 175, 3) := by decide +kernel
theorem dX7_duty_59 : decode cX7_duty 59 = .ok (.istore 7, 2) := by decide +kernel
theorem dX7_duty_61 : decode cX7_duty 61 = .ok (.iload 7, 2) := by decide +kernel
theorem dX7_duty_63 : decode cX7_duty 63 = .ok (.iload 5, 2) := by decide +kernel
theorem dX7_duty_65 : decode cX7_duty 65 = .ok (.if_icmp .ge 11, 3) := by decide +kernel
theorem dX7_duty_68 : decode cX7_duty 68 = .ok (.iload 7, 2) := by decide +kernel
theorem dX7_duty_70 : decode cX7_duty 70 = .ok (.istore 5, 2) := by decide +kernel
theorem dX7_duty_72 : decode cX7_duty 72 = .ok (.iload 6, 2) := by decide +kernel
theorem dX7_duty_74 : decode cX7_duty 74 = .ok (.istore 4, 2) := by decide +kernel
theorem dX7_duty_76 : decode cX7_duty 76 = .ok (.iinc 6 1, 3) := by decide +kernel
theorem dX7_duty_79 : decode cX7_duty 79 = .ok (.goto (-36), 3) := by decide +kernel
theorem dX7_duty_82 : decode cX7_duty 82 = .ok (.iload_n 3, 1) := by decide +kernel
theorem dX7_duty_83 : decode cX7_duty 83 = .ok (.ifCond .ne 8, 3) := by decide +kernel
theorem dX7_duty_86 : decode cX7_duty 86 = .ok (.iload 4, 2) := by decide +kernel
theorem dX7_duty_88 : decode cX7_duty 88 = .ok (.goto 5, 3) := by decide +kernel
theorem dX7_duty_91 : decode cX7_duty 91 = .ok (.iload 5, 2) := by decide +kernel
theorem dX7_duty_93 : decode cX7_duty 93 = .ok (.ireturn, 1) := by decide +kernel
theorem dX7_fonder_0 : decode cX7_fonder 0 = .ok (.aload_n 0, 1) := by decide +kernel
theorem dX7_fonder_1 : decode cX7_fonder 1 = .ok (.getfield 45, 3) := by decide +kernel
theorem dX7_fonder_4 : decode cX7_fonder 4 = .ok (.iload_n 1, 1) := by decide +kernel
theorem dX7_fonder_5 : decode cX7_fonder 5 = .ok (.invokevirtual 89, 3) := by decide +kernel
theorem dX7_fonder_8 : decode cX7_fonder 8 = .ok (.ifCond .eq 22, 3) := by decide +kernel
theorem dX7_fonder_11 : decode cX7_fonder 11 = .ok (.iload_n 2, 1) := by decide +kernel
theorem dX7_fonder_12 : decode cX7_fonder 12 = .ok (.ifCond .lt 18, 3) := by decide +kernel
theorem dX7_fonder_15 : decode cX7_fonder 15 = .ok (.iload_n 2, 1) := by decide +kernel
theorem dX7_fonder_16 : decode cX7_fonder 16 = .ok (.bipush 20, 2) := by decide +kernel
theorem dX7_fonder_18 : decode cX7_fonder 18 = .ok (.if_icmp .gt 12, 3) := by decide +kernel
theorem dX7_fonder_21 : decode cX7_fonder 21 = .ok (.iload_n 3, 1) := by decide +kernel
theorem dX7_fonder_22 : decode cX7_fonder 22 = .ok (.ifCond .lt 8, 3) := by decide +kernel
theorem dX7_fonder_25 : decode cX7_fonder 25 = .ok (.iload_n 3, 1) := by decide +kernel
theorem dX7_fonder_26 : decode cX7_fonder 26 = .ok (.iconst 1, 1) := by decide +kernel
theorem dX7_fonder_27 : decode cX7_fonder 27 = .ok (.if_icmp .le 6, 3) := by decide +kernel
theorem dX7_fonder_30 : decode cX7_fonder 30 = .ok (.bipush (-2), 2) := by decide +kernel
theorem dX7_fonder_32 : decode cX7_fonder 32 = .ok (.ireturn, 1) := by decide +kernel
theorem dX7_fonder_33 : decode cX7_fonder 33 = .ok (.iconst (-1), 1) := by decide +kernel
theorem dX7_fonder_34 : decode cX7_fonder 34 = .ok (.istore 4, 2) := by decide +kernel
theorem dX7_fonder_36 : decode cX7_fonder 36 = .ok (.aload_n 0, 1) := by decide +kernel
theorem dX7_fonder_37 : decode cX7_fonder 37 = .ok (.iload_n 2, 1) := by decide +kernel
theorem dX7_fonder_38 : decode cX7_fonder 38 = .ok (.bipush 9, 2) := by decide +kernel
theorem dX7_fonder_40 : decode cX7_fonder 40 = .ok (.iconst (-1), 1) := by decide +kernel
theorem dX7_fonder_41 : decode cX7_fonder 41 = .ok (.iconst (-1), 1) := by decide +kernel
theorem dX7_fonder_42 : decode cX7_fonder 42 = .ok (.invokevirtual 175, 3) := by decide +kernel
theorem dX7_fonder_45 : decode cX7_fonder 45 = .ok (.istore 5, 2) := by decide +kernel
theorem dX7_fonder_47 : decode cX7_fonder 47 = .ok (.iconst 0, 1) := by decide +kernel
theorem dX7_fonder_48 : decode cX7_fonder 48 = .ok (.istore 6, 2) := by decide +kernel
theorem dX7_fonder_50 : decode cX7_fonder 50 = .ok (.iload 6, 2) := by decide +kernel
theorem dX7_fonder_52 : decode cX7_fonder 52 = .ok (.aload_n 0, 1) := by decide +kernel
theorem dX7_fonder_53 : decode cX7_fonder 53 = .ok (.getfield 45, 3) := by decide +kernel
theorem dX7_fonder_56 : decode cX7_fonder 56 = .ok (.invokevirtual 163, 3) := by decide +kernel
theorem dX7_fonder_59 : decode cX7_fonder 59 = .ok (.if_icmp .ge 52, 3) := by decide +kernel
theorem dX7_fonder_62 : decode cX7_fonder 62 = .ok (.iload 6, 2) := by decide +kernel
theorem dX7_fonder_64 : decode cX7_fonder 64 = .ok (.iload_n 1, 1) := by decide +kernel
theorem dX7_fonder_65 : decode cX7_fonder 65 = .ok (.if_icmp .eq 40, 3) := by decide +kernel
theorem dX7_fonder_68 : decode cX7_fonder 68 = .ok (.aload_n 0, 1) := by decide +kernel
theorem dX7_fonder_69 : decode cX7_fonder 69 = .ok (.iload_n 2, 1) := by decide +kernel
theorem dX7_fonder_70 : decode cX7_fonder 70 = .ok (.bipush 6, 2) := by decide +kernel
theorem dX7_fonder_72 : decode cX7_fonder 72 = .ok (.bipush 10, 2) := by decide +kernel
theorem dX7_fonder_74 : decode cX7_fonder 74 = .ok (.iload_n 1, 1) := by decide +kernel
theorem dX7_fonder_75 : decode cX7_fonder 75 = .ok (.imul, 1) := by decide +kernel
theorem dX7_fonder_76 : decode cX7_fonder 76 = .ok (.iload 6, 2) := by decide +kernel
theorem dX7_fonder_78 : decode cX7_fonder 78 = .ok (.iadd, 1) := by decide +kernel
theorem dX7_fonder_79 : decode cX7_fonder 79 = .ok (.getstatic 73, 3) := by decide +kernel
theorem dX7_fonder_82 : decode cX7_fonder 82 = .ok (.bipush 6, 2) := by decide +kernel
theorem dX7_fonder_84 : decode cX7_fonder 84 = .ok (.iaload, 1) := by decide +kernel
theorem dX7_fonder_85 : decode cX7_fonder 85 = .ok (.invokevirtual 175, 3) := by decide +kernel
theorem dX7_fonder_88 : decode cX7_fonder 88 = .ok (.istore 7, 2) := by decide +kernel
theorem dX7_fonder_90 : decode cX7_fonder 90 = .ok (.iload 7, 2) := by decide +kernel
theorem dX7_fonder_92 : decode cX7_fonder 92 = .ok (.iload 5, 2) := by decide +kernel
theorem dX7_fonder_94 : decode cX7_fonder 94 = .ok (.if_icmp .ge 11, 3) := by decide +kernel
theorem dX7_fonder_97 : decode cX7_fonder 97 = .ok (.iload 7, 2) := by decide +kernel
theorem dX7_fonder_99 : decode cX7_fonder 99 = .ok (.istore 5, 2) := by decide +kernel
theorem dX7_fonder_101 : decode cX7_fonder 101 = .ok (.iload 6, 2) := by decide +kernel
theorem dX7_fonder_103 : decode cX7_fonder 103 = .ok (.istore 4, 2) := by decide +kernel
theorem dX7_fonder_105 : decode cX7_fonder 105 = .ok (.iinc 6 1, 3) := by decide +kernel
theorem dX7_fonder_108 : decode cX7_fonder 108 = .ok (.goto (-58), 3) := by decide +kernel
theorem dX7_fonder_111 : decode cX7_fonder 111 = .ok (.iload_n 3, 1) := by decide +kernel
theorem dX7_fonder_112 : decode cX7_fonder 112 = .ok (.ifCond .ne 8, 3) := by decide +kernel
theorem dX7_fonder_115 : decode cX7_fonder 115 = .ok (.iload 4, 2) := by decide +kernel
theorem dX7_fonder_117 : decode cX7_fonder 117 = .ok (.goto 5, 3) := by decide +kernel
theorem dX7_fonder_120 : decode cX7_fonder 120 = .ok (.iload 5, 2) := by decide +kernel
theorem dX7_fonder_122 : decode cX7_fonder 122 = .ok (.ireturn, 1) := by decide +kernel
theorem dX7_mean_0 : decode cX7_mean 0 = .ok (.iload_n 1, 1) := by decide +kernel
theorem dX7_mean_1 : decode cX7_mean 1 = .ok (.ifCond .lt 18, 3) := by decide +kernel
theorem dX7_mean_4 : decode cX7_mean 4 = .ok (.iload_n 1, 1) := by decide +kernel
theorem dX7_mean_5 : decode cX7_mean 5 = .ok (.iconst 1, 1) := by decide +kernel
theorem dX7_mean_6 : decode cX7_mean 6 = .ok (.if_icmp .gt 13, 3) := by decide +kernel
theorem dX7_mean_9 : decode cX7_mean 9 = .ok (.aload_n 0, 1) := by decide +kernel
theorem dX7_mean_10 : decode cX7_mean 10 = .ok (.getfield 45, 3) := by decide +kernel
theorem dX7_mean_13 : decode cX7_mean 13 = .ok (.invokevirtual 163, 3) := by decide +kernel
theorem dX7_mean_16 : decode cX7_mean 16 = .ok (.ifCond .ne 7, 3) := by decide +kernel
theorem dX7_mean_19 : decode cX7_mean 19 = .ok (.ldc2_w 179, 3) := by decide +kernel
theorem dX7_mean_22 : decode cX7_mean 22 = .ok (.lreturn, 1) := by decide +kernel
theorem dX7_mean_23 : decode cX7_mean 23 = .ok (.aload_n 0, 1) := by decide +kernel
theorem dX7_mean_24 : decode cX7_mean 24 = .ok (.getfield 45, 3) := by decide +kernel
theorem dX7_mean_27 : decode cX7_mean 27 = .ok (.iconst 5, 1) := by decide +kernel
theorem dX7_mean_28 : decode cX7_mean 28 = .ok (.invokevirtual 160, 3) := by decide +kernel
theorem dX7_mean_31 : decode cX7_mean 31 = .ok (.aload_n 0, 1) := by decide +kernel
theorem dX7_mean_32 : decode cX7_mean 32 = .ok (.getfield 45, 3) := by decide +kernel
theorem dX7_mean_35 : decode cX7_mean 35 = .ok (.invokevirtual 163, 3) := by decide +kernel
theorem dX7_mean_38 : decode cX7_mean 38 = .ok (.iload_n 1, 1) := by decide +kernel
theorem dX7_mean_39 : decode cX7_mean 39 = .ok (.invokestatic 181, 3) := by decide +kernel
theorem dX7_mean_42 : decode cX7_mean 42 = .ok (.lreturn, 1) := by decide +kernel
theorem dX7_tells_0 : decode cX7_tells 0 = .ok (.iload_n 1, 1) := by decide +kernel
theorem dX7_tells_1 : decode cX7_tells 1 = .ok (.invokestatic 185, 3) := by decide +kernel
theorem dX7_tells_4 : decode cX7_tells 4 = .ok (.ifCond .eq 37, 3) := by decide +kernel
theorem dX7_tells_7 : decode cX7_tells 7 = .ok (.aload_n 0, 1) := by decide +kernel
theorem dX7_tells_8 : decode cX7_tells 8 = .ok (.getfield 45, 3) := by decide +kernel
theorem dX7_tells_11 : decode cX7_tells 11 = .ok (.iload_n 2, 1) := by decide +kernel
theorem dX7_tells_12 : decode cX7_tells 12 = .ok (.invokevirtual 89, 3) := by decide +kernel
theorem dX7_tells_15 : decode cX7_tells 15 = .ok (.ifCond .eq 26, 3) := by decide +kernel
theorem dX7_tells_18 : decode cX7_tells 18 = .ok (.aload_n 0, 1) := by decide +kernel
theorem dX7_tells_19 : decode cX7_tells 19 = .ok (.getfield 45, 3) := by decide +kernel
theorem dX7_tells_22 : decode cX7_tells 22 = .ok (.iload_n 3, 1) := by decide +kernel
theorem dX7_tells_23 : decode cX7_tells 23 = .ok (.invokevirtual 89, 3) := by decide +kernel
theorem dX7_tells_26 : decode cX7_tells 26 = .ok (.ifCond .eq 15, 3) := by decide +kernel
theorem dX7_tells_29 : decode cX7_tells 29 = .ok (.iload 4, 2) := by decide +kernel
theorem dX7_tells_31 : decode cX7_tells 31 = .ok (.ifCond .lt 10, 3) := by decide +kernel
theorem dX7_tells_34 : decode cX7_tells 34 = .ok (.iload 4, 2) := by decide +kernel
theorem dX7_tells_36 : decode cX7_tells 36 = .ok (.bipush 7, 2) := by decide +kernel
theorem dX7_tells_38 : decode cX7_tells 38 = .ok (.if_icmp .le 6, 3) := by decide +kernel
theorem dX7_tells_41 : decode cX7_tells 41 = .ok (.bipush (-2), 2) := by decide +kernel
theorem dX7_tells_43 : decode cX7_tells 43 = .ok (.ireturn, 1) := by decide +kernel
theorem dX7_tells_44 : decode cX7_tells 44 = .ok (.aload_n 0, 1) := by decide +kernel
theorem dX7_tells_45 : decode cX7_tells 45 = .ok (.getfield 64, 3) := by decide +kernel
theorem dX7_tells_48 : decode cX7_tells 48 = .ok (.iload_n 1, 1) := by decide +kernel
theorem dX7_tells_49 : decode cX7_tells 49 = .ok (.aaload, 1) := by decide +kernel
theorem dX7_tells_50 : decode cX7_tells 50 = .ok (.astore 5, 2) := by decide +kernel
theorem dX7_tells_52 : decode cX7_tells 52 = .ok (.aload 5, 2) := by decide +kernel
theorem dX7_tells_54 : decode cX7_tells 54 = .ok (.invokevirtual 188, 3) := by decide +kernel
theorem dX7_tells_57 : decode cX7_tells 57 = .ok (.ifCond .eq 6, 3) := by decide +kernel
theorem dX7_tells_60 : decode cX7_tells 60 = .ok (.bipush (-11), 2) := by decide +kernel
theorem dX7_tells_62 : decode cX7_tells 62 = .ok (.ireturn, 1) := by decide +kernel
theorem dX7_tells_63 : decode cX7_tells 63 = .ok (.aload 5, 2) := by decide +kernel
theorem dX7_tells_65 : decode cX7_tells 65 = .ok (.invokevirtual 192, 3) := by decide +kernel
theorem dX7_tells_68 : decode cX7_tells 68 = .ok (.bipush 20, 2) := by decide +kernel
theorem dX7_tells_70 : decode cX7_tells 70 = .ok (.if_icmp .le 6, 3) := by decide +kernel
theorem dX7_tells_73 : decode cX7_tells 73 = .ok (.bipush (-2), 2) := by decide +kernel
theorem dX7_tells_75 : decode cX7_tells 75 = .ok (.ireturn, 1) := by decide +kernel
theorem dX7_tells_76 : decode cX7_tells 76 = .ok (.iload 4, 2) := by decide +kernel
theorem dX7_tells_78 : decode cX7_tells 78 = .ok (.tableswitch 134 0 6 #[42, 54, 67, 84, 84, 104, 116], 42) := by decide +kernel
theorem dX7_tells_120 : decode cX7_tells 120 = .ok (.aload_n 0, 1) := by decide +kernel
theorem dX7_tells_121 : decode cX7_tells 121 = .ok (.aload 5, 2) := by decide +kernel
theorem dX7_tells_123 : decode cX7_tells 123 = .ok (.iload_n 2, 1) := by decide +kernel
theorem dX7_tells_124 : decode cX7_tells 124 = .ok (.bipush 9, 2) := by decide +kernel
theorem dX7_tells_126 : decode cX7_tells 126 = .ok (.iconst (-1), 1) := by decide +kernel
theorem dX7_tells_127 : decode cX7_tells 127 = .ok (.iconst (-1), 1) := by decide +kernel
theorem dX7_tells_128 : decode cX7_tells 128 = .ok (.invokevirtual 193, 3) := by decide +kernel
theorem dX7_tells_131 : decode cX7_tells 131 = .ok (.ireturn, 1) := by decide +kernel
theorem dX7_tells_132 : decode cX7_tells 132 = .ok (.aload_n 0, 1) := by decide +kernel
theorem dX7_tells_133 : decode cX7_tells 133 = .ok (.aload 5, 2) := by decide +kernel
theorem dX7_tells_135 : decode cX7_tells 135 = .ok (.iload_n 2, 1) := by decide +kernel
theorem dX7_tells_136 : decode cX7_tells 136 = .ok (.bipush 7, 2) := by decide +kernel
theorem dX7_tells_138 : decode cX7_tells 138 = .ok (.iload_n 3, 1) := by decide +kernel
theorem dX7_tells_139 : decode cX7_tells 139 = .ok (.bipush 6, 2) := by decide +kernel
theorem dX7_tells_141 : decode cX7_tells 141 = .ok (.invokevirtual 197, 3) := by decide +kernel
theorem dX7_tells_144 : decode cX7_tells 144 = .ok (.ireturn, 1) := by decide +kernel
theorem dX7_tells_145 : decode cX7_tells 145 = .ok (.aload_n 0, 1) := by decide +kernel
theorem dX7_tells_146 : decode cX7_tells 146 = .ok (.aload 5, 2) := by decide +kernel
theorem dX7_tells_148 : decode cX7_tells 148 = .ok (.iload_n 2, 1) := by decide +kernel
theorem dX7_tells_149 : decode cX7_tells 149 = .ok (.iconst 1, 1) := by decide +kernel
theorem dX7_tells_150 : decode cX7_tells 150 = .ok (.iload_n 3, 1) := by decide +kernel
theorem dX7_tells_151 : decode cX7_tells 151 = .ok (.getstatic 73, 3) := by decide +kernel
theorem dX7_tells_154 : decode cX7_tells 154 = .ok (.iconst 1, 1) := by decide +kernel
theorem dX7_tells_155 : decode cX7_tells 155 = .ok (.iaload, 1) := by decide +kernel
theorem dX7_tells_156 : decode cX7_tells 156 = .ok (.iconst 1, 1) := by decide +kernel
theorem dX7_tells_157 : decode cX7_tells 157 = .ok (.iadd, 1) := by decide +kernel
theorem dX7_tells_158 : decode cX7_tells 158 = .ok (.invokevirtual 197, 3) := by decide +kernel
theorem dX7_tells_161 : decode cX7_tells 161 = .ok (.ireturn, 1) := by decide +kernel
theorem dX7_tells_162 : decode cX7_tells 162 = .ok (.aload_n 0, 1) := by decide +kernel
theorem dX7_tells_163 : decode cX7_tells 163 = .ok (.aload 5, 2) := by decide +kernel
theorem dX7_tells_165 : decode cX7_tells 165 = .ok (.iload_n 2, 1) := by decide +kernel
theorem dX7_tells_166 : decode cX7_tells 166 = .ok (.iload_n 3, 1) := by decide +kernel
theorem dX7_tells_167 : decode cX7_tells 167 = .ok (.iload 4, 2) := by decide +kernel
theorem dX7_tells_169 : decode cX7_tells 169 = .ok (.iconst 4, 1) := by decide +kernel
theorem dX7_tells_170 : decode cX7_tells 170 = .ok (.if_icmp .ne 7, 3) := by decide +kernel
theorem dX7_tells_173 : decode cX7_tells 173 = .ok (.iconst 1, 1) := by decide +kernel
theorem dX7_tells_174 : decode cX7_tells 174 = .ok (.goto 4, 3) := by decide +kernel
theorem dX7_tells_177 : decode cX7_tells 177 = .ok (.iconst 0, 1) := by decide +kernel
theorem dX7_tells_178 : decode cX7_tells 178 = .ok (.invokevirtual 200, 3) := by decide +kernel
theorem dX7_tells_181 : decode cX7_tells 181 = .ok (.ireturn, 1) := by decide +kernel
theorem dX7_tells_182 : decode cX7_tells 182 = .ok (.aload_n 0, 1) := by decide +kernel
theorem dX7_tells_183 : decode cX7_tells 183 = .ok (.aload 5, 2) := by decide +kernel
theorem dX7_tells_185 : decode cX7_tells 185 = .ok (.iload_n 2, 1) := by decide +kernel
theorem dX7_tells_186 : decode cX7_tells 186 = .ok (.iconst 2, 1) := by decide +kernel
theorem dX7_tells_187 : decode cX7_tells 187 = .ok (.iload_n 2, 1) := by decide +kernel
theorem dX7_tells_188 : decode cX7_tells 188 = .ok (.bipush 24, 2) := by decide +kernel
theorem dX7_tells_190 : decode cX7_tells 190 = .ok (.invokevirtual 197, 3) := by decide +kernel
theorem dX7_tells_193 : decode cX7_tells 193 = .ok (.ireturn, 1) := by decide +kernel
theorem dX7_tells_194 : decode cX7_tells 194 = .ok (.aload_n 0, 1) := by decide +kernel
theorem dX7_tells_195 : decode cX7_tells 195 = .ok (.aload 5, 2) := by decide +kernel
theorem dX7_tells_197 : decode cX7_tells 197 = .ok (.iload_n 2, 1) := by decide +kernel
theorem dX7_tells_198 : decode cX7_tells 198 = .ok (.bipush 8, 2) := by decide +kernel
theorem dX7_tells_200 : decode cX7_tells 200 = .ok (.iconst (-1), 1) := by decide +kernel
theorem dX7_tells_201 : decode cX7_tells 201 = .ok (.aload_n 0, 1) := by decide +kernel
theorem dX7_tells_202 : decode cX7_tells 202 = .ok (.getfield 19, 3) := by decide +kernel
theorem dX7_tells_205 : decode cX7_tells 205 = .ok (.invokevirtual 128, 3) := by decide +kernel
theorem dX7_tells_208 : decode cX7_tells 208 = .ok (.invokevirtual 197, 3) := by decide +kernel
theorem dX7_tells_211 : decode cX7_tells 211 = .ok (.ireturn, 1) := by decide +kernel
theorem dX7_tells_212 : decode cX7_tells 212 = .ok (.aload_n 0, 1) := by decide +kernel
theorem dX7_tells_213 : decode cX7_tells 213 = .ok (.aload 5, 2) := by decide +kernel
theorem dX7_tells_215 : decode cX7_tells 215 = .ok (.invokevirtual 204, 3) := by decide +kernel
theorem dX7_tells_218 : decode cX7_tells 218 = .ok (.ireturn, 1) := by decide +kernel
theorem dX7_film_0 : decode cX7_film 0 = .ok (.iload_n 1, 1) := by decide +kernel
theorem dX7_film_1 : decode cX7_film 1 = .ok (.invokestatic 185, 3) := by decide +kernel
theorem dX7_film_4 : decode cX7_film 4 = .ok (.ifCond .eq 24, 3) := by decide +kernel
theorem dX7_film_7 : decode cX7_film 7 = .ok (.aload_n 0, 1) := by decide +kernel
theorem dX7_film_8 : decode cX7_film 8 = .ok (.getfield 45, 3) := by decide +kernel
theorem dX7_film_11 : decode cX7_film 11 = .ok (.iload_n 2, 1) := by decide +kernel
theorem dX7_film_12 : decode cX7_film 12 = .ok (.invokevirtual 89, 3) := by decide +kernel
theorem dX7_film_15 : decode cX7_film 15 = .ok (.ifCond .eq 13, 3) := by decide +kernel
theorem dX7_film_18 : decode cX7_film 18 = .ok (.iload_n 3, 1) := by decide +kernel
theorem dX7_film_19 : decode cX7_film 19 = .ok (.ifCond .lt 9, 3) := by decide +kernel
theorem dX7_film_22 : decode cX7_film 22 = .ok (.iload_n 3, 1) := by decide +kernel
theorem dX7_film_23 : decode cX7_film 23 = .ok (.bipush 20, 2) := by decide +kernel
theorem dX7_film_25 : decode cX7_film 25 = .ok (.if_icmp .le 6, 3) := by decide +kernel
theorem dX7_film_28 : decode cX7_film 28 = .ok (.bipush (-2), 2) := by decide +kernel
theorem dX7_film_30 : decode cX7_film 30 = .ok (.ireturn, 1) := by decide +kernel
theorem dX7_film_31 : decode cX7_film 31 = .ok (.aload_n 0, 1) := by decide +kernel
theorem dX7_film_32 : decode cX7_film 32 = .ok (.getfield 64, 3) := by decide +kernel
theorem dX7_film_35 : decode cX7_film 35 = .ok (.iload_n 1, 1) := by decide +kernel
theorem dX7_film_36 : decode cX7_film 36 = .ok (.aaload, 1) := by decide +kernel
theorem dX7_film_37 : decode cX7_film 37 = .ok (.astore 4, 2) := by decide +kernel
theorem dX7_film_39 : decode cX7_film 39 = .ok (.aload 4, 2) := by decide +kernel
theorem dX7_film_41 : decode cX7_film 41 = .ok (.iconst 0, 1) := by decide +kernel
theorem dX7_film_42 : decode cX7_film 42 = .ok (.iload_n 3, 1) := by decide +kernel
theorem dX7_film_43 : decode cX7_film 43 = .ok (.invokevirtual 208, 3) := by decide +kernel
theorem dX7_film_46 : decode cX7_film 46 = .ok (.aload_n 0, 1) := by decide +kernel
theorem dX7_film_47 : decode cX7_film 47 = .ok (.getfield 49, 3) := by decide +kernel
theorem dX7_film_50 : decode cX7_film 50 = .ok (.aload_n 0, 1) := by decide +kernel
theorem dX7_film_51 : decode cX7_film 51 = .ok (.getfield 45, 3) := by decide +kernel
theorem dX7_film_54 : decode cX7_film 54 = .ok (.invokevirtual 148, 3) := by decide +kernel
theorem dX7_film_57 : decode cX7_film 57 = .ok (.iconst 0, 1) := by decide +kernel
theorem dX7_film_58 : decode cX7_film 58 = .ok (.istore 5, 2) := by decide +kernel
theorem dX7_film_60 : decode cX7_film 60 = .ok (.iload 5, 2) := by decide +kernel
theorem dX7_film_62 : decode cX7_film 62 = .ok (.iload_n 3, 1) := by decide +kernel
theorem dX7_film_63 : decode cX7_film 63 = .ok (.if_icmp .ge 46, 3) := by decide +kernel
theorem dX7_film_66 : decode cX7_film 66 = .ok (.aload_n 0, 1) := by decide +kernel
theorem dX7_film_67 : decode cX7_film 67 = .ok (.getfield 38, 3) := by decide +kernel
theorem dX7_film_70 : decode cX7_film 70 = .ok (.aload_n 0, 1) := by decide +kernel
theorem dX7_film_71 : decode cX7_film 71 = .ok (.getfield 49, 3) := by decide +kernel
