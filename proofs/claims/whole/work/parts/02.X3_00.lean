theorem dX3_init_0 : decode cX3_init 0 = .ok (.aload_n 0, 1) := by decide +kernel
theorem dX3_init_1 : decode cX3_init 1 = .ok (.invokespecial 3, 3) := by decide +kernel
theorem dX3_init_4 : decode cX3_init 4 = .ok (.aload_n 0, 1) := by decide +kernel
theorem dX3_init_5 : decode cX3_init 5 = .ok (.bipush 6, 2) := by decide +kernel
theorem dX3_init_7 : decode cX3_init 7 = .ok (.anewarray 9, 3) := by decide +kernel
theorem dX3_init_10 : decode cX3_init 10 = .ok (.putfield 11, 3) := by decide +kernel
theorem dX3_init_13 : decode cX3_init 13 = .ok (.aload_n 0, 1) := by decide +kernel
theorem dX3_init_14 : decode cX3_init 14 = .ok (.bipush 6, 2) := by decide +kernel
theorem dX3_init_16 : decode cX3_init 16 = .ok (.newarray .int, 2) := by decide +kernel
theorem dX3_init_18 : decode cX3_init 18 = .ok (.putfield 17, 3) := by decide +kernel
theorem dX3_init_21 : decode cX3_init 21 = .ok (.aload_n 0, 1) := by decide +kernel
theorem dX3_init_22 : decode cX3_init 22 = .ok (.bipush 36, 2) := by decide +kernel
theorem dX3_init_24 : decode cX3_init 24 = .ok (.newarray .int, 2) := by decide +kernel
theorem dX3_init_26 : decode cX3_init 26 = .ok (.putfield 21, 3) := by decide +kernel
theorem dX3_init_29 : decode cX3_init 29 = .ok (.iconst 0, 1) := by decide +kernel
theorem dX3_init_30 : decode cX3_init 30 = .ok (.istore_n 1, 1) := by decide +kernel
theorem dX3_init_31 : decode cX3_init 31 = .ok (.iload_n 1, 1) := by decide +kernel
theorem dX3_init_32 : decode cX3_init 32 = .ok (.bipush 6, 2) := by decide +kernel
theorem dX3_init_34 : decode cX3_init 34 = .ok (.if_icmp .ge 22, 3) := by decide +kernel
theorem dX3_init_37 : decode cX3_init 37 = .ok (.aload_n 0, 1) := by decide +kernel
theorem dX3_init_38 : decode cX3_init 38 = .ok (.getfield 11, 3) := by decide +kernel
theorem dX3_init_41 : decode cX3_init 41 = .ok (.iload_n 1, 1) := by decide +kernel
theorem dX3_init_42 : decode cX3_init 42 = .ok (.new 9, 3) := by decide +kernel
theorem dX3_init_45 : decode cX3_init 45 = .ok (.dup, 1) := by decide +kernel
theorem dX3_init_46 : decode cX3_init 46 = .ok (.invokespecial 24, 3) := by decide +kernel
theorem dX3_init_49 : decode cX3_init 49 = .ok (.aastore, 1) := by decide +kernel
theorem dX3_init_50 : decode cX3_init 50 = .ok (.iinc 1 1, 3) := by decide +kernel
theorem dX3_init_53 : decode cX3_init 53 = .ok (.goto (-22), 3) := by decide +kernel
theorem dX3_init_56 : decode cX3_init 56 = .ok (.return_, 1) := by decide +kernel
theorem dX3_many_0 : decode cX3_many 0 = .ok (.aload_n 0, 1) := by decide +kernel
theorem dX3_many_1 : decode cX3_many 1 = .ok (.getfield 25, 3) := by decide +kernel
theorem dX3_many_4 : decode cX3_many 4 = .ok (.ireturn, 1) := by decide +kernel
theorem dX3_take_0 : decode cX3_take 0 = .ok (.aload_n 0, 1) := by decide +kernel
theorem dX3_take_1 : decode cX3_take 1 = .ok (.getfield 25, 3) := by decide +kernel
theorem dX3_take_4 : decode cX3_take 4 = .ok (.bipush 6, 2) := by decide +kernel
theorem dX3_take_6 : decode cX3_take 6 = .ok (.if_icmp .lt 6, 3) := by decide +kernel
theorem dX3_take_9 : decode cX3_take 9 = .ok (.bipush (-4), 2) := by decide +kernel
theorem dX3_take_11 : decode cX3_take 11 = .ok (.ireturn, 1) := by decide +kernel
theorem dX3_take_12 : decode cX3_take 12 = .ok (.aload_n 1, 1) := by decide +kernel
theorem dX3_take_13 : decode cX3_take 13 = .ok (.aload_n 0, 1) := by decide +kernel
theorem dX3_take_14 : decode cX3_take 14 = .ok (.getfield 11, 3) := by decide +kernel
theorem dX3_take_17 : decode cX3_take 17 = .ok (.aload_n 0, 1) := by decide +kernel
theorem dX3_take_18 : decode cX3_take 18 = .ok (.getfield 25, 3) := by decide +kernel
theorem dX3_take_21 : decode cX3_take 21 = .ok (.aaload, 1) := by decide +kernel
theorem dX3_take_22 : decode cX3_take 22 = .ok (.invokevirtual 29, 3) := by decide +kernel
theorem dX3_take_25 : decode cX3_take 25 = .ok (.istore_n 2, 1) := by decide +kernel
theorem dX3_take_26 : decode cX3_take 26 = .ok (.aload_n 1, 1) := by decide +kernel
theorem dX3_take_27 : decode cX3_take 27 = .ok (.invokevirtual 35, 3) := by decide +kernel
theorem dX3_take_30 : decode cX3_take 30 = .ok (.iload_n 2, 1) := by decide +kernel
theorem dX3_take_31 : decode cX3_take 31 = .ok (.iconst (-1), 1) := by decide +kernel
theorem dX3_take_32 : decode cX3_take 32 = .ok (.if_icmp .eq 8, 3) := by decide +kernel
theorem dX3_take_35 : decode cX3_take 35 = .ok (.bipush (-100), 2) := by decide +kernel
theorem dX3_take_37 : decode cX3_take 37 = .ok (.iload_n 2, 1) := by decide +kernel
theorem dX3_take_38 : decode cX3_take 38 = .ok (.isub, 1) := by decide +kernel
theorem dX3_take_39 : decode cX3_take 39 = .ok (.ireturn, 1) := by decide +kernel
theorem dX3_take_40 : decode cX3_take 40 = .ok (.aload_n 0, 1) := by decide +kernel
theorem dX3_take_41 : decode cX3_take 41 = .ok (.getfield 25, 3) := by decide +kernel
theorem dX3_take_44 : decode cX3_take 44 = .ok (.istore_n 3, 1) := by decide +kernel
theorem dX3_take_45 : decode cX3_take 45 = .ok (.aload_n 0, 1) := by decide +kernel
theorem dX3_take_46 : decode cX3_take 46 = .ok (.dup, 1) := by decide +kernel
theorem dX3_take_47 : decode cX3_take 47 = .ok (.getfield 25, 3) := by decide +kernel
theorem dX3_take_50 : decode cX3_take 50 = .ok (.iconst 1, 1) := by decide +kernel
theorem dX3_take_51 : decode cX3_take 51 = .ok (.iadd, 1) := by decide +kernel
theorem dX3_take_52 : decode cX3_take 52 = .ok (.putfield 25, 3) := by decide +kernel
theorem dX3_take_55 : decode cX3_take 55 = .ok (.iload_n 3, 1) := by decide +kernel
theorem dX3_take_56 : decode cX3_take 56 = .ok (.ireturn, 1) := by decide +kernel
theorem dX3_mindsTired_0 : decode cX3_mindsTired 0 = .ok (.aload_n 1, 1) := by decide +kernel
theorem dX3_mindsTired_1 : decode cX3_mindsTired 1 = .ok (.invokevirtual 38, 3) := by decide +kernel
theorem dX3_mindsTired_4 : decode cX3_mindsTired 4 = .ok (.istore_n 2, 1) := by decide +kernel
theorem dX3_mindsTired_5 : decode cX3_mindsTired 5 = .ok (.iload_n 2, 1) := by decide +kernel
theorem dX3_mindsTired_6 : decode cX3_mindsTired 6 = .ok (.ifCond .lt 41, 3) := by decide +kernel
theorem dX3_mindsTired_9 : decode cX3_mindsTired 9 = .ok (.iload_n 2, 1) := by decide +kernel
theorem dX3_mindsTired_10 : decode cX3_mindsTired 10 = .ok (.aload_n 0, 1) := by decide +kernel
theorem dX3_mindsTired_11 : decode cX3_mindsTired 11 = .ok (.getfield 25, 3) := by decide +kernel
theorem dX3_mindsTired_14 : decode cX3_mindsTired 14 = .ok (.if_icmp .ge 33, 3) := by decide +kernel
theorem dX3_mindsTired_17 : decode cX3_mindsTired 17 = .ok (.aload_n 0, 1) := by decide +kernel
theorem dX3_mindsTired_18 : decode cX3_mindsTired 18 = .ok (.getfield 11, 3) := by decide +kernel
theorem dX3_mindsTired_21 : decode cX3_mindsTired 21 = .ok (.iload_n 2, 1) := by decide +kernel
theorem dX3_mindsTired_22 : decode cX3_mindsTired 22 = .ok (.aaload, 1) := by decide +kernel
theorem dX3_mindsTired_23 : decode cX3_mindsTired 23 = .ok (.iconst 0, 1) := by decide +kernel
theorem dX3_mindsTired_24 : decode cX3_mindsTired 24 = .ok (.invokevirtual 44, 3) := by decide +kernel
theorem dX3_mindsTired_27 : decode cX3_mindsTired 27 = .ok (.ifCond .ne 16, 3) := by decide +kernel
theorem dX3_mindsTired_30 : decode cX3_mindsTired 30 = .ok (.aload_n 0, 1) := by decide +kernel
theorem dX3_mindsTired_31 : decode cX3_mindsTired 31 = .ok (.getfield 11, 3) := by decide +kernel
theorem dX3_mindsTired_34 : decode cX3_mindsTired 34 = .ok (.iload_n 2, 1) := by decide +kernel
theorem dX3_mindsTired_35 : decode cX3_mindsTired 35 = .ok (.aaload, 1) := by decide +kernel
theorem dX3_mindsTired_36 : decode cX3_mindsTired 36 = .ok (.iconst 2, 1) := by decide +kernel
theorem dX3_mindsTired_37 : decode cX3_mindsTired 37 = .ok (.invokevirtual 44, 3) := by decide +kernel
theorem dX3_mindsTired_40 : decode cX3_mindsTired 40 = .ok (.ifCond .eq 7, 3) := by decide +kernel
theorem dX3_mindsTired_43 : decode cX3_mindsTired 43 = .ok (.iconst 1, 1) := by decide +kernel
theorem dX3_mindsTired_44 : decode cX3_mindsTired 44 = .ok (.goto 4, 3) := by decide +kernel
theorem dX3_mindsTired_47 : decode cX3_mindsTired 47 = .ok (.iconst 0, 1) := by decide +kernel
theorem dX3_mindsTired_48 : decode cX3_mindsTired 48 = .ok (.ireturn, 1) := by decide +kernel
theorem dX3_tell_0 : decode cX3_tell 0 = .ok (.aload_n 2, 1) := by decide +kernel
theorem dX3_tell_1 : decode cX3_tell 1 = .ok (.invokevirtual 38, 3) := by decide +kernel
theorem dX3_tell_4 : decode cX3_tell 4 = .ok (.istore 5, 2) := by decide +kernel
theorem dX3_tell_6 : decode cX3_tell 6 = .ok (.iload 5, 2) := by decide +kernel
theorem dX3_tell_8 : decode cX3_tell 8 = .ok (.ifCond .lt 12, 3) := by decide +kernel
theorem dX3_tell_11 : decode cX3_tell 11 = .ok (.iload 5, 2) := by decide +kernel
theorem dX3_tell_13 : decode cX3_tell 13 = .ok (.aload_n 0, 1) := by decide +kernel
theorem dX3_tell_14 : decode cX3_tell 14 = .ok (.getfield 25, 3) := by decide +kernel
theorem dX3_tell_17 : decode cX3_tell 17 = .ok (.if_icmp .lt 5, 3) := by decide +kernel
theorem dX3_tell_20 : decode cX3_tell 20 = .ok (.iconst 0, 1) := by decide +kernel
theorem dX3_tell_21 : decode cX3_tell 21 = .ok (.ireturn, 1) := by decide +kernel
theorem dX3_tell_22 : decode cX3_tell 22 = .ok (.aload_n 2, 1) := by decide +kernel
theorem dX3_tell_23 : decode cX3_tell 23 = .ok (.iload_n 3, 1) := by decide +kernel
theorem dX3_tell_24 : decode cX3_tell 24 = .ok (.iload 4, 2) := by decide +kernel
theorem dX3_tell_26 : decode cX3_tell 26 = .ok (.aload_n 0, 1) := by decide +kernel
theorem dX3_tell_27 : decode cX3_tell 27 = .ok (.getfield 17, 3) := by decide +kernel
theorem dX3_tell_30 : decode cX3_tell 30 = .ok (.invokevirtual 48, 3) := by decide +kernel
theorem dX3_tell_33 : decode cX3_tell 33 = .ok (.aload_n 0, 1) := by decide +kernel
theorem dX3_tell_34 : decode cX3_tell 34 = .ok (.getfield 11, 3) := by decide +kernel
theorem dX3_tell_37 : decode cX3_tell 37 = .ok (.iload 5, 2) := by decide +kernel
theorem dX3_tell_39 : decode cX3_tell 39 = .ok (.aaload, 1) := by decide +kernel
theorem dX3_tell_40 : decode cX3_tell 40 = .ok (.iload_n 1, 1) := by decide +kernel
theorem dX3_tell_41 : decode cX3_tell 41 = .ok (.aload_n 0, 1) := by decide +kernel
theorem dX3_tell_42 : decode cX3_tell 42 = .ok (.getfield 17, 3) := by decide +kernel
theorem dX3_tell_45 : decode cX3_tell 45 = .ok (.aload_n 0, 1) := by decide +kernel
theorem dX3_tell_46 : decode cX3_tell 46 = .ok (.getfield 21, 3) := by decide +kernel
theorem dX3_tell_49 : decode cX3_tell 49 = .ok (.invokevirtual 52, 3) := by decide +kernel
theorem dX3_tell_52 : decode cX3_tell 52 = .ok (.iload_n 1, 1) := by decide +kernel
theorem dX3_tell_53 : decode cX3_tell 53 = .ok (.ifCond .ne 7, 3) := by decide +kernel
theorem dX3_tell_56 : decode cX3_tell 56 = .ok (.iconst 0, 1) := by decide +kernel
theorem dX3_tell_57 : decode cX3_tell 57 = .ok (.goto 5, 3) := by decide +kernel
theorem dX3_tell_60 : decode cX3_tell 60 = .ok (.bipush (-99), 2) := by decide +kernel
theorem dX3_tell_62 : decode cX3_tell 62 = .ok (.bipush 99, 2) := by decide +kernel
theorem dX3_tell_64 : decode cX3_tell 64 = .ok (.invokestatic 56, 3) := by decide +kernel
theorem dX3_tell_67 : decode cX3_tell 67 = .ok (.ireturn, 1) := by decide +kernel
theorem dX3_hourSet_0 : decode cX3_hourSet 0 = .ok (.aload_n 0, 1) := by decide +kernel
theorem dX3_hourSet_1 : decode cX3_hourSet 1 = .ok (.iconst 0, 1) := by decide +kernel
theorem dX3_hourSet_2 : decode cX3_hourSet 2 = .ok (.aload_n 1, 1) := by decide +kernel
theorem dX3_hourSet_3 : decode cX3_hourSet 3 = .ok (.iload_n 2, 1) := by decide +kernel
theorem dX3_hourSet_4 : decode cX3_hourSet 4 = .ok (.iload_n 3, 1) := by decide +kernel
theorem dX3_hourSet_5 : decode cX3_hourSet 5 = .ok (.invokevirtual 60, 3) := by decide +kernel
theorem dX3_hourSet_8 : decode cX3_hourSet 8 = .ok (.istore 4, 2) := by decide +kernel
theorem dX3_hourSet_10 : decode cX3_hourSet 10 = .ok (.iload 4, 2) := by decide +kernel
theorem dX3_hourSet_12 : decode cX3_hourSet 12 = .ok (.istore 5, 2) := by decide +kernel
theorem dX3_hourSet_14 : decode cX3_hourSet 14 = .ok (.aload_n 1, 1) := by decide +kernel
theorem dX3_hourSet_15 : decode cX3_hourSet 15 = .ok (.bipush 7, 2) := by decide +kernel
theorem dX3_hourSet_17 : decode cX3_hourSet 17 = .ok (.iload_n 2, 1) := by decide +kernel
theorem dX3_hourSet_18 : decode cX3_hourSet 18 = .ok (.invokevirtual 64, 3) := by decide +kernel
theorem dX3_hourSet_21 : decode cX3_hourSet 21 = .ok (.tableswitch 105 1 5 #[35, 44, 53, 67, 94], 35) := by decide +kernel
theorem dX3_hourSet_56 : decode cX3_hourSet 56 = .ok (.iload 4, 2) := by decide +kernel
theorem dX3_hourSet_58 : decode cX3_hourSet 58 = .ok (.iconst 2, 1) := by decide +kernel
theorem dX3_hourSet_59 : decode cX3_hourSet 59 = .ok (.iadd, 1) := by decide +kernel
theorem dX3_hourSet_60 : decode cX3_hourSet 60 = .ok (.istore 5, 2) := by decide +kernel
theorem dX3_hourSet_62 : decode cX3_hourSet 62 = .ok (.goto 64, 3) := by decide +kernel
theorem dX3_hourSet_65 : decode cX3_hourSet 65 = .ok (.iload 4, 2) := by decide +kernel
theorem dX3_hourSet_67 : decode cX3_hourSet 67 = .ok (.iconst 2, 1) := by decide +kernel
theorem dX3_hourSet_68 : decode cX3_hourSet 68 = .ok (.idiv, 1) := by decide +kernel
theorem dX3_hourSet_69 : decode cX3_hourSet 69 = .ok (.istore 5, 2) := by decide +kernel
theorem dX3_hourSet_71 : decode cX3_hourSet 71 = .ok (.goto 55, 3) := by decide +kernel
theorem dX3_hourSet_74 : decode cX3_hourSet 74 = .ok (.bipush 9, 2) := by decide +kernel
theorem dX3_hourSet_76 : decode cX3_hourSet 76 = .ok (.iload 4, 2) := by decide +kernel
theorem dX3_hourSet_78 : decode cX3_hourSet 78 = .ok (.iconst 2, 1) := by decide +kernel
theorem dX3_hourSet_79 : decode cX3_hourSet 79 = .ok (.iadd, 1) := by decide +kernel
theorem dX3_hourSet_80 : decode cX3_hourSet 80 = .ok (.invokestatic 68, 3) := by decide +kernel
theorem dX3_hourSet_83 : decode cX3_hourSet 83 = .ok (.istore 5, 2) := by decide +kernel
theorem dX3_hourSet_85 : decode cX3_hourSet 85 = .ok (.goto 41, 3) := by decide +kernel
theorem dX3_hourSet_88 : decode cX3_hourSet 88 = .ok (.aload_n 1, 1) := by decide +kernel
theorem dX3_hourSet_89 : decode cX3_hourSet 89 = .ok (.invokevirtual 73, 3) := by decide +kernel
theorem dX3_hourSet_92 : decode cX3_hourSet 92 = .ok (.iconst 3, 1) := by decide +kernel
theorem dX3_hourSet_93 : decode cX3_hourSet 93 = .ok (.irem, 1) := by decide +kernel
theorem dX3_hourSet_94 : decode cX3_hourSet 94 = .ok (.ifCond .ne 12, 3) := by decide +kernel
theorem dX3_hourSet_97 : decode cX3_hourSet 97 = .ok (.aload_n 1, 1) := by decide +kernel
theorem dX3_hourSet_98 : decode cX3_hourSet 98 = .ok (.iconst 2, 1) := by decide +kernel
theorem dX3_hourSet_99 : decode cX3_hourSet 99 = .ok (.iload_n 3, 1) := by decide +kernel
theorem dX3_hourSet_100 : decode cX3_hourSet 100 = .ok (.invokevirtual 64, 3) := by decide +kernel
theorem dX3_hourSet_103 : decode cX3_hourSet 103 = .ok (.goto 7, 3) := by decide +kernel
theorem dX3_hourSet_106 : decode cX3_hourSet 106 = .ok (.iload 4, 2) := by decide +kernel
theorem dX3_hourSet_108 : decode cX3_hourSet 108 = .ok (.iconst 2, 1) := by decide +kernel
theorem dX3_hourSet_109 : decode cX3_hourSet 109 = .ok (.idiv, 1) := by decide +kernel
theorem dX3_hourSet_110 : decode cX3_hourSet 110 = .ok (.istore 5, 2) := by decide +kernel
theorem dX3_hourSet_112 : decode cX3_hourSet 112 = .ok (.goto 14, 3) := by decide +kernel
theorem dX3_hourSet_115 : decode cX3_hourSet 115 = .ok (.aload_n 1, 1) := by decide +kernel
theorem dX3_hourSet_116 : decode cX3_hourSet 116 = .ok (.iconst 1, 1) := by decide +kernel
theorem dX3_hourSet_117 : decode cX3_hourSet 117 = .ok (.iload_n 2, 1) := by decide +kernel
theorem dX3_hourSet_118 : decode cX3_hourSet 118 = .ok (.invokevirtual 64, 3) := by decide +kernel
theorem dX3_hourSet_121 : decode cX3_hourSet 121 = .ok (.istore 5, 2) := by decide +kernel
theorem dX3_hourSet_123 : decode cX3_hourSet 123 = .ok (.goto 3, 3) := by decide +kernel
theorem dX3_hourSet_126 : decode cX3_hourSet 126 = .ok (.iload 5, 2) := by decide +kernel
theorem dX3_hourSet_128 : decode cX3_hourSet 128 = .ok (.iconst 0, 1) := by decide +kernel
theorem dX3_hourSet_129 : decode cX3_hourSet 129 = .ok (.bipush 23, 2) := by decide +kernel
theorem dX3_hourSet_131 : decode cX3_hourSet 131 = .ok (.invokestatic 56, 3) := by decide +kernel
theorem dX3_hourSet_134 : decode cX3_hourSet 134 = .ok (.ireturn, 1) := by decide +kernel
theorem dX3_tiredBy_0 : decode cX3_tiredBy 0 = .ok (.aload_n 0, 1) := by decide +kernel
theorem dX3_tiredBy_1 : decode cX3_tiredBy 1 = .ok (.iconst 1, 1) := by decide +kernel
theorem dX3_tiredBy_2 : decode cX3_tiredBy 2 = .ok (.aload_n 1, 1) := by decide +kernel
theorem dX3_tiredBy_3 : decode cX3_tiredBy 3 = .ok (.iload_n 2, 1) := by decide +kernel
theorem dX3_tiredBy_4 : decode cX3_tiredBy 4 = .ok (.iload_n 2, 1) := by decide +kernel
theorem dX3_tiredBy_5 : decode cX3_tiredBy 5 = .ok (.invokevirtual 60, 3) := by decide +kernel
theorem dX3_tiredBy_8 : decode cX3_tiredBy 8 = .ok (.istore 4, 2) := by decide +kernel
theorem dX3_tiredBy_10 : decode cX3_tiredBy 10 = .ok (.iload_n 3, 1) := by decide +kernel
theorem dX3_tiredBy_11 : decode cX3_tiredBy 11 = .ok (.bipush 6, 2) := by decide +kernel
theorem dX3_tiredBy_13 : decode cX3_tiredBy 13 = .ok (.if_icmp .ge 15, 3) := by decide +kernel
theorem dX3_tiredBy_16 : decode cX3_tiredBy 16 = .ok (.iload 4, 2) := by decide +kernel
theorem dX3_tiredBy_18 : decode cX3_tiredBy 18 = .ok (.aload_n 1, 1) := by decide +kernel
theorem dX3_tiredBy_19 : decode cX3_tiredBy 19 = .ok (.iconst 1, 1) := by decide +kernel
theorem dX3_tiredBy_20 : decode cX3_tiredBy 20 = .ok (.iload_n 2, 1) := by decide +kernel
theorem dX3_tiredBy_21 : decode cX3_tiredBy 21 = .ok (.invokevirtual 64, 3) := by decide +kernel
theorem dX3_tiredBy_24 : decode cX3_tiredBy 24 = .ok (.iadd, 1) := by decide +kernel
theorem dX3_tiredBy_25 : decode cX3_tiredBy 25 = .ok (.goto 5, 3) := by decide +kernel
theorem dX3_tiredBy_28 : decode cX3_tiredBy 28 = .ok (.iload 4, 2) := by decide +kernel
theorem dX3_tiredBy_30 : decode cX3_tiredBy 30 = .ok (.istore 5, 2) := by decide +kernel
theorem dX3_tiredBy_32 : decode cX3_tiredBy 32 = .ok (.iload 4, 2) := by decide +kernel
theorem dX3_tiredBy_34 : decode cX3_tiredBy 34 = .ok (.istore 6, 2) := by decide +kernel
theorem dX3_tiredBy_36 : decode cX3_tiredBy 36 = .ok (.aload_n 1, 1) := by decide +kernel
theorem dX3_tiredBy_37 : decode cX3_tiredBy 37 = .ok (.bipush 7, 2) := by decide +kernel
theorem dX3_tiredBy_39 : decode cX3_tiredBy 39 = .ok (.iload_n 2, 1) := by decide +kernel
theorem dX3_tiredBy_40 : decode cX3_tiredBy 40 = .ok (.invokevirtual 64, 3) := by decide +kernel
theorem dX3_tiredBy_43 : decode cX3_tiredBy 43 = .ok (.tableswitch 86 1 5 #[33, 42, 49, 55, 64], 33) := by decide +kernel
theorem dX3_tiredBy_76 : decode cX3_tiredBy 76 = .ok (.iload 4, 2) := by decide +kernel
theorem dX3_tiredBy_78 : decode cX3_tiredBy 78 = .ok (.iconst 2, 1) := by decide +kernel
theorem dX3_tiredBy_79 : decode cX3_tiredBy 79 = .ok (.idiv, 1) := by decide +kernel
theorem dX3_tiredBy_80 : decode cX3_tiredBy 80 = .ok (.istore 6, 2) := by decide +kernel
theorem dX3_tiredBy_82 : decode cX3_tiredBy 82 = .ok (.goto 47, 3) := by decide +kernel
theorem dX3_tiredBy_85 : decode cX3_tiredBy 85 = .ok (.iload 5, 2) := by decide +kernel
theorem dX3_tiredBy_87 : decode cX3_tiredBy 87 = .ok (.istore 6, 2) := by decide +kernel
theorem dX3_tiredBy_89 : decode cX3_tiredBy 89 = .ok (.goto 40, 3) := by decide +kernel
theorem dX3_tiredBy_92 : decode cX3_tiredBy 92 = .ok (.iconst 0, 1) := by decide +kernel
theorem dX3_tiredBy_93 : decode cX3_tiredBy 93 = .ok (.istore 6, 2) := by decide +kernel
theorem dX3_tiredBy_95 : decode cX3_tiredBy 95 = .ok (.goto 34, 3) := by decide +kernel
theorem dX3_tiredBy_98 : decode cX3_tiredBy 98 = .ok (.iconst 2, 1) := by decide +kernel
theorem dX3_tiredBy_99 : decode cX3_tiredBy 99 = .ok (.iload 5, 2) := by decide +kernel
theorem dX3_tiredBy_101 : decode cX3_tiredBy 101 = .ok (.imul, 1) := by decide +kernel
theorem dX3_tiredBy_102 : decode cX3_tiredBy 102 = .ok (.istore 6, 2) := by decide +kernel
theorem dX3_tiredBy_104 : decode cX3_tiredBy 104 = .ok (.goto 25, 3) := by decide +kernel
theorem dX3_tiredBy_107 : decode cX3_tiredBy 107 = .ok (.aload_n 1, 1) := by decide +kernel
theorem dX3_tiredBy_108 : decode cX3_tiredBy 108 = .ok (.iconst 3, 1) := by decide +kernel
theorem dX3_tiredBy_109 : decode cX3_tiredBy 109 = .ok (.iload_n 2, 1) := by decide +kernel
theorem dX3_tiredBy_110 : decode cX3_tiredBy 110 = .ok (.invokevirtual 64, 3) := by decide +kernel
theorem dX3_tiredBy_113 : decode cX3_tiredBy 113 = .ok (.bipush 50, 2) := by decide +kernel
theorem dX3_tiredBy_115 : decode cX3_tiredBy 115 = .ok (.if_icmp .ge 8, 3) := by decide +kernel
theorem dX3_tiredBy_118 : decode cX3_tiredBy 118 = .ok (.iload 4, 2) := by decide +kernel
theorem dX3_tiredBy_120 : decode cX3_tiredBy 120 = .ok (.goto 4, 3) := by decide +kernel
theorem dX3_tiredBy_123 : decode cX3_tiredBy 123 = .ok (.iconst 0, 1) := by decide +kernel
theorem dX3_tiredBy_124 : decode cX3_tiredBy 124 = .ok (.istore 6, 2) := by decide +kernel
theorem dX3_tiredBy_126 : decode cX3_tiredBy 126 = .ok (.goto 3, 3) := by decide +kernel
theorem dX3_tiredBy_129 : decode cX3_tiredBy 129 = .ok (.iload 6, 2) := by decide +kernel
theorem dX3_tiredBy_131 : decode cX3_tiredBy 131 = .ok (.bipush (-99), 2) := by decide +kernel
theorem dX3_tiredBy_133 : decode cX3_tiredBy 133 = .ok (.bipush 99, 2) := by decide +kernel
theorem dX3_tiredBy_135 : decode cX3_tiredBy 135 = .ok (.invokestatic 56, 3) := by decide +kernel
theorem dX3_tiredBy_138 : decode cX3_tiredBy 138 = .ok (.ireturn, 1) := by decide +kernel
theorem dX3_fonderBy_0 : decode cX3_fonderBy 0 = .ok (.aload_n 0, 1) := by decide +kernel
theorem dX3_fonderBy_1 : decode cX3_fonderBy 1 = .ok (.iconst 2, 1) := by decide +kernel
theorem dX3_fonderBy_2 : decode cX3_fonderBy 2 = .ok (.aload_n 1, 1) := by decide +kernel
theorem dX3_fonderBy_3 : decode cX3_fonderBy 3 = .ok (.iload_n 2, 1) := by decide +kernel
theorem dX3_fonderBy_4 : decode cX3_fonderBy 4 = .ok (.iload_n 3, 1) := by decide +kernel
theorem dX3_fonderBy_5 : decode cX3_fonderBy 5 = .ok (.invokevirtual 60, 3) := by decide +kernel
theorem dX3_fonderBy_8 : decode cX3_fonderBy 8 = .ok (.istore 5, 2) := by decide +kernel
theorem dX3_fonderBy_10 : decode cX3_fonderBy 10 = .ok (.iload 4, 2) := by decide +kernel
theorem dX3_fonderBy_12 : decode cX3_fonderBy 12 = .ok (.ifCond .eq 7, 3) := by decide +kernel
theorem dX3_fonderBy_15 : decode cX3_fonderBy 15 = .ok (.iconst 0, 1) := by decide +kernel
theorem dX3_fonderBy_16 : decode cX3_fonderBy 16 = .ok (.goto 5, 3) := by decide +kernel
theorem dX3_fonderBy_19 : decode cX3_fonderBy 19 = .ok (.iload 5, 2) := by decide +kernel
theorem dX3_fonderBy_21 : decode cX3_fonderBy 21 = .ok (.istore 6, 2) := by decide +kernel
theorem dX3_fonderBy_23 : decode cX3_fonderBy 23 = .ok (.aload_n 1, 1) := by decide +kernel
theorem dX3_fonderBy_24 : decode cX3_fonderBy 24 = .ok (.bipush 7, 2) := by decide +kernel
theorem dX3_fonderBy_26 : decode cX3_fonderBy 26 = .ok (.iload_n 2, 1) := by decide +kernel
theorem dX3_fonderBy_27 : decode cX3_fonderBy 27 = .ok (.invokevirtual 64, 3) := by decide +kernel
theorem dX3_fonderBy_30 : decode cX3_fonderBy 30 = .ok (.tableswitch 66 1 5 #[34, 37, 41, 46, 64], 34) := by decide +kernel
theorem dX3_fonderBy_64 : decode cX3_fonderBy 64 = .ok (.iload 6, 2) := by decide +kernel
theorem dX3_fonderBy_66 : decode cX3_fonderBy 66 = .ok (.ireturn, 1) := by decide +kernel
theorem dX3_fonderBy_67 : decode cX3_fonderBy 67 = .ok (.iload 5, 2) := by decide +kernel
theorem dX3_fonderBy_69 : decode cX3_fonderBy 69 = .ok (.ineg, 1) := by decide +kernel
theorem dX3_fonderBy_70 : decode cX3_fonderBy 70 = .ok (.ireturn, 1) := by decide +kernel
theorem dX3_fonderBy_71 : decode cX3_fonderBy 71 = .ok (.iload 6, 2) := by decide +kernel
theorem dX3_fonderBy_73 : decode cX3_fonderBy 73 = .ok (.iconst 1, 1) := by decide +kernel
theorem dX3_fonderBy_74 : decode cX3_fonderBy 74 = .ok (.iadd, 1) := by decide +kernel
theorem dX3_fonderBy_75 : decode cX3_fonderBy 75 = .ok (.ireturn, 1) := by decide +kernel
theorem dX3_fonderBy_76 : decode cX3_fonderBy 76 = .ok (.aload_n 1, 1) := by decide +kernel
theorem dX3_fonderBy_77 : decode cX3_fonderBy 77 = .ok (.invokevirtual 73, 3) := by decide +kernel
theorem dX3_fonderBy_80 : decode cX3_fonderBy 80 = .ok (.iconst 2, 1) := by decide +kernel
theorem dX3_fonderBy_81 : decode cX3_fonderBy 81 = .ok (.irem, 1) := by decide +kernel
theorem dX3_fonderBy_82 : decode cX3_fonderBy 82 = .ok (.iconst 1, 1) := by decide +kernel
theorem dX3_fonderBy_83 : decode cX3_fonderBy 83 = .ok (.if_icmp .ne 9, 3) := by decide +kernel
theorem dX3_fonderBy_86 : decode cX3_fonderBy 86 = .ok (.iload 5, 2) := by decide +kernel
theorem dX3_fonderBy_88 : decode cX3_fonderBy 88 = .ok (.ineg, 1) := by decide +kernel
theorem dX3_fonderBy_89 : decode cX3_fonderBy 89 = .ok (.goto 4, 3) := by decide +kernel
theorem dX3_fonderBy_92 : decode cX3_fonderBy 92 = .ok (.iconst 0, 1) := by decide +kernel
theorem dX3_fonderBy_93 : decode cX3_fonderBy 93 = .ok (.ireturn, 1) := by decide +kernel
theorem dX3_fonderBy_94 : decode cX3_fonderBy 94 = .ok (.iconst 0, 1) := by decide +kernel
theorem dX3_fonderBy_95 : decode cX3_fonderBy 95 = .ok (.ireturn, 1) := by decide +kernel
theorem dX3_fonderBy_96 : decode cX3_fonderBy 96 = .ok (.iload 5, 2) := by decide +kernel
theorem dX3_fonderBy_98 : decode cX3_fonderBy 98 = .ok (.ireturn, 1) := by decide +kernel
