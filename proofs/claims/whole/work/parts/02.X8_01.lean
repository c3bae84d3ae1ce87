theorem dX8_person_147 : decode cX8_person 147 = .ok (.iastore, 1) := by decide +kernel
theorem dX8_person_148 : decode cX8_person 148 = .ok (.iload 4, 2) := by decide +kernel
theorem dX8_person_150 : decode cX8_person 150 = .ok (.ireturn, 1) := by decide +kernel
theorem dX8_told_0 : decode cX8_told 0 = .ok (.iload_n 2, 1) := by decide +kernel
theorem dX8_told_1 : decode cX8_told 1 = .ok (.iconst 0, 1) := by decide +kernel
theorem dX8_told_2 : decode cX8_told 2 = .ok (.bipush 11, 2) := by decide +kernel
theorem dX8_told_4 : decode cX8_told 4 = .ok (.invokestatic 89, 3) := by decide +kernel
theorem dX8_told_7 : decode cX8_told 7 = .ok (.ifCond .ne 7, 3) := by decide +kernel
theorem dX8_told_10 : decode cX8_told 10 = .ok (.sipush (-1000), 3) := by decide +kernel
theorem dX8_told_13 : decode cX8_told 13 = .ok (.ireturn, 1) := by decide +kernel
theorem dX8_told_14 : decode cX8_told 14 = .ok (.iload_n 2, 1) := by decide +kernel
theorem dX8_told_15 : decode cX8_told 15 = .ok (.bipush 7, 2) := by decide +kernel
theorem dX8_told_17 : decode cX8_told 17 = .ok (.if_icmp .ge 31, 3) := by decide +kernel
theorem dX8_told_20 : decode cX8_told 20 = .ok (.aload_n 0, 1) := by decide +kernel
theorem dX8_told_21 : decode cX8_told 21 = .ok (.iload_n 2, 1) := by decide +kernel
theorem dX8_told_22 : decode cX8_told 22 = .ok (.iload_n 1, 1) := by decide +kernel
theorem dX8_told_23 : decode cX8_told 23 = .ok (.invokevirtual 101, 3) := by decide +kernel
theorem dX8_told_26 : decode cX8_told 26 = .ok (.iconst (-1), 1) := by decide +kernel
theorem dX8_told_27 : decode cX8_told 27 = .ok (.if_icmp .ne 9, 3) := by decide +kernel
theorem dX8_told_30 : decode cX8_told 30 = .ok (.sipush (-1000), 3) := by decide +kernel
theorem dX8_told_33 : decode cX8_told 33 = .ok (.goto 14, 3) := by decide +kernel
theorem dX8_told_36 : decode cX8_told 36 = .ok (.aload_n 0, 1) := by decide +kernel
theorem dX8_told_37 : decode cX8_told 37 = .ok (.getfield 7, 3) := by decide +kernel
theorem dX8_told_40 : decode cX8_told 40 = .ok (.aload_n 0, 1) := by decide +kernel
theorem dX8_told_41 : decode cX8_told 41 = .ok (.iload_n 2, 1) := by decide +kernel
theorem dX8_told_42 : decode cX8_told 42 = .ok (.iload_n 1, 1) := by decide +kernel
theorem dX8_told_43 : decode cX8_told 43 = .ok (.invokevirtual 101, 3) := by decide +kernel
theorem dX8_told_46 : decode cX8_told 46 = .ok (.iaload, 1) := by decide +kernel
theorem dX8_told_47 : decode cX8_told 47 = .ok (.ireturn, 1) := by decide +kernel
theorem dX8_told_48 : decode cX8_told 48 = .ok (.aload_n 0, 1) := by decide +kernel
theorem dX8_told_49 : decode cX8_told 49 = .ok (.iload_n 1, 1) := by decide +kernel
theorem dX8_told_50 : decode cX8_told 50 = .ok (.invokevirtual 93, 3) := by decide +kernel
theorem dX8_told_53 : decode cX8_told 53 = .ok (.ifCond .ne 7, 3) := by decide +kernel
theorem dX8_told_56 : decode cX8_told 56 = .ok (.sipush (-1000), 3) := by decide +kernel
theorem dX8_told_59 : decode cX8_told 59 = .ok (.ireturn, 1) := by decide +kernel
theorem dX8_told_60 : decode cX8_told 60 = .ok (.iconst 0, 1) := by decide +kernel
theorem dX8_told_61 : decode cX8_told 61 = .ok (.istore_n 3, 1) := by decide +kernel
theorem dX8_told_62 : decode cX8_told 62 = .ok (.iload_n 2, 1) := by decide +kernel
theorem dX8_told_63 : decode cX8_told 63 = .ok (.tableswitch 54 7 10 #[29, 36, 42, 48], 29) := by decide +kernel
theorem dX8_told_92 : decode cX8_told 92 = .ok (.aload_n 0, 1) := by decide +kernel
theorem dX8_told_93 : decode cX8_told 93 = .ok (.iload_n 1, 1) := by decide +kernel
theorem dX8_told_94 : decode cX8_told 94 = .ok (.iconst 0, 1) := by decide +kernel
theorem dX8_told_95 : decode cX8_told 95 = .ok (.invokevirtual 111, 3) := by decide +kernel
theorem dX8_told_98 : decode cX8_told 98 = .ok (.ireturn, 1) := by decide +kernel
theorem dX8_told_99 : decode cX8_told 99 = .ok (.aload_n 0, 1) := by decide +kernel
theorem dX8_told_100 : decode cX8_told 100 = .ok (.iload_n 1, 1) := by decide +kernel
theorem dX8_told_101 : decode cX8_told 101 = .ok (.invokevirtual 114, 3) := by decide +kernel
theorem dX8_told_104 : decode cX8_told 104 = .ok (.ireturn, 1) := by decide +kernel
theorem dX8_told_105 : decode cX8_told 105 = .ok (.aload_n 0, 1) := by decide +kernel
theorem dX8_told_106 : decode cX8_told 106 = .ok (.iload_n 1, 1) := by decide +kernel
theorem dX8_told_107 : decode cX8_told 107 = .ok (.invokevirtual 118, 3) := by decide +kernel
theorem dX8_told_110 : decode cX8_told 110 = .ok (.ireturn, 1) := by decide +kernel
theorem dX8_told_111 : decode cX8_told 111 = .ok (.aload_n 0, 1) := by decide +kernel
theorem dX8_told_112 : decode cX8_told 112 = .ok (.iload_n 1, 1) := by decide +kernel
theorem dX8_told_113 : decode cX8_told 113 = .ok (.invokevirtual 121, 3) := by decide +kernel
theorem dX8_told_116 : decode cX8_told 116 = .ok (.ireturn, 1) := by decide +kernel
theorem dX8_told_117 : decode cX8_told 117 = .ok (.iconst 0, 1) := by decide +kernel
theorem dX8_told_118 : decode cX8_told 118 = .ok (.istore 4, 2) := by decide +kernel
theorem dX8_told_120 : decode cX8_told 120 = .ok (.iload 4, 2) := by decide +kernel
theorem dX8_told_122 : decode cX8_told 122 = .ok (.aload_n 0, 1) := by decide +kernel
theorem dX8_told_123 : decode cX8_told 123 = .ok (.invokevirtual 104, 3) := by decide +kernel
theorem dX8_told_126 : decode cX8_told 126 = .ok (.if_icmp .ge 30, 3) := by decide +kernel
theorem dX8_told_129 : decode cX8_told 129 = .ok (.iload_n 3, 1) := by decide +kernel
theorem dX8_told_130 : decode cX8_told 130 = .ok (.aload_n 0, 1) := by decide +kernel
theorem dX8_told_131 : decode cX8_told 131 = .ok (.iload 4, 2) := by decide +kernel
theorem dX8_told_133 : decode cX8_told 133 = .ok (.invokevirtual 114, 3) := by decide +kernel
theorem dX8_told_136 : decode cX8_told 136 = .ok (.iload_n 1, 1) := by decide +kernel
theorem dX8_told_137 : decode cX8_told 137 = .ok (.if_icmp .ne 10, 3) := by decide +kernel
theorem dX8_told_140 : decode cX8_told 140 = .ok (.iconst 1, 1) := by decide +kernel
theorem dX8_told_141 : decode cX8_told 141 = .ok (.iload 4, 2) := by decide +kernel
theorem dX8_told_143 : decode cX8_told 143 = .ok (.ishl, 1) := by decide +kernel
theorem dX8_told_144 : decode cX8_told 144 = .ok (.goto 4, 3) := by decide +kernel
theorem dX8_told_147 : decode cX8_told 147 = .ok (.iconst 0, 1) := by decide +kernel
theorem dX8_told_148 : decode cX8_told 148 = .ok (.ior, 1) := by decide +kernel
theorem dX8_told_149 : decode cX8_told 149 = .ok (.istore_n 3, 1) := by decide +kernel
theorem dX8_told_150 : decode cX8_told 150 = .ok (.iinc 4 1, 3) := by decide +kernel
theorem dX8_told_153 : decode cX8_told 153 = .ok (.goto (-33), 3) := by decide +kernel
theorem dX8_told_156 : decode cX8_told 156 = .ok (.iload_n 3, 1) := by decide +kernel
theorem dX8_told_157 : decode cX8_told 157 = .ok (.ireturn, 1) := by decide +kernel
theorem dX8_asks_0 : decode cX8_asks 0 = .ok (.aload_n 0, 1) := by decide +kernel
theorem dX8_asks_1 : decode cX8_asks 1 = .ok (.iload_n 1, 1) := by decide +kernel
theorem dX8_asks_2 : decode cX8_asks 2 = .ok (.iload_n 2, 1) := by decide +kernel
theorem dX8_asks_3 : decode cX8_asks 3 = .ok (.invokevirtual 97, 3) := by decide +kernel
theorem dX8_asks_6 : decode cX8_asks 6 = .ok (.ifCond .eq 12, 3) := by decide +kernel
theorem dX8_asks_9 : decode cX8_asks 9 = .ok (.iload_n 3, 1) := by decide +kernel
theorem dX8_asks_10 : decode cX8_asks 10 = .ok (.iconst 0, 1) := by decide +kernel
theorem dX8_asks_11 : decode cX8_asks 11 = .ok (.iconst 2, 1) := by decide +kernel
theorem dX8_asks_12 : decode cX8_asks 12 = .ok (.invokestatic 89, 3) := by decide +kernel
theorem dX8_asks_15 : decode cX8_asks 15 = .ok (.ifCond .ne 7, 3) := by decide +kernel
theorem dX8_asks_18 : decode cX8_asks 18 = .ok (.sipush (-1000), 3) := by decide +kernel
theorem dX8_asks_21 : decode cX8_asks 21 = .ok (.ireturn, 1) := by decide +kernel
theorem dX8_asks_22 : decode cX8_asks 22 = .ok (.iload_n 3, 1) := by decide +kernel
theorem dX8_asks_23 : decode cX8_asks 23 = .ok (.ifCond .ne 12, 3) := by decide +kernel
theorem dX8_asks_26 : decode cX8_asks 26 = .ok (.aload_n 0, 1) := by decide +kernel
theorem dX8_asks_27 : decode cX8_asks 27 = .ok (.iload_n 1, 1) := by decide +kernel
theorem dX8_asks_28 : decode cX8_asks 28 = .ok (.iload_n 2, 1) := by decide +kernel
theorem dX8_asks_29 : decode cX8_asks 29 = .ok (.invokevirtual 124, 3) := by decide +kernel
theorem dX8_asks_32 : decode cX8_asks 32 = .ok (.goto 19, 3) := by decide +kernel
theorem dX8_asks_35 : decode cX8_asks 35 = .ok (.aload_n 0, 1) := by decide +kernel
theorem dX8_asks_36 : decode cX8_asks 36 = .ok (.iload_n 1, 1) := by decide +kernel
theorem dX8_asks_37 : decode cX8_asks 37 = .ok (.iload_n 2, 1) := by decide +kernel
theorem dX8_asks_38 : decode cX8_asks 38 = .ok (.iload_n 3, 1) := by decide +kernel
theorem dX8_asks_39 : decode cX8_asks 39 = .ok (.iconst 1, 1) := by decide +kernel
theorem dX8_asks_40 : decode cX8_asks 40 = .ok (.if_icmp .ne 7, 3) := by decide +kernel
theorem dX8_asks_43 : decode cX8_asks 43 = .ok (.iconst 1, 1) := by decide +kernel
theorem dX8_asks_44 : decode cX8_asks 44 = .ok (.goto 4, 3) := by decide +kernel
theorem dX8_asks_47 : decode cX8_asks 47 = .ok (.iconst 0, 1) := by decide +kernel
theorem dX8_asks_48 : decode cX8_asks 48 = .ok (.invokevirtual 127, 3) := by decide +kernel
theorem dX8_asks_51 : decode cX8_asks 51 = .ok (.ireturn, 1) := by decide +kernel
theorem dX8_woken_0 : decode cX8_woken 0 = .ok (.aload_n 0, 1) := by decide +kernel
theorem dX8_woken_1 : decode cX8_woken 1 = .ok (.iload_n 1, 1) := by decide +kernel
theorem dX8_woken_2 : decode cX8_woken 2 = .ok (.invokevirtual 93, 3) := by decide +kernel
theorem dX8_woken_5 : decode cX8_woken 5 = .ok (.ifCond .eq 22, 3) := by decide +kernel
theorem dX8_woken_8 : decode cX8_woken 8 = .ok (.iload_n 2, 1) := by decide +kernel
theorem dX8_woken_9 : decode cX8_woken 9 = .ok (.iconst 0, 1) := by decide +kernel
theorem dX8_woken_10 : decode cX8_woken 10 = .ok (.bipush 23, 2) := by decide +kernel
theorem dX8_woken_12 : decode cX8_woken 12 = .ok (.invokestatic 89, 3) := by decide +kernel
theorem dX8_woken_15 : decode cX8_woken 15 = .ok (.ifCond .eq 12, 3) := by decide +kernel
theorem dX8_woken_18 : decode cX8_woken 18 = .ok (.aload_n 0, 1) := by decide +kernel
theorem dX8_woken_19 : decode cX8_woken 19 = .ok (.iload_n 1, 1) := by decide +kernel
theorem dX8_woken_20 : decode cX8_woken 20 = .ok (.iload_n 2, 1) := by decide +kernel
theorem dX8_woken_21 : decode cX8_woken 21 = .ok (.invokevirtual 131, 3) := by decide +kernel
theorem dX8_woken_24 : decode cX8_woken 24 = .ok (.goto 6, 3) := by decide +kernel
theorem dX8_woken_27 : decode cX8_woken 27 = .ok (.sipush (-1000), 3) := by decide +kernel
theorem dX8_woken_30 : decode cX8_woken 30 = .ok (.ireturn, 1) := by decide +kernel
theorem dX8_firstText_0 : decode cX8_firstText 0 = .ok (.aload_n 0, 1) := by decide +kernel
theorem dX8_firstText_1 : decode cX8_firstText 1 = .ok (.getfield 25, 3) := by decide +kernel
theorem dX8_firstText_4 : decode cX8_firstText 4 = .ok (.iconst 0, 1) := by decide +kernel
theorem dX8_firstText_5 : decode cX8_firstText 5 = .ok (.bipush 6, 2) := by decide +kernel
theorem dX8_firstText_7 : decode cX8_firstText 7 = .ok (.iastore, 1) := by decide +kernel
theorem dX8_firstText_8 : decode cX8_firstText 8 = .ok (.aload_n 0, 1) := by decide +kernel
theorem dX8_firstText_9 : decode cX8_firstText 9 = .ok (.getfield 25, 3) := by decide +kernel
theorem dX8_firstText_12 : decode cX8_firstText 12 = .ok (.iconst 1, 1) := by decide +kernel
theorem dX8_firstText_13 : decode cX8_firstText 13 = .ok (.bipush (-10), 2) := by decide +kernel
theorem dX8_firstText_15 : decode cX8_firstText 15 = .ok (.iastore, 1) := by decide +kernel
theorem dX8_firstText_16 : decode cX8_firstText 16 = .ok (.aload_n 0, 1) := by decide +kernel
theorem dX8_firstText_17 : decode cX8_firstText 17 = .ok (.getfield 25, 3) := by decide +kernel
theorem dX8_firstText_20 : decode cX8_firstText 20 = .ok (.iconst 2, 1) := by decide +kernel
theorem dX8_firstText_21 : decode cX8_firstText 21 = .ok (.bipush (-25), 2) := by decide +kernel
theorem dX8_firstText_23 : decode cX8_firstText 23 = .ok (.iastore, 1) := by decide +kernel
theorem dX8_firstText_24 : decode cX8_firstText 24 = .ok (.aload_n 0, 1) := by decide +kernel
theorem dX8_firstText_25 : decode cX8_firstText 25 = .ok (.getfield 25, 3) := by decide +kernel
theorem dX8_firstText_28 : decode cX8_firstText 28 = .ok (.iconst 3, 1) := by decide +kernel
theorem dX8_firstText_29 : decode cX8_firstText 29 = .ok (.iconst 3, 1) := by decide +kernel
theorem dX8_firstText_30 : decode cX8_firstText 30 = .ok (.iastore, 1) := by decide +kernel
theorem dX8_firstText_31 : decode cX8_firstText 31 = .ok (.aload_n 0, 1) := by decide +kernel
theorem dX8_firstText_32 : decode cX8_firstText 32 = .ok (.getfield 25, 3) := by decide +kernel
theorem dX8_firstText_35 : decode cX8_firstText 35 = .ok (.iconst 4, 1) := by decide +kernel
theorem dX8_firstText_36 : decode cX8_firstText 36 = .ok (.iconst 0, 1) := by decide +kernel
theorem dX8_firstText_37 : decode cX8_firstText 37 = .ok (.iastore, 1) := by decide +kernel
theorem dX8_firstText_38 : decode cX8_firstText 38 = .ok (.aload_n 0, 1) := by decide +kernel
theorem dX8_firstText_39 : decode cX8_firstText 39 = .ok (.getfield 28, 3) := by decide +kernel
theorem dX8_firstText_42 : decode cX8_firstText 42 = .ok (.iconst 0, 1) := by decide +kernel
theorem dX8_firstText_43 : decode cX8_firstText 43 = .ok (.iconst 3, 1) := by decide +kernel
theorem dX8_firstText_44 : decode cX8_firstText 44 = .ok (.iastore, 1) := by decide +kernel
theorem dX8_firstText_45 : decode cX8_firstText 45 = .ok (.aload_n 0, 1) := by decide +kernel
theorem dX8_firstText_46 : decode cX8_firstText 46 = .ok (.getfield 28, 3) := by decide +kernel
theorem dX8_firstText_49 : decode cX8_firstText 49 = .ok (.iconst 1, 1) := by decide +kernel
theorem dX8_firstText_50 : decode cX8_firstText 50 = .ok (.iconst 4, 1) := by decide +kernel
theorem dX8_firstText_51 : decode cX8_firstText 51 = .ok (.iastore, 1) := by decide +kernel
theorem dX8_firstText_52 : decode cX8_firstText 52 = .ok (.aload_n 0, 1) := by decide +kernel
theorem dX8_firstText_53 : decode cX8_firstText 53 = .ok (.getfield 28, 3) := by decide +kernel
theorem dX8_firstText_56 : decode cX8_firstText 56 = .ok (.iconst 2, 1) := by decide +kernel
theorem dX8_firstText_57 : decode cX8_firstText 57 = .ok (.iconst 5, 1) := by decide +kernel
theorem dX8_firstText_58 : decode cX8_firstText 58 = .ok (.iastore, 1) := by decide +kernel
theorem dX8_firstText_59 : decode cX8_firstText 59 = .ok (.iconst 1, 1) := by decide +kernel
theorem dX8_firstText_60 : decode cX8_firstText 60 = .ok (.ireturn, 1) := by decide +kernel
theorem dX8_feed_0 : decode cX8_feed 0 = .ok (.iload_n 1, 1) := by decide +kernel
theorem dX8_feed_1 : decode cX8_feed 1 = .ok (.iconst 0, 1) := by decide +kernel
theorem dX8_feed_2 : decode cX8_feed 2 = .ok (.sipush 255, 3) := by decide +kernel
theorem dX8_feed_5 : decode cX8_feed 5 = .ok (.invokestatic 89, 3) := by decide +kernel
theorem dX8_feed_8 : decode cX8_feed 8 = .ok (.ifCond .ne 6, 3) := by decide +kernel
theorem dX8_feed_11 : decode cX8_feed 11 = .ok (.bipush (-2), 2) := by decide +kernel
theorem dX8_feed_13 : decode cX8_feed 13 = .ok (.ireturn, 1) := by decide +kernel
theorem dX8_feed_14 : decode cX8_feed 14 = .ok (.aload_n 0, 1) := by decide +kernel
theorem dX8_feed_15 : decode cX8_feed 15 = .ok (.getfield 134, 3) := by decide +kernel
theorem dX8_feed_18 : decode cX8_feed 18 = .ok (.sipush 160, 3) := by decide +kernel
theorem dX8_feed_21 : decode cX8_feed 21 = .ok (.if_icmp .ne 6, 3) := by decide +kernel
theorem dX8_feed_24 : decode cX8_feed 24 = .ok (.bipush (-4), 2) := by decide +kernel
theorem dX8_feed_26 : decode cX8_feed 26 = .ok (.ireturn, 1) := by decide +kernel
theorem dX8_feed_27 : decode cX8_feed 27 = .ok (.aload_n 0, 1) := by decide +kernel
theorem dX8_feed_28 : decode cX8_feed 28 = .ok (.getfield 22, 3) := by decide +kernel
theorem dX8_feed_31 : decode cX8_feed 31 = .ok (.aload_n 0, 1) := by decide +kernel
theorem dX8_feed_32 : decode cX8_feed 32 = .ok (.getfield 134, 3) := by decide +kernel
theorem dX8_feed_35 : decode cX8_feed 35 = .ok (.iload_n 1, 1) := by decide +kernel
theorem dX8_feed_36 : decode cX8_feed 36 = .ok (.iastore, 1) := by decide +kernel
theorem dX8_feed_37 : decode cX8_feed 37 = .ok (.aload_n 0, 1) := by decide +kernel
theorem dX8_feed_38 : decode cX8_feed 38 = .ok (.dup, 1) := by decide +kernel
theorem dX8_feed_39 : decode cX8_feed 39 = .ok (.getfield 134, 3) := by decide +kernel
theorem dX8_feed_42 : decode cX8_feed 42 = .ok (.iconst 1, 1) := by decide +kernel
theorem dX8_feed_43 : decode cX8_feed 43 = .ok (.iadd, 1) := by decide +kernel
theorem dX8_feed_44 : decode cX8_feed 44 = .ok (.putfield 134, 3) := by decide +kernel
theorem dX8_feed_47 : decode cX8_feed 47 = .ok (.aload_n 0, 1) := by decide +kernel
theorem dX8_feed_48 : decode cX8_feed 48 = .ok (.getfield 134, 3) := by decide +kernel
theorem dX8_feed_51 : decode cX8_feed 51 = .ok (.ireturn, 1) := by decide +kernel
theorem dX8_sortAt_0 : decode cX8_sortAt 0 = .ok (.iload_n 1, 1) := by decide +kernel
theorem dX8_sortAt_1 : decode cX8_sortAt 1 = .ok (.aload_n 0, 1) := by decide +kernel
theorem dX8_sortAt_2 : decode cX8_sortAt 2 = .ok (.getfield 134, 3) := by decide +kernel
theorem dX8_sortAt_5 : decode cX8_sortAt 5 = .ok (.if_icmp .lt 7, 3) := by decide +kernel
theorem dX8_sortAt_8 : decode cX8_sortAt 8 = .ok (.iconst 0, 1) := by decide +kernel
theorem dX8_sortAt_9 : decode cX8_sortAt 9 = .ok (.goto 44, 3) := by decide +kernel
theorem dX8_sortAt_12 : decode cX8_sortAt 12 = .ok (.aload_n 0, 1) := by decide +kernel
theorem dX8_sortAt_13 : decode cX8_sortAt 13 = .ok (.getfield 22, 3) := by decide +kernel
theorem dX8_sortAt_16 : decode cX8_sortAt 16 = .ok (.iload_n 1, 1) := by decide +kernel
theorem dX8_sortAt_17 : decode cX8_sortAt 17 = .ok (.iaload, 1) := by decide +kernel
theorem dX8_sortAt_18 : decode cX8_sortAt 18 = .ok (.bipush 97, 2) := by decide +kernel
theorem dX8_sortAt_20 : decode cX8_sortAt 20 = .ok (.bipush 122, 2) := by decide +kernel
theorem dX8_sortAt_22 : decode cX8_sortAt 22 = .ok (.invokestatic 89, 3) := by decide +kernel
theorem dX8_sortAt_25 : decode cX8_sortAt 25 = .ok (.ifCond .eq 7, 3) := by decide +kernel
theorem dX8_sortAt_28 : decode cX8_sortAt 28 = .ok (.iconst 1, 1) := by decide +kernel
theorem dX8_sortAt_29 : decode cX8_sortAt 29 = .ok (.goto 24, 3) := by decide +kernel
theorem dX8_sortAt_32 : decode cX8_sortAt 32 = .ok (.aload_n 0, 1) := by decide +kernel
theorem dX8_sortAt_33 : decode cX8_sortAt 33 = .ok (.getfield 22, 3) := by decide +kernel
theorem dX8_sortAt_36 : decode cX8_sortAt 36 = .ok (.iload_n 1, 1) := by decide +kernel
theorem dX8_sortAt_37 : decode cX8_sortAt 37 = .ok (.iaload, 1) := by decide +kernel
theorem dX8_sortAt_38 : decode cX8_sortAt 38 = .ok (.bipush 48, 2) := by decide +kernel
theorem dX8_sortAt_40 : decode cX8_sortAt 40 = .ok (.bipush 57, 2) := by decide +kernel
theorem dX8_sortAt_42 : decode cX8_sortAt 42 = .ok (.invokestatic 89, 3) := by decide +kernel
theorem dX8_sortAt_45 : decode cX8_sortAt 45 = .ok (.ifCond .eq 7, 3) := by decide +kernel
theorem dX8_sortAt_48 : decode cX8_sortAt 48 = .ok (.iconst 2, 1) := by decide +kernel
theorem dX8_sortAt_49 : decode cX8_sortAt 49 = .ok (.goto 4, 3) := by decide +kernel
theorem dX8_sortAt_52 : decode cX8_sortAt 52 = .ok (.iconst 3, 1) := by decide +kernel
theorem dX8_sortAt_53 : decode cX8_sortAt 53 = .ok (.ireturn, 1) := by decide +kernel
theorem dX8_next_0 : decode cX8_next 0 = .ok (.aload_n 0, 1) := by decide +kernel
theorem dX8_next_1 : decode cX8_next 1 = .ok (.getfield 137, 3) := by decide +kernel
theorem dX8_next_4 : decode cX8_next 4 = .ok (.aload_n 0, 1) := by decide +kernel
theorem dX8_next_5 : decode cX8_next 5 = .ok (.getfield 134, 3) := by decide +kernel
theorem dX8_next_8 : decode cX8_next 8 = .ok (.if_icmp .ge 44, 3) := by decide +kernel
theorem dX8_next_11 : decode cX8_next 11 = .ok (.aload_n 0, 1) := by decide +kernel
theorem dX8_next_12 : decode cX8_next 12 = .ok (.getfield 22, 3) := by decide +kernel
theorem dX8_next_15 : decode cX8_next 15 = .ok (.aload_n 0, 1) := by decide +kernel
theorem dX8_next_16 : decode cX8_next 16 = .ok (.getfield 137, 3) := by decide +kernel
theorem dX8_next_19 : decode cX8_next 19 = .ok (.iaload, 1) := by decide +kernel
theorem dX8_next_20 : decode cX8_next 20 = .ok (.bipush 32, 2) := by decide +kernel
theorem dX8_next_22 : decode cX8_next 22 = .ok (.if_icmp .eq 17, 3) := by decide +kernel
theorem dX8_next_25 : decode cX8_next 25 = .ok (.aload_n 0, 1) := by decide +kernel
theorem dX8_next_26 : decode cX8_next 26 = .ok (.getfield 22, 3) := by decide +kernel
theorem dX8_next_29 : decode cX8_next 29 = .ok (.aload_n 0, 1) := by decide +kernel
theorem dX8_next_30 : decode cX8_next 30 = .ok (.getfield 137, 3) := by decide +kernel
theorem dX8_next_33 : decode cX8_next 33 = .ok (.iaload, 1) := by decide +kernel
theorem dX8_next_34 : decode cX8_next 34 = .ok (.bipush 10, 2) := by decide +kernel
theorem dX8_next_36 : decode cX8_next 36 = .ok (.if_icmp .ne 16, 3) := by decide +kernel
theorem dX8_next_39 : decode cX8_next 39 = .ok (.aload_n 0, 1) := by decide +kernel
theorem dX8_next_40 : decode cX8_next 40 = .ok (.dup, 1) := by decide +kernel
theorem dX8_next_41 : decode cX8_next 41 = .ok (.getfield 137, 3) := by decide +kernel
theorem dX8_next_44 : decode cX8_next 44 = .ok (.iconst 1, 1) := by decide +kernel
theorem dX8_next_45 : decode cX8_next 45 = .ok (.iadd, 1) := by decide +kernel
theorem dX8_next_46 : decode cX8_next 46 = .ok (.putfield 137, 3) := by decide +kernel
theorem dX8_next_49 : decode cX8_next 49 = .ok (.goto (-49), 3) := by decide +kernel
theorem dX8_next_52 : decode cX8_next 52 = .ok (.aload_n 0, 1) := by decide +kernel
theorem dX8_next_53 : decode cX8_next 53 = .ok (.aload_n 0, 1) := by decide +kernel
theorem dX8_next_54 : decode cX8_next 54 = .ok (.getfield 137, 3) := by decide +kernel
theorem dX8_next_57 : decode cX8_next 57 = .ok (.putfield 140, 3) := by decide +kernel
theorem dX8_next_60 : decode cX8_next 60 = .ok (.aload_n 0, 1) := by decide +kernel
theorem dX8_next_61 : decode cX8_next 61 = .ok (.aload_n 0, 1) := by decide +kernel
theorem dX8_next_62 : decode cX8_next 62 = .ok (.aload_n 0, 1) := by decide +kernel
theorem dX8_next_63 : decode cX8_next 63 = .ok (.getfield 137, 3) := by decide +kernel
theorem dX8_next_66 : decode cX8_next 66 = .ok (.invokevirtual 143, 3) := by decide +kernel
theorem dX8_next_69 : decode cX8_next 69 = .ok (.putfield 146, 3) := by decide +kernel
theorem dX8_next_72 : decode cX8_next 72 = .ok (.aload_n 0, 1) := by decide +kernel
theorem dX8_next_73 : decode cX8_next 73 = .ok (.getfield 146, 3) := by decide +kernel
theorem dX8_next_76 : decode cX8_next 76 = .ok (.ifCond .le 49, 3) := by decide +kernel
theorem dX8_next_79 : decode cX8_next 79 = .ok (.aload_n 0, 1) := by decide +kernel
theorem dX8_next_80 : decode cX8_next 80 = .ok (.dup, 1) := by decide +kernel
theorem dX8_next_81 : decode cX8_next 81 = .ok (.getfield 137, 3) := by decide +kernel
theorem dX8_next_84 : decode cX8_next 84 = .ok (.iconst 1, 1) := by decide +kernel
theorem dX8_next_85 : decode cX8_next 85 = .ok (.iadd, 1) := by decide +kernel
theorem dX8_next_86 : decode cX8_next 86 = .ok (.putfield 137, 3) := by decide +kernel
theorem dX8_next_89 : decode cX8_next 89 = .ok (.aload_n 0, 1) := by decide +kernel
theorem dX8_next_90 : decode cX8_next 90 = .ok (.getfield 146, 3) := by decide +kernel
theorem dX8_next_93 : decode cX8_next 93 = .ok (.iconst 3, 1) := by decide +kernel
theorem dX8_next_94 : decode cX8_next 94 = .ok (.if_icmp .ge 31, 3) := by decide +kernel
theorem dX8_next_97 : decode cX8_next 97 = .ok (.aload_n 0, 1) := by decide +kernel
theorem dX8_next_98 : decode cX8_next 98 = .ok (.aload_n 0, 1) := by decide +kernel
theorem dX8_next_99 : decode cX8_next 99 = .ok (.getfield 137, 3) := by decide +kernel
theorem dX8_next_102 : decode cX8_next 102 = .ok (.invokevirtual 143, 3) := by decide +kernel
theorem dX8_next_105 : decode cX8_next 105 = .ok (.aload_n 0, 1) := by decide +kernel
theorem dX8_next_106 : decode cX8_next 106 = .ok (.getfield 146, 3) := by decide +kernel
theorem dX8_next_109 : decode cX8_next 109 = .ok (.if_icmp .ne 16, 3) := by decide +kernel
theorem dX8_next_112 : decode cX8_next 112 = .ok (.aload_n 0, 1) := by decide +kernel
theorem dX8_next_113 : decode cX8_next 113 = .ok (.dup, 1) := by decide +kernel
theorem dX8_next_114 : decode cX8_next 114 = .ok (.getfield 137, 3) := by decide +kernel
theorem dX8_next_117 : decode cX8_next 117 = .ok (.iconst 1, 1) := by decide +kernel
theorem dX8_next_118 : decode cX8_next 118 = .ok (.iadd, 1) := by decide +kernel
theorem dX8_next_119 : decode cX8_next 119 = .ok (.putfield 137, 3) := by decide +kernel
theorem dX8_next_122 : decode cX8_next 122 = .ok (.goto (-33), 3) := by decide +kernel
theorem dX8_next_125 : decode cX8_next 125 = .ok (.return_, 1) := by decide +kernel
theorem dX8_word_0 : decode cX8_word 0 = .ok (.iconst (-1), 1) := by decide +kernel
theorem dX8_word_1 : decode cX8_word 1 = .ok (.istore_n 1, 1) := by decide +kernel
theorem dX8_word_2 : decode cX8_word 2 = .ok (.iconst 0, 1) := by decide +kernel
theorem dX8_word_3 : decode cX8_word 3 = .ok (.istore_n 2, 1) := by decide +kernel
theorem dX8_word_4 : decode cX8_word 4 = .ok (.iload_n 2, 1) := by decide +kernel
theorem dX8_word_5 : decode cX8_word 5 = .ok (.bipush 12, 2) := by decide +kernel
theorem dX8_word_7 : decode cX8_word 7 = .ok (.if_icmp .ge 118, 3) := by decide +kernel
theorem dX8_word_10 : decode cX8_word 10 = .ok (.aload_n 0, 1) := by decide +kernel
theorem dX8_word_11 : decode cX8_word 11 = .ok (.getfield 146, 3) := by decide +kernel
theorem dX8_word_14 : decode cX8_word 14 = .ok (.iconst 1, 1) := by decide +kernel
theorem dX8_word_15 : decode cX8_word 15 = .ok (.if_icmp .ne 21, 3) := by decide +kernel
theorem dX8_word_18 : decode cX8_word 18 = .ok (.aload_n 0, 1) := by decide +kernel
theorem dX8_word_19 : decode cX8_word 19 = .ok (.getfield 137, 3) := by decide +kernel
theorem dX8_word_22 : decode cX8_word 22 = .ok (.aload_n 0, 1) := by decide +kernel
theorem dX8_word_23 : decode cX8_word 23 = .ok (.getfield 140, 3) := by decide +kernel
theorem dX8_word_26 : decode cX8_word 26 = .ok (.isub, 1) := by decide +kernel
theorem dX8_word_27 : decode cX8_word 27 = .ok (.bipush 6, 2) := by decide +kernel
theorem dX8_word_29 : decode cX8_word 29 = .ok (.if_icmp .gt 7, 3) := by decide +kernel
theorem dX8_word_32 : decode cX8_word 32 = .ok (.iconst 1, 1) := by decide +kernel
theorem dX8_word_33 : decode cX8_word 33 = .ok (.goto 4, 3) := by decide +kernel
theorem dX8_word_36 : decode cX8_word 36 = .ok (.iconst 0, 1) := by decide +kernel
theorem dX8_word_37 : decode cX8_word 37 = .ok (.istore_n 3, 1) := by decide +kernel
theorem dX8_word_38 : decode cX8_word 38 = .ok (.iconst 0, 1) := by decide +kernel
theorem dX8_word_39 : decode cX8_word 39 = .ok (.istore 4, 2) := by decide +kernel
theorem dX8_word_41 : decode cX8_word 41 = .ok (.iload_n 3, 1) := by decide +kernel
theorem dX8_word_42 : decode cX8_word 42 = .ok (.ifCond .eq 67, 3) := by decide +kernel
theorem dX8_word_45 : decode cX8_word 45 = .ok (.iload 4, 2) := by decide +kernel
theorem dX8_word_47 : decode cX8_word 47 = .ok (.bipush 6, 2) := by decide +kernel
theorem dX8_word_49 : decode cX8_word 49 = .ok (.if_icmp .ge 60, 3) := by decide +kernel
theorem dX8_word_52 : decode cX8_word 52 = .ok (.aload_n 0, 1) := by decide +kernel
theorem dX8_word_53 : decode cX8_word 53 = .ok (.getfield 39, 3) := by decide +kernel
theorem dX8_word_56 : decode cX8_word 56 = .ok (.bipush 6, 2) := by decide +kernel
theorem dX8_word_58 : decode cX8_word 58 = .ok (.iload_n 2, 1) := by decide +kernel
theorem dX8_word_59 : decode cX8_word 59 = .ok (.imul, 1) := by decide +kernel
theorem dX8_word_60 : decode cX8_word 60 = .ok (.iload 4, 2) := by decide +kernel
theorem dX8_word_62 : decode cX8_word 62 = .ok (.iadd, 1) := by decide +kernel
theorem dX8_word_63 : decode cX8_word 63 = .ok (.caload, 1) := by decide +kernel
theorem dX8_word_64 : decode cX8_word 64 = .ok (.aload_n 0, 1) := by decide +kernel
theorem dX8_word_65 : decode cX8_word 65 = .ok (.getfield 140, 3) := by decide +kernel
theorem dX8_word_68 : decode cX8_word 68 = .ok (.iload 4, 2) := by decide +kernel
theorem dX8_word_70 : decode cX8_word 70 = .ok (.iadd, 1) := by decide +kernel
theorem dX8_word_71 : decode cX8_word 71 = .ok (.aload_n 0, 1) := by decide +kernel
theorem dX8_word_72 : decode cX8_word 72 = .ok (.getfield 137, 3) := by decide +kernel
theorem dX8_word_75 : decode cX8_word 75 = .ok (.if_icmp .ge 18, 3) := by decide +kernel
theorem dX8_word_78 : decode cX8_word 78 = .ok (.aload_n 0, 1) := by decide +kernel
theorem dX8_word_79 : decode cX8_word 79 = .ok (.getfield 22, 3) := by decide +kernel
theorem dX8_word_82 : decode cX8_word 82 = .ok (.aload_n 0, 1) := by decide +kernel
theorem dX8_word_83 : decode cX8_word 83 = .ok (.getfield 140, 3) := by decide +kernel
theorem dX8_word_86 : decode cX8_word 86 = .ok (.iload 4, 2) := by decide +kernel
theorem dX8_word_88 : decode cX8_word 88 = .ok (.iadd, 1) := by decide +kernel
theorem dX8_word_89 : decode cX8_word 89 = .ok (.iaload, 1) := by decide +kernel
theorem dX8_word_90 : decode cX8_word 90 = .ok (.goto 4, 3) := by decide +kernel
theorem dX8_word_93 : decode cX8_word 93 = .ok (.iconst 0, 1) := by decide +kernel
theorem dX8_word_94 : decode cX8_word 94 = .ok (.if_icmp .ne 7, 3) := by decide +kernel
theorem dX8_word_97 : decode cX8_word 97 = .ok (.iconst 1, 1) := by decide +kernel
theorem dX8_word_98 : decode cX8_word 98 = .ok (.goto 4, 3) := by decide +kernel
theorem dX8_word_101 : decode cX8_word 101 = .ok (.iconst 0, 1) := by decide +kernel
theorem dX8_word_102 : decode cX8_word 102 = .ok (.istore_n 3, 1) := by decide +kernel
theorem dX8_word_103 : decode cX8_word 103 = .ok (.iinc 4 1, 3) := by decide +kernel
theorem dX8_word_106 : decode cX8_word 106 = .ok (.goto (-65), 3) := by decide +kernel
theorem dX8_word_109 : decode cX8_word 109 = .ok (.iload_n 3, 1) := by decide +kernel
theorem dX8_word_110 : decode cX8_word 110 = .ok (.ifCond .eq 7, 3) := by decide +kernel
theorem dX8_word_113 : decode cX8_word 113 = .ok (.iload_n 2, 1) := by decide +kernel
theorem dX8_word_114 : decode cX8_word 114 = .ok (.goto 4, 3) := by decide +kernel
theorem dX8_word_117 : decode cX8_word 117 = .ok (.iload_n 1, 1) := by decide +kernel
theorem dX8_word_118 : decode cX8_word 118 = .ok (.istore_n 1, 1) := by decide +kernel
theorem dX8_word_119 : decode cX8_word 119 = .ok (.iinc 2 1, 3) := by decide +kernel
theorem dX8_word_122 : decode cX8_word 122 = .ok (.goto (-118), 3) := by decide +kernel
theorem dX8_word_125 : decode cX8_word 125 = .ok (.iload_n 1, 1) := by decide +kernel
theorem dX8_word_126 : decode cX8_word 126 = .ok (.ireturn, 1) := by decide +kernel
theorem dX8_isSign_0 : decode cX8_isSign 0 = .ok (.aload_n 0, 1) := by decide +kernel
theorem dX8_isSign_1 : decode cX8_isSign 1 = .ok (.getfield 146, 3) := by decide +kernel
theorem dX8_isSign_4 : decode cX8_isSign 4 = .ok (.iconst 3, 1) := by decide +kernel
theorem dX8_isSign_5 : decode cX8_isSign 5 = .ok (.if_icmp .ne 20, 3) := by decide +kernel
theorem dX8_isSign_8 : decode cX8_isSign 8 = .ok (.aload_n 0, 1) := by decide +kernel
theorem dX8_isSign_9 : decode cX8_isSign 9 = .ok (.getfield 22, 3) := by decide +kernel
theorem dX8_isSign_12 : decode cX8_isSign 12 = .ok (.aload_n 0, 1) := by decide +kernel
theorem dX8_isSign_13 : decode cX8_isSign 13 = .ok (.getfield 140, 3) := by decide +kernel
theorem dX8_isSign_16 : decode cX8_isSign 16 = .ok (.iaload, 1) := by decide +kernel
theorem dX8_isSign_17 : decode cX8_isSign 17 = .ok (.iload_n 1, 1) := by decide +kernel
theorem dX8_isSign_18 : decode cX8_isSign 18 = .ok (.if_icmp .ne 7, 3) := by decide +kernel
theorem dX8_isSign_21 : decode cX8_isSign 21 = .ok (.iconst 1, 1) := by decide +kernel
theorem dX8_isSign_22 : decode cX8_isSign 22 = .ok (.goto 4, 3) := by decide +kernel
theorem dX8_isSign_25 : decode cX8_isSign 25 = .ok (.iconst 0, 1) := by decide +kernel
theorem dX8_isSign_26 : decode cX8_isSign 26 = .ok (.ireturn, 1) := by decide +kernel
theorem dX8_write_0 : decode cX8_write 0 = .ok (.aload_n 0, 1) := by decide +kernel
theorem dX8_write_1 : decode cX8_write 1 = .ok (.getfield 25, 3) := by decide +kernel
theorem dX8_write_4 : decode cX8_write 4 = .ok (.sipush 160, 3) := by decide +kernel
theorem dX8_write_7 : decode cX8_write 7 = .ok (.aload_n 0, 1) := by decide +kernel
theorem dX8_write_8 : decode cX8_write 8 = .ok (.getfield 35, 3) := by decide +kernel
theorem dX8_write_11 : decode cX8_write 11 = .ok (.imul, 1) := by decide +kernel
theorem dX8_write_12 : decode cX8_write 12 = .ok (.aload_n 0, 1) := by decide +kernel
theorem dX8_write_13 : decode cX8_write 13 = .ok (.getfield 149, 3) := by decide +kernel
theorem dX8_write_16 : decode cX8_write 16 = .ok (.iadd, 1) := by decide +kernel
theorem dX8_write_17 : decode cX8_write 17 = .ok (.iload_n 1, 1) := by decide +kernel
theorem dX8_write_18 : decode cX8_write 18 = .ok (.iastore, 1) := by decide +kernel
theorem dX8_write_19 : decode cX8_write 19 = .ok (.aload_n 0, 1) := by decide +kernel
theorem dX8_write_20 : decode cX8_write 20 = .ok (.dup, 1) := by decide +kernel
theorem dX8_write_21 : decode cX8_write 21 = .ok (.getfield 149, 3) := by decide +kernel
theorem dX8_write_24 : decode cX8_write 24 = .ok (.iconst 1, 1) := by decide +kernel
theorem dX8_write_25 : decode cX8_write 25 = .ok (.iadd, 1) := by decide +kernel
theorem dX8_write_26 : decode cX8_write 26 = .ok (.putfield 149, 3) := by decide +kernel
theorem dX8_write_29 : decode cX8_write 29 = .ok (.return_, 1) := by decide +kernel
theorem dX8_rank_0 : decode cX8_rank 0 = .ok (.iload_n 0, 1) := by decide +kernel
theorem dX8_rank_1 : decode cX8_rank 1 = .ok (.ifCond .ne 7, 3) := by decide +kernel
theorem dX8_rank_4 : decode cX8_rank 4 = .ok (.iconst 0, 1) := by decide +kernel
theorem dX8_rank_5 : decode cX8_rank 5 = .ok (.goto 72, 3) := by decide +kernel
theorem dX8_rank_8 : decode cX8_rank 8 = .ok (.iload_n 0, 1) := by decide +kernel
theorem dX8_rank_9 : decode cX8_rank 9 = .ok (.bipush (-20), 2) := by decide +kernel
theorem dX8_rank_11 : decode cX8_rank 11 = .ok (.if_icmp .ne 7, 3) := by decide +kernel
theorem dX8_rank_14 : decode cX8_rank 14 = .ok (.iconst 1, 1) := by decide +kernel
theorem dX8_rank_15 : decode cX8_rank 15 = .ok (.goto 62, 3) := by decide +kernel
theorem dX8_rank_18 : decode cX8_rank 18 = .ok (.iload_n 0, 1) := by decide +kernel
theorem dX8_rank_19 : decode cX8_rank 19 = .ok (.bipush (-21), 2) := by decide +kernel
theorem dX8_rank_21 : decode cX8_rank 21 = .ok (.if_icmp .ne 7, 3) := by decide +kernel
theorem dX8_rank_24 : decode cX8_rank 24 = .ok (.iconst 2, 1) := by decide +kernel
theorem dX8_rank_25 : decode cX8_rank 25 = .ok (.goto 52, 3) := by decide +kernel
theorem dX8_rank_28 : decode cX8_rank 28 = .ok (.iload_n 0, 1) := by decide +kernel
theorem dX8_rank_29 : decode cX8_rank 29 = .ok (.bipush (-22), 2) := by decide +kernel
theorem dX8_rank_31 : decode cX8_rank 31 = .ok (.if_icmp .ne 7, 3) := by decide +kernel
theorem dX8_rank_34 : decode cX8_rank 34 = .ok (.iconst 3, 1) := by decide +kernel
theorem dX8_rank_35 : decode cX8_rank 35 = .ok (.goto 42, 3) := by decide +kernel
theorem dX8_rank_38 : decode cX8_rank 38 = .ok (.iload_n 0, 1) := by decide +kernel
theorem dX8_rank_39 : decode cX8_rank 39 = .ok (.bipush (-23), 2) := by decide +kernel
theorem dX8_rank_41 : decode cX8_rank 41 = .ok (.if_icmp .eq 9, 3) := by decide +kernel
theorem dX8_rank_44 : decode cX8_rank 44 = .ok (.iload_n 0, 1) := by decide +kernel
theorem dX8_rank_45 : decode cX8_rank 45 = .ok (.bipush (-24), 2) := by decide +kernel
theorem dX8_rank_47 : decode cX8_rank 47 = .ok (.if_icmp .ne 7, 3) := by decide +kernel
theorem dX8_rank_50 : decode cX8_rank 50 = .ok (.iconst 4, 1) := by decide +kernel
theorem dX8_rank_51 : decode cX8_rank 51 = .ok (.goto 26, 3) := by decide +kernel
theorem dX8_rank_54 : decode cX8_rank 54 = .ok (.iload_n 0, 1) := by decide +kernel
theorem dX8_rank_55 : decode cX8_rank 55 = .ok (.bipush (-27), 2) := by decide +kernel
theorem dX8_rank_57 : decode cX8_rank 57 = .ok (.if_icmp .ne 8, 3) := by decide +kernel
theorem dX8_rank_60 : decode cX8_rank 60 = .ok (.bipush 6, 2) := by decide +kernel
theorem dX8_rank_62 : decode cX8_rank 62 = .ok (.goto 15, 3) := by decide +kernel
theorem dX8_rank_65 : decode cX8_rank 65 = .ok (.iload_n 0, 1) := by decide +kernel
theorem dX8_rank_66 : decode cX8_rank 66 = .ok (.bipush (-28), 2) := by decide +kernel
theorem dX8_rank_68 : decode cX8_rank 68 = .ok (.if_icmp .ne 8, 3) := by decide +kernel
theorem dX8_rank_71 : decode cX8_rank 71 = .ok (.bipush 7, 2) := by decide +kernel
theorem dX8_rank_73 : decode cX8_rank 73 = .ok (.goto 4, 3) := by decide +kernel
theorem dX8_rank_76 : decode cX8_rank 76 = .ok (.iconst 5, 1) := by decide +kernel
theorem dX8_rank_77 : decode cX8_rank 77 = .ok (.ireturn, 1) := by decide +kernel
theorem dX8_await_0 : decode cX8_await 0 = .ok (.aload_n 0, 1) := by decide +kernel
theorem dX8_await_1 : decode cX8_await 1 = .ok (.getfield 43, 3) := by decide +kernel
theorem dX8_await_4 : decode cX8_await 4 = .ok (.aload_n 0, 1) := by decide +kernel
theorem dX8_await_5 : decode cX8_await 5 = .ok (.getfield 152, 3) := by decide +kernel
theorem dX8_await_8 : decode cX8_await 8 = .ok (.iload_n 1, 1) := by decide +kernel
theorem dX8_await_9 : decode cX8_await 9 = .ok (.iastore, 1) := by decide +kernel
theorem dX8_await_10 : decode cX8_await 10 = .ok (.aload_n 0, 1) := by decide +kernel
theorem dX8_await_11 : decode cX8_await 11 = .ok (.dup, 1) := by decide +kernel
theorem dX8_await_12 : decode cX8_await 12 = .ok (.getfield 152, 3) := by decide +kernel
theorem dX8_await_15 : decode cX8_await 15 = .ok (.iconst 1, 1) := by decide +kernel
theorem dX8_await_16 : decode cX8_await 16 = .ok (.iadd, 1) := by decide +kernel
theorem dX8_await_17 : decode cX8_await 17 = .ok (.putfield 152, 3) := by decide +kernel
theorem dX8_await_20 : decode cX8_await 20 = .ok (.return_, 1) := by decide +kernel
theorem dX8_last_0 : decode cX8_last 0 = .ok (.aload_n 0, 1) := by decide +kernel
theorem dX8_last_1 : decode cX8_last 1 = .ok (.getfield 152, 3) := by decide +kernel
theorem dX8_last_4 : decode cX8_last 4 = .ok (.ifCond .ne 7, 3) := by decide +kernel
theorem dX8_last_7 : decode cX8_last 7 = .ok (.iconst 0, 1) := by decide +kernel
theorem dX8_last_8 : decode cX8_last 8 = .ok (.goto 17, 3) := by decide +kernel
theorem dX8_last_11 : decode cX8_last 11 = .ok (.aload_n 0, 1) := by decide +kernel
theorem dX8_last_12 : decode cX8_last 12 = .ok (.getfield 43, 3) := by decide +kernel
theorem dX8_last_15 : decode cX8_last 15 = .ok (.aload_n 0, 1) := by decide +kernel
theorem dX8_last_16 : decode cX8_last 16 = .ok (.getfield 152, 3) := by decide +kernel
theorem dX8_last_19 : decode cX8_last 19 = .ok (.iconst 1, 1) := by decide +kernel
theorem dX8_last_20 : decode cX8_last 20 = .ok (.isub, 1) := by decide +kernel
theorem dX8_last_21 : decode cX8_last 21 = .ok (.iaload, 1) := by decide +kernel
theorem dX8_last_22 : decode cX8_last 22 = .ok (.invokestatic 155, 3) := by decide +kernel
theorem dX8_last_25 : decode cX8_last 25 = .ok (.ireturn, 1) := by decide +kernel
theorem dX8_settle_0 : decode cX8_settle 0 = .ok (.aload_n 0, 1) := by decide +kernel
theorem dX8_settle_1 : decode cX8_settle 1 = .ok (.invokevirtual 158, 3) := by decide +kernel
theorem dX8_settle_4 : decode cX8_settle 4 = .ok (.ifCond .le 79, 3) := by decide +kernel
theorem dX8_settle_7 : decode cX8_settle 7 = .ok (.aload_n 0, 1) := by decide +kernel
theorem dX8_settle_8 : decode cX8_settle 8 = .ok (.invokevirtual 158, 3) := by decide +kernel
theorem dX8_settle_11 : decode cX8_settle 11 = .ok (.iload_n 1, 1) := by decide +kernel
theorem dX8_settle_12 : decode cX8_settle 12 = .ok (.if_icmp .lt 71, 3) := by decide +kernel
theorem dX8_settle_15 : decode cX8_settle 15 = .ok (.aload_n 0, 1) := by decide +kernel
theorem dX8_settle_16 : decode cX8_settle 16 = .ok (.dup, 1) := by decide +kernel
theorem dX8_settle_17 : decode cX8_settle 17 = .ok (.getfield 152, 3) := by decide +kernel
theorem dX8_settle_20 : decode cX8_settle 20 = .ok (.iconst 1, 1) := by decide +kernel
theorem dX8_settle_21 : decode cX8_settle 21 = .ok (.isub, 1) := by decide +kernel
theorem dX8_settle_22 : decode cX8_settle 22 = .ok (.putfield 152, 3) := by decide +kernel
theorem dX8_settle_25 : decode cX8_settle 25 = .ok (.aload_n 0, 1) := by decide +kernel
theorem dX8_settle_26 : decode cX8_settle 26 = .ok (.aload_n 0, 1) := by decide +kernel
theorem dX8_settle_27 : decode cX8_settle 27 = .ok (.getfield 43, 3) := by decide +kernel
theorem dX8_settle_30 : decode cX8_settle 30 = .ok (.aload_n 0, 1) := by decide +kernel
theorem dX8_settle_31 : decode cX8_settle 31 = .ok (.getfield 152, 3) := by decide +kernel
theorem dX8_settle_34 : decode cX8_settle 34 = .ok (.iaload, 1) := by decide +kernel
theorem dX8_settle_35 : decode cX8_settle 35 = .ok (.invokevirtual 161, 3) := by decide +kernel
theorem dX8_settle_38 : decode cX8_settle 38 = .ok (.aload_n 0, 1) := by decide +kernel
theorem dX8_settle_39 : decode cX8_settle 39 = .ok (.dup, 1) := by decide +kernel
theorem dX8_settle_40 : decode cX8_settle 40 = .ok (.getfield 165, 3) := by decide +kernel
theorem dX8_settle_43 : decode cX8_settle 43 = .ok (.aload_n 0, 1) := by decide +kernel
theorem dX8_settle_44 : decode cX8_settle 44 = .ok (.getfield 43, 3) := by decide +kernel
theorem dX8_settle_47 : decode cX8_settle 47 = .ok (.aload_n 0, 1) := by decide +kernel
theorem dX8_settle_48 : decode cX8_settle 48 = .ok (.getfield 152, 3) := by decide +kernel
theorem dX8_settle_51 : decode cX8_settle 51 = .ok (.iaload, 1) := by decide +kernel
theorem dX8_settle_52 : decode cX8_settle 52 = .ok (.bipush (-22), 2) := by decide +kernel
theorem dX8_settle_54 : decode cX8_settle 54 = .ok (.if_icmp .eq 17, 3) := by decide +kernel
theorem dX8_settle_57 : decode cX8_settle 57 = .ok (.aload_n 0, 1) := by decide +kernel
theorem dX8_settle_58 : decode cX8_settle 58 = .ok (.getfield 43, 3) := by decide +kernel
theorem dX8_settle_61 : decode cX8_settle 61 = .ok (.aload_n 0, 1) := by decide +kernel
theorem dX8_settle_62 : decode cX8_settle 62 = .ok (.getfield 152, 3) := by decide +kernel
theorem dX8_settle_65 : decode cX8_settle 65 = .ok (.iaload, 1) := by decide +kernel
theorem dX8_settle_66 : decode cX8_settle 66 = .ok (.bipush (-28), 2) := by decide +kernel
theorem dX8_settle_68 : decode cX8_settle 68 = .ok (.if_icmp .ne 7, 3) := by decide +kernel
theorem dX8_settle_71 : decode cX8_settle 71 = .ok (.iconst 1, 1) := by decide +kernel
theorem dX8_settle_72 : decode cX8_settle 72 = .ok (.goto 4, 3) := by decide +kernel
theorem dX8_settle_75 : decode cX8_settle 75 = .ok (.iconst 0, 1) := by decide +kernel
theorem dX8_settle_76 : decode cX8_settle 76 = .ok (.isub, 1) := by decide +kernel
theorem dX8_settle_77 : decode cX8_settle 77 = .ok (.putfield 165, 3) := by decide +kernel
theorem dX8_settle_80 : decode cX8_settle 80 = .ok (.goto (-80), 3) := by decide +kernel
theorem dX8_settle_83 : decode cX8_settle 83 = .ok (.return_, 1) := by decide +kernel
theorem dX8_between_0 : decode cX8_between 0 = .ok (.aload_n 0, 1) := by decide +kernel
theorem dX8_between_1 : decode cX8_between 1 = .ok (.invokevirtual 168, 3) := by decide +kernel
theorem dX8_between_4 : decode cX8_between 4 = .ok (.istore_n 1, 1) := by decide +kernel
theorem dX8_between_5 : decode cX8_between 5 = .ok (.iload_n 1, 1) := by decide +kernel
theorem dX8_between_6 : decode cX8_between 6 = .ok (.bipush 9, 2) := by decide +kernel
theorem dX8_between_8 : decode cX8_between 8 = .ok (.if_icmp .ne 8, 3) := by decide +kernel
theorem dX8_between_11 : decode cX8_between 11 = .ok (.bipush (-20), 2) := by decide +kernel
theorem dX8_between_13 : decode cX8_between 13 = .ok (.goto 85, 3) := by decide +kernel
theorem dX8_between_16 : decode cX8_between 16 = .ok (.iload_n 1, 1) := by decide +kernel
theorem dX8_between_17 : decode cX8_between 17 = .ok (.bipush 10, 2) := by decide +kernel
theorem dX8_between_19 : decode cX8_between 19 = .ok (.if_icmp .ne 8, 3) := by decide +kernel
theorem dX8_between_22 : decode cX8_between 22 = .ok (.bipush (-21), 2) := by decide +kernel
theorem dX8_between_24 : decode cX8_between 24 = .ok (.goto 74, 3) := by decide +kernel
theorem dX8_between_27 : decode cX8_between 27 = .ok (.aload_n 0, 1) := by decide +kernel
theorem dX8_between_28 : decode cX8_between 28 = .ok (.bipush 60, 2) := by decide +kernel
theorem dX8_between_30 : decode cX8_between 30 = .ok (.invokevirtual 171, 3) := by decide +kernel
theorem dX8_between_33 : decode cX8_between 33 = .ok (.ifCond .eq 8, 3) := by decide +kernel
theorem dX8_between_36 : decode cX8_between 36 = .ok (.bipush (-23), 2) := by decide +kernel
theorem dX8_between_38 : decode cX8_between 38 = .ok (.goto 60, 3) := by decide +kernel
theorem dX8_between_41 : decode cX8_between 41 = .ok (.aload_n 0, 1) := by decide +kernel
theorem dX8_between_42 : decode cX8_between 42 = .ok (.bipush 61, 2) := by decide +kernel
theorem dX8_between_44 : decode cX8_between 44 = .ok (.invokevirtual 171, 3) := by decide +kernel
theorem dX8_between_47 : decode cX8_between 47 = .ok (.ifCond .eq 8, 3) := by decide +kernel
theorem dX8_between_50 : decode cX8_between 50 = .ok (.bipush (-24), 2) := by decide +kernel
theorem dX8_between_52 : decode cX8_between 52 = .ok (.goto 46, 3) := by decide +kernel
theorem dX8_between_55 : decode cX8_between 55 = .ok (.aload_n 0, 1) := by decide +kernel
theorem dX8_between_56 : decode cX8_between 56 = .ok (.bipush 43, 2) := by decide +kernel
theorem dX8_between_58 : decode cX8_between 58 = .ok (.invokevirtual 171, 3) := by decide +kernel
theorem dX8_between_61 : decode cX8_between 61 = .ok (.ifCond .eq 8, 3) := by decide +kernel
theorem dX8_between_64 : decode cX8_between 64 = .ok (.bipush (-25), 2) := by decide +kernel
theorem dX8_between_66 : decode cX8_between 66 = .ok (.goto 32, 3) := by decide +kernel
theorem dX8_between_69 : decode cX8_between 69 = .ok (.aload_n 0, 1) := by decide +kernel
theorem dX8_between_70 : decode cX8_between 70 = .ok (.bipush 45, 2) := by decide +kernel
theorem dX8_between_72 : decode cX8_between 72 = .ok (.invokevirtual 171, 3) := by decide +kernel
theorem dX8_between_75 : decode cX8_between 75 = .ok (.ifCond .eq 8, 3) := by decide +kernel
theorem dX8_between_78 : decode cX8_between 78 = .ok (.bipush (-26), 2) := by decide +kernel
theorem dX8_between_80 : decode cX8_between 80 = .ok (.goto 18, 3) := by decide +kernel
theorem dX8_between_83 : decode cX8_between 83 = .ok (.aload_n 0, 1) := by decide +kernel
theorem dX8_between_84 : decode cX8_between 84 = .ok (.bipush 42, 2) := by decide +kernel
theorem dX8_between_86 : decode cX8_between 86 = .ok (.invokevirtual 171, 3) := by decide +kernel
theorem dX8_between_89 : decode cX8_between 89 = .ok (.ifCond .eq 8, 3) := by decide +kernel
theorem dX8_between_92 : decode cX8_between 92 = .ok (.bipush (-27), 2) := by decide +kernel
theorem dX8_between_94 : decode cX8_between 94 = .ok (.goto 4, 3) := by decide +kernel
theorem dX8_between_97 : decode cX8_between 97 = .ok (.iconst 0, 1) := by decide +kernel
theorem dX8_between_98 : decode cX8_between 98 = .ok (.ireturn, 1) := by decide +kernel
theorem dX8_numberThere_0 : decode cX8_numberThere 0 = .ok (.iconst 0, 1) := by decide +kernel
theorem dX8_numberThere_1 : decode cX8_numberThere 1 = .ok (.istore_n 1, 1) := by decide +kernel
theorem dX8_numberThere_2 : decode cX8_numberThere 2 = .ok (.aload_n 0, 1) := by decide +kernel
theorem dX8_numberThere_3 : decode cX8_numberThere 3 = .ok (.getfield 140, 3) := by decide +kernel
theorem dX8_numberThere_6 : decode cX8_numberThere 6 = .ok (.istore_n 2, 1) := by decide +kernel
theorem dX8_numberThere_7 : decode cX8_numberThere 7 = .ok (.iload_n 2, 1) := by decide +kernel
theorem dX8_numberThere_8 : decode cX8_numberThere 8 = .ok (.aload_n 0, 1) := by decide +kernel
theorem dX8_numberThere_9 : decode cX8_numberThere 9 = .ok (.getfield 137, 3) := by decide +kernel
theorem dX8_numberThere_12 : decode cX8_numberThere 12 = .ok (.if_icmp .ge 24, 3) := by decide +kernel
theorem dX8_numberThere_15 : decode cX8_numberThere 15 = .ok (.bipush 10, 2) := by decide +kernel
theorem dX8_numberThere_17 : decode cX8_numberThere 17 = .ok (.iload_n 1, 1) := by decide +kernel
theorem dX8_numberThere_18 : decode cX8_numberThere 18 = .ok (.imul, 1) := by decide +kernel
theorem dX8_numberThere_19 : decode cX8_numberThere 19 = .ok (.aload_n 0, 1) := by decide +kernel
theorem dX8_numberThere_20 : decode cX8_numberThere 20 = .ok (.getfield 22, 3) := by decide +kernel
theorem dX8_numberThere_23 : decode cX8_numberThere 23 = .ok (.iload_n 2, 1) := by decide +kernel
theorem dX8_numberThere_24 : decode cX8_numberThere 24 = .ok (.iaload, 1) := by decide +kernel
theorem dX8_numberThere_25 : decode cX8_numberThere 25 = .ok (.iadd, 1) := by decide +kernel
theorem dX8_numberThere_26 : decode cX8_numberThere 26 = .ok (.bipush 48, 2) := by decide +kernel
theorem dX8_numberThere_28 : decode cX8_numberThere 28 = .ok (.isub, 1) := by decide +kernel
theorem dX8_numberThere_29 : decode cX8_numberThere 29 = .ok (.istore_n 1, 1) := by decide +kernel
theorem dX8_numberThere_30 : decode cX8_numberThere 30 = .ok (.iinc 2 1, 3) := by decide +kernel
theorem dX8_numberThere_33 : decode cX8_numberThere 33 = .ok (.goto (-26), 3) := by decide +kernel
theorem dX8_numberThere_36 : decode cX8_numberThere 36 = .ok (.iload_n 1, 1) := by decide +kernel
theorem dX8_numberThere_37 : decode cX8_numberThere 37 = .ok (.ireturn, 1) := by decide +kernel
theorem dX8_begin_0 : decode cX8_begin 0 = .ok (.aload_n 0, 1) := by decide +kernel
theorem dX8_begin_1 : decode cX8_begin 1 = .ok (.invokevirtual 168, 3) := by decide +kernel
theorem dX8_begin_4 : decode cX8_begin 4 = .ok (.istore_n 1, 1) := by decide +kernel
theorem dX8_begin_5 : decode cX8_begin 5 = .ok (.iload_n 1, 1) := by decide +kernel
theorem dX8_begin_6 : decode cX8_begin 6 = .ok (.iconst 0, 1) := by decide +kernel
theorem dX8_begin_7 : decode cX8_begin 7 = .ok (.iconst 5, 1) := by decide +kernel
theorem dX8_begin_8 : decode cX8_begin 8 = .ok (.invokestatic 89, 3) := by decide +kernel
theorem dX8_begin_11 : decode cX8_begin 11 = .ok (.ifCond .eq 13, 3) := by decide +kernel
theorem dX8_begin_14 : decode cX8_begin 14 = .ok (.aload_n 0, 1) := by decide +kernel
theorem dX8_begin_15 : decode cX8_begin 15 = .ok (.bipush (-10), 2) := by decide +kernel
theorem dX8_begin_17 : decode cX8_begin 17 = .ok (.iload_n 1, 1) := by decide +kernel
theorem dX8_begin_18 : decode cX8_begin 18 = .ok (.isub, 1) := by decide +kernel
theorem dX8_begin_19 : decode cX8_begin 19 = .ok (.invokevirtual 161, 3) := by decide +kernel
theorem dX8_begin_22 : decode cX8_begin 22 = .ok (.iconst 1, 1) := by decide +kernel
theorem dX8_begin_23 : decode cX8_begin 23 = .ok (.ireturn, 1) := by decide +kernel
theorem dX8_begin_24 : decode cX8_begin 24 = .ok (.aload_n 0, 1) := by decide +kernel
theorem dX8_begin_25 : decode cX8_begin 25 = .ok (.getfield 146, 3) := by decide +kernel
theorem dX8_begin_28 : decode cX8_begin 28 = .ok (.iconst 2, 1) := by decide +kernel
theorem dX8_begin_29 : decode cX8_begin 29 = .ok (.if_icmp .ne 26, 3) := by decide +kernel
theorem dX8_begin_32 : decode cX8_begin 32 = .ok (.aload_n 0, 1) := by decide +kernel
theorem dX8_begin_33 : decode cX8_begin 33 = .ok (.getfield 137, 3) := by decide +kernel
theorem dX8_begin_36 : decode cX8_begin 36 = .ok (.aload_n 0, 1) := by decide +kernel
theorem dX8_begin_37 : decode cX8_begin 37 = .ok (.getfield 140, 3) := by decide +kernel
theorem dX8_begin_40 : decode cX8_begin 40 = .ok (.isub, 1) := by decide +kernel
theorem dX8_begin_41 : decode cX8_begin 41 = .ok (.iconst 4, 1) := by decide +kernel
theorem dX8_begin_42 : decode cX8_begin 42 = .ok (.if_icmp .gt 13, 3) := by decide +kernel
theorem dX8_begin_45 : decode cX8_begin 45 = .ok (.aload_n 0, 1) := by decide +kernel
theorem dX8_begin_46 : decode cX8_begin 46 = .ok (.aload_n 0, 1) := by decide +kernel
theorem dX8_begin_47 : decode cX8_begin 47 = .ok (.invokevirtual 174, 3) := by decide +kernel
theorem dX8_begin_50 : decode cX8_begin 50 = .ok (.invokevirtual 161, 3) := by decide +kernel
theorem dX8_begin_53 : decode cX8_begin 53 = .ok (.iconst 1, 1) := by decide +kernel
theorem dX8_begin_54 : decode cX8_begin 54 = .ok (.ireturn, 1) := by decide +kernel
theorem dX8_begin_55 : decode cX8_begin 55 = .ok (.aload_n 0, 1) := by decide +kernel
theorem dX8_begin_56 : decode cX8_begin 56 = .ok (.bipush 40, 2) := by decide +kernel
theorem dX8_begin_58 : decode cX8_begin 58 = .ok (.invokevirtual 171, 3) := by decide +kernel
theorem dX8_begin_61 : decode cX8_begin 61 = .ok (.ifCond .eq 7, 3) := by decide +kernel
theorem dX8_begin_64 : decode cX8_begin 64 = .ok (.iconst 0, 1) := by decide +kernel
theorem dX8_begin_65 : decode cX8_begin 65 = .ok (.goto 38, 3) := by decide +kernel
theorem dX8_begin_68 : decode cX8_begin 68 = .ok (.aload_n 0, 1) := by decide +kernel
theorem dX8_begin_69 : decode cX8_begin 69 = .ok (.bipush 45, 2) := by decide +kernel
theorem dX8_begin_71 : decode cX8_begin 71 = .ok (.invokevirtual 171, 3) := by decide +kernel
theorem dX8_begin_74 : decode cX8_begin 74 = .ok (.ifCond .eq 8, 3) := by decide +kernel
theorem dX8_begin_77 : decode cX8_begin 77 = .ok (.bipush (-28), 2) := by decide +kernel
theorem dX8_begin_79 : decode cX8_begin 79 = .ok (.goto 24, 3) := by decide +kernel
theorem dX8_begin_82 : decode cX8_begin 82 = .ok (.iload_n 1, 1) := by decide +kernel
theorem dX8_begin_83 : decode cX8_begin 83 = .ok (.bipush 11, 2) := by decide +kernel
theorem dX8_begin_85 : decode cX8_begin 85 = .ok (.if_icmp .ne 16, 3) := by decide +kernel
theorem dX8_begin_88 : decode cX8_begin 88 = .ok (.aload_n 0, 1) := by decide +kernel
theorem dX8_begin_89 : decode cX8_begin 89 = .ok (.invokevirtual 158, 3) := by decide +kernel
theorem dX8_begin_92 : decode cX8_begin 92 = .ok (.iconst 3, 1) := by decide +kernel
theorem dX8_begin_93 : decode cX8_begin 93 = .ok (.if_icmp .gt 8, 3) := by decide +kernel
theorem dX8_begin_96 : decode cX8_begin 96 = .ok (.bipush (-22), 2) := by decide +kernel
theorem dX8_begin_98 : decode cX8_begin 98 = .ok (.goto 5, 3) := by decide +kernel
theorem dX8_begin_101 : decode cX8_begin 101 = .ok (.bipush (-25), 2) := by decide +kernel
theorem dX8_begin_103 : decode cX8_begin 103 = .ok (.istore_n 2, 1) := by decide +kernel
theorem dX8_begin_104 : decode cX8_begin 104 = .ok (.iload_n 2, 1) := by decide +kernel
theorem dX8_begin_105 : decode cX8_begin 105 = .ok (.bipush (-25), 2) := by decide +kernel
theorem dX8_begin_107 : decode cX8_begin 107 = .ok (.if_icmp .eq 11, 3) := by decide +kernel
theorem dX8_begin_110 : decode cX8_begin 110 = .ok (.aload_n 0, 1) := by decide +kernel
theorem dX8_begin_111 : decode cX8_begin 111 = .ok (.getfield 165, 3) := by decide +kernel
theorem dX8_begin_114 : decode cX8_begin 114 = .ok (.iconst 5, 1) := by decide +kernel
theorem dX8_begin_115 : decode cX8_begin 115 = .ok (.if_icmp .ne 5, 3) := by decide +kernel
theorem dX8_begin_118 : decode cX8_begin 118 = .ok (.iconst 0, 1) := by decide +kernel
theorem dX8_begin_119 : decode cX8_begin 119 = .ok (.ireturn, 1) := by decide +kernel
theorem dX8_begin_120 : decode cX8_begin 120 = .ok (.aload_n 0, 1) := by decide +kernel
theorem dX8_begin_121 : decode cX8_begin 121 = .ok (.dup, 1) := by decide +kernel
theorem dX8_begin_122 : decode cX8_begin 122 = .ok (.getfield 165, 3) := by decide +kernel
theorem dX8_begin_125 : decode cX8_begin 125 = .ok (.iconst 1, 1) := by decide +kernel
theorem dX8_begin_126 : decode cX8_begin 126 = .ok (.iadd, 1) := by decide +kernel
theorem dX8_begin_127 : decode cX8_begin 127 = .ok (.putfield 165, 3) := by decide +kernel
theorem dX8_begin_130 : decode cX8_begin 130 = .ok (.aload_n 0, 1) := by decide +kernel
theorem dX8_begin_131 : decode cX8_begin 131 = .ok (.iload_n 2, 1) := by decide +kernel
theorem dX8_begin_132 : decode cX8_begin 132 = .ok (.invokevirtual 177, 3) := by decide +kernel
theorem dX8_begin_135 : decode cX8_begin 135 = .ok (.iconst 2, 1) := by decide +kernel
theorem dX8_begin_136 : decode cX8_begin 136 = .ok (.ireturn, 1) := by decide +kernel
theorem dX8_isE_0 : decode cX8_isE 0 = .ok (.aload_n 0, 1) := by decide +kernel
theorem dX8_isE_1 : decode cX8_isE 1 = .ok (.iconst 0, 1) := by decide +kernel
theorem dX8_isE_2 : decode cX8_isE 2 = .ok (.putfield 152, 3) := by decide +kernel
theorem dX8_isE_5 : decode cX8_isE 5 = .ok (.aload_n 0, 1) := by decide +kernel
theorem dX8_isE_6 : decode cX8_isE 6 = .ok (.invokevirtual 180, 3) := by decide +kernel
theorem dX8_isE_9 : decode cX8_isE 9 = .ok (.istore_n 1, 1) := by decide +kernel
theorem dX8_isE_10 : decode cX8_isE 10 = .ok (.iload_n 1, 1) := by decide +kernel
theorem dX8_isE_11 : decode cX8_isE 11 = .ok (.iconst 2, 1) := by decide +kernel
theorem dX8_isE_12 : decode cX8_isE 12 = .ok (.if_icmp .ne 15, 3) := by decide +kernel
theorem dX8_isE_15 : decode cX8_isE 15 = .ok (.aload_n 0, 1) := by decide +kernel
theorem dX8_isE_16 : decode cX8_isE 16 = .ok (.invokevirtual 183, 3) := by decide +kernel
theorem dX8_isE_19 : decode cX8_isE 19 = .ok (.aload_n 0, 1) := by decide +kernel
theorem dX8_isE_20 : decode cX8_isE 20 = .ok (.invokevirtual 180, 3) := by decide +kernel
theorem dX8_isE_23 : decode cX8_isE 23 = .ok (.istore_n 1, 1) := by decide +kernel
theorem dX8_isE_24 : decode cX8_isE 24 = .ok (.goto (-14), 3) := by decide +kernel
theorem dX8_isE_27 : decode cX8_isE 27 = .ok (.iload_n 1, 1) := by decide +kernel
theorem dX8_isE_28 : decode cX8_isE 28 = .ok (.ifCond .ne 5, 3) := by decide +kernel
theorem dX8_isE_31 : decode cX8_isE 31 = .ok (.iconst 0, 1) := by decide +kernel
theorem dX8_isE_32 : decode cX8_isE 32 = .ok (.ireturn, 1) := by decide +kernel
theorem dX8_isE_33 : decode cX8_isE 33 = .ok (.aload_n 0, 1) := by decide +kernel
theorem dX8_isE_34 : decode cX8_isE 34 = .ok (.bipush 7, 2) := by decide +kernel
theorem dX8_isE_36 : decode cX8_isE 36 = .ok (.invokevirtual 186, 3) := by decide +kernel
theorem dX8_isE_39 : decode cX8_isE 39 = .ok (.aload_n 0, 1) := by decide +kernel
theorem dX8_isE_40 : decode cX8_isE 40 = .ok (.invokevirtual 183, 3) := by decide +kernel
theorem dX8_isE_43 : decode cX8_isE 43 = .ok (.aload_n 0, 1) := by decide +kernel
theorem dX8_isE_44 : decode cX8_isE 44 = .ok (.bipush 41, 2) := by decide +kernel
theorem dX8_isE_46 : decode cX8_isE 46 = .ok (.invokevirtual 171, 3) := by decide +kernel
theorem dX8_isE_49 : decode cX8_isE 49 = .ok (.ifCond .eq 50, 3) := by decide +kernel
theorem dX8_isE_52 : decode cX8_isE 52 = .ok (.aload_n 0, 1) := by decide +kernel
theorem dX8_isE_53 : decode cX8_isE 53 = .ok (.iconst 1, 1) := by decide +kernel
theorem dX8_isE_54 : decode cX8_isE 54 = .ok (.invokevirtual 186, 3) := by decide +kernel
theorem dX8_isE_57 : decode cX8_isE 57 = .ok (.aload_n 0, 1) := by decide +kernel
theorem dX8_isE_58 : decode cX8_isE 58 = .ok (.getfield 152, 3) := by decide +kernel
theorem dX8_isE_61 : decode cX8_isE 61 = .ok (.ifCond .ne 5, 3) := by decide +kernel
theorem dX8_isE_64 : decode cX8_isE 64 = .ok (.iconst 0, 1) := by decide +kernel
theorem dX8_isE_65 : decode cX8_isE 65 = .ok (.ireturn, 1) := by decide +kernel
theorem dX8_isE_66 : decode cX8_isE 66 = .ok (.aload_n 0, 1) := by decide +kernel
theorem dX8_isE_67 : decode cX8_isE 67 = .ok (.dup, 1) := by decide +kernel
theorem dX8_isE_68 : decode cX8_isE 68 = .ok (.getfield 152, 3) := by decide +kernel
theorem dX8_isE_71 : decode cX8_isE 71 = .ok (.iconst 1, 1) := by decide +kernel
theorem dX8_isE_72 : decode cX8_isE 72 = .ok (.isub, 1) := by decide +kernel
theorem dX8_isE_73 : decode cX8_isE 73 = .ok (.putfield 152, 3) := by decide +kernel
theorem dX8_isE_76 : decode cX8_isE 76 = .ok (.aload_n 0, 1) := by decide +kernel
theorem dX8_isE_77 : decode cX8_isE 77 = .ok (.dup, 1) := by decide +kernel
theorem dX8_isE_78 : decode cX8_isE 78 = .ok (.getfield 165, 3) := by decide +kernel
theorem dX8_isE_81 : decode cX8_isE 81 = .ok (.iconst 1, 1) := by decide +kernel
theorem dX8_isE_82 : decode cX8_isE 82 = .ok (.isub, 1) := by decide +kernel
theorem dX8_isE_83 : decode cX8_isE 83 = .ok (.putfield 165, 3) := by decide +kernel
theorem dX8_isE_86 : decode cX8_isE 86 = .ok (.aload_n 0, 1) := by decide +kernel
theorem dX8_isE_87 : decode cX8_isE 87 = .ok (.bipush 7, 2) := by decide +kernel
theorem dX8_isE_89 : decode cX8_isE 89 = .ok (.invokevirtual 186, 3) := by decide +kernel
theorem dX8_isE_92 : decode cX8_isE 92 = .ok (.aload_n 0, 1) := by decide +kernel
theorem dX8_isE_93 : decode cX8_isE 93 = .ok (.invokevirtual 183, 3) := by decide +kernel
theorem dX8_isE_96 : decode cX8_isE 96 = .ok (.goto (-53), 3) := by decide +kernel
theorem dX8_isE_99 : decode cX8_isE 99 = .ok (.aload_n 0, 1) := by decide +kernel
theorem dX8_isE_100 : decode cX8_isE 100 = .ok (.invokevirtual 189, 3) := by decide +kernel
