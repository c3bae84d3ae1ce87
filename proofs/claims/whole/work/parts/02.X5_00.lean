theorem dX5_init_0 : decode cX5_init 0 = .ok (.aload_n 0, 1) := by decide +kernel
theorem dX5_init_1 : decode cX5_init 1 = .ok (.invokespecial 3, 3) := by decide +kernel
theorem dX5_init_4 : decode cX5_init 4 = .ok (.aload_n 0, 1) := by decide +kernel
theorem dX5_init_5 : decode cX5_init 5 = .ok (.sipush 160, 3) := by decide +kernel
theorem dX5_init_8 : decode cX5_init 8 = .ok (.newarray .int, 2) := by decide +kernel
theorem dX5_init_10 : decode cX5_init 10 = .ok (.putfield 9, 3) := by decide +kernel
theorem dX5_init_13 : decode cX5_init 13 = .ok (.aload_n 0, 1) := by decide +kernel
theorem dX5_init_14 : decode cX5_init 14 = .ok (.iconst 3, 1) := by decide +kernel
theorem dX5_init_15 : decode cX5_init 15 = .ok (.newarray .int, 2) := by decide +kernel
theorem dX5_init_17 : decode cX5_init 17 = .ok (.putfield 15, 3) := by decide +kernel
theorem dX5_init_20 : decode cX5_init 20 = .ok (.return_, 1) := by decide +kernel
theorem dX5_clear_0 : decode cX5_clear 0 = .ok (.aload_n 0, 1) := by decide +kernel
theorem dX5_clear_1 : decode cX5_clear 1 = .ok (.iconst 0, 1) := by decide +kernel
theorem dX5_clear_2 : decode cX5_clear 2 = .ok (.putfield 18, 3) := by decide +kernel
theorem dX5_clear_5 : decode cX5_clear 5 = .ok (.return_, 1) := by decide +kernel
theorem dX5_addNumber_0 : decode cX5_addNumber 0 = .ok (.aload_n 0, 1) := by decide +kernel
theorem dX5_addNumber_1 : decode cX5_addNumber 1 = .ok (.getfield 18, 3) := by decide +kernel
theorem dX5_addNumber_4 : decode cX5_addNumber 4 = .ok (.sipush 160, 3) := by decide +kernel
theorem dX5_addNumber_7 : decode cX5_addNumber 7 = .ok (.if_icmp .ge 23, 3) := by decide +kernel
theorem dX5_addNumber_10 : decode cX5_addNumber 10 = .ok (.aload_n 0, 1) := by decide +kernel
theorem dX5_addNumber_11 : decode cX5_addNumber 11 = .ok (.getfield 9, 3) := by decide +kernel
theorem dX5_addNumber_14 : decode cX5_addNumber 14 = .ok (.aload_n 0, 1) := by decide +kernel
theorem dX5_addNumber_15 : decode cX5_addNumber 15 = .ok (.getfield 18, 3) := by decide +kernel
theorem dX5_addNumber_18 : decode cX5_addNumber 18 = .ok (.iload_n 1, 1) := by decide +kernel
theorem dX5_addNumber_19 : decode cX5_addNumber 19 = .ok (.iastore, 1) := by decide +kernel
theorem dX5_addNumber_20 : decode cX5_addNumber 20 = .ok (.aload_n 0, 1) := by decide +kernel
theorem dX5_addNumber_21 : decode cX5_addNumber 21 = .ok (.dup, 1) := by decide +kernel
theorem dX5_addNumber_22 : decode cX5_addNumber 22 = .ok (.getfield 18, 3) := by decide +kernel
theorem dX5_addNumber_25 : decode cX5_addNumber 25 = .ok (.iconst 1, 1) := by decide +kernel
theorem dX5_addNumber_26 : decode cX5_addNumber 26 = .ok (.iadd, 1) := by decide +kernel
theorem dX5_addNumber_27 : decode cX5_addNumber 27 = .ok (.putfield 18, 3) := by decide +kernel
theorem dX5_addNumber_30 : decode cX5_addNumber 30 = .ok (.return_, 1) := by decide +kernel
theorem dX5_addStep_0 : decode cX5_addStep 0 = .ok (.aload_n 0, 1) := by decide +kernel
theorem dX5_addStep_1 : decode cX5_addStep 1 = .ok (.iload_n 1, 1) := by decide +kernel
theorem dX5_addStep_2 : decode cX5_addStep 2 = .ok (.iconst (-1), 1) := by decide +kernel
theorem dX5_addStep_3 : decode cX5_addStep 3 = .ok (.ixor, 1) := by decide +kernel
theorem dX5_addStep_4 : decode cX5_addStep 4 = .ok (.invokevirtual 22, 3) := by decide +kernel
theorem dX5_addStep_7 : decode cX5_addStep 7 = .ok (.return_, 1) := by decide +kernel
theorem dX5_endPart_0 : decode cX5_endPart 0 = .ok (.iload_n 1, 1) := by decide +kernel
theorem dX5_endPart_1 : decode cX5_endPart 1 = .ok (.ifCond .lt 18, 3) := by decide +kernel
theorem dX5_endPart_4 : decode cX5_endPart 4 = .ok (.iload_n 1, 1) := by decide +kernel
theorem dX5_endPart_5 : decode cX5_endPart 5 = .ok (.iconst 3, 1) := by decide +kernel
theorem dX5_endPart_6 : decode cX5_endPart 6 = .ok (.if_icmp .ge 13, 3) := by decide +kernel
theorem dX5_endPart_9 : decode cX5_endPart 9 = .ok (.aload_n 0, 1) := by decide +kernel
theorem dX5_endPart_10 : decode cX5_endPart 10 = .ok (.getfield 15, 3) := by decide +kernel
theorem dX5_endPart_13 : decode cX5_endPart 13 = .ok (.iload_n 1, 1) := by decide +kernel
theorem dX5_endPart_14 : decode cX5_endPart 14 = .ok (.aload_n 0, 1) := by decide +kernel
theorem dX5_endPart_15 : decode cX5_endPart 15 = .ok (.getfield 18, 3) := by decide +kernel
theorem dX5_endPart_18 : decode cX5_endPart 18 = .ok (.iastore, 1) := by decide +kernel
theorem dX5_endPart_19 : decode cX5_endPart 19 = .ok (.return_, 1) := by decide +kernel
theorem dX5_hasTired_0 : decode cX5_hasTired 0 = .ok (.aload_n 0, 1) := by decide +kernel
theorem dX5_hasTired_1 : decode cX5_hasTired 1 = .ok (.iload_n 1, 1) := by decide +kernel
theorem dX5_hasTired_2 : decode cX5_hasTired 2 = .ok (.invokevirtual 26, 3) := by decide +kernel
theorem dX5_hasTired_5 : decode cX5_hasTired 5 = .ok (.istore_n 2, 1) := by decide +kernel
theorem dX5_hasTired_6 : decode cX5_hasTired 6 = .ok (.iload_n 2, 1) := by decide +kernel
theorem dX5_hasTired_7 : decode cX5_hasTired 7 = .ok (.aload_n 0, 1) := by decide +kernel
theorem dX5_hasTired_8 : decode cX5_hasTired 8 = .ok (.iload_n 1, 1) := by decide +kernel
theorem dX5_hasTired_9 : decode cX5_hasTired 9 = .ok (.invokevirtual 30, 3) := by decide +kernel
theorem dX5_hasTired_12 : decode cX5_hasTired 12 = .ok (.if_icmp .ge 22, 3) := by decide +kernel
theorem dX5_hasTired_15 : decode cX5_hasTired 15 = .ok (.aload_n 0, 1) := by decide +kernel
theorem dX5_hasTired_16 : decode cX5_hasTired 16 = .ok (.getfield 9, 3) := by decide +kernel
theorem dX5_hasTired_19 : decode cX5_hasTired 19 = .ok (.iload_n 2, 1) := by decide +kernel
theorem dX5_hasTired_20 : decode cX5_hasTired 20 = .ok (.iaload, 1) := by decide +kernel
theorem dX5_hasTired_21 : decode cX5_hasTired 21 = .ok (.bipush (-5), 2) := by decide +kernel
theorem dX5_hasTired_23 : decode cX5_hasTired 23 = .ok (.if_icmp .ne 5, 3) := by decide +kernel
theorem dX5_hasTired_26 : decode cX5_hasTired 26 = .ok (.iconst 1, 1) := by decide +kernel
theorem dX5_hasTired_27 : decode cX5_hasTired 27 = .ok (.ireturn, 1) := by decide +kernel
theorem dX5_hasTired_28 : decode cX5_hasTired 28 = .ok (.iinc 2 1, 3) := by decide +kernel
theorem dX5_hasTired_31 : decode cX5_hasTired 31 = .ok (.goto (-25), 3) := by decide +kernel
theorem dX5_hasTired_34 : decode cX5_hasTired 34 = .ok (.iconst 0, 1) := by decide +kernel
theorem dX5_hasTired_35 : decode cX5_hasTired 35 = .ok (.ireturn, 1) := by decide +kernel
theorem dX5_begin_0 : decode cX5_begin 0 = .ok (.iload_n 1, 1) := by decide +kernel
theorem dX5_begin_1 : decode cX5_begin 1 = .ok (.ifCond .le 19, 3) := by decide +kernel
theorem dX5_begin_4 : decode cX5_begin 4 = .ok (.iload_n 1, 1) := by decide +kernel
theorem dX5_begin_5 : decode cX5_begin 5 = .ok (.iconst 3, 1) := by decide +kernel
theorem dX5_begin_6 : decode cX5_begin 6 = .ok (.if_icmp .ge 14, 3) := by decide +kernel
theorem dX5_begin_9 : decode cX5_begin 9 = .ok (.aload_n 0, 1) := by decide +kernel
theorem dX5_begin_10 : decode cX5_begin 10 = .ok (.getfield 15, 3) := by decide +kernel
theorem dX5_begin_13 : decode cX5_begin 13 = .ok (.iload_n 1, 1) := by decide +kernel
theorem dX5_begin_14 : decode cX5_begin 14 = .ok (.iconst 1, 1) := by decide +kernel
theorem dX5_begin_15 : decode cX5_begin 15 = .ok (.isub, 1) := by decide +kernel
theorem dX5_begin_16 : decode cX5_begin 16 = .ok (.iaload, 1) := by decide +kernel
theorem dX5_begin_17 : decode cX5_begin 17 = .ok (.goto 4, 3) := by decide +kernel
theorem dX5_begin_20 : decode cX5_begin 20 = .ok (.iconst 0, 1) := by decide +kernel
theorem dX5_begin_21 : decode cX5_begin 21 = .ok (.ireturn, 1) := by decide +kernel
theorem dX5_end_0 : decode cX5_end 0 = .ok (.iload_n 1, 1) := by decide +kernel
theorem dX5_end_1 : decode cX5_end 1 = .ok (.ifCond .lt 17, 3) := by decide +kernel
theorem dX5_end_4 : decode cX5_end 4 = .ok (.iload_n 1, 1) := by decide +kernel
theorem dX5_end_5 : decode cX5_end 5 = .ok (.iconst 3, 1) := by decide +kernel
theorem dX5_end_6 : decode cX5_end 6 = .ok (.if_icmp .ge 12, 3) := by decide +kernel
theorem dX5_end_9 : decode cX5_end 9 = .ok (.aload_n 0, 1) := by decide +kernel
theorem dX5_end_10 : decode cX5_end 10 = .ok (.getfield 15, 3) := by decide +kernel
theorem dX5_end_13 : decode cX5_end 13 = .ok (.iload_n 1, 1) := by decide +kernel
theorem dX5_end_14 : decode cX5_end 14 = .ok (.iaload, 1) := by decide +kernel
theorem dX5_end_15 : decode cX5_end 15 = .ok (.goto 4, 3) := by decide +kernel
theorem dX5_end_18 : decode cX5_end 18 = .ok (.iconst 0, 1) := by decide +kernel
theorem dX5_end_19 : decode cX5_end 19 = .ok (.ireturn, 1) := by decide +kernel
theorem dX5_value_0 : decode cX5_value 0 = .ok (.iconst 0, 1) := by decide +kernel
theorem dX5_value_1 : decode cX5_value 1 = .ok (.istore 4, 2) := by decide +kernel
theorem dX5_value_3 : decode cX5_value 3 = .ok (.aload_n 0, 1) := by decide +kernel
theorem dX5_value_4 : decode cX5_value 4 = .ok (.iload_n 1, 1) := by decide +kernel
theorem dX5_value_5 : decode cX5_value 5 = .ok (.invokevirtual 30, 3) := by decide +kernel
theorem dX5_value_8 : decode cX5_value 8 = .ok (.istore 5, 2) := by decide +kernel
theorem dX5_value_10 : decode cX5_value 10 = .ok (.aload_n 0, 1) := by decide +kernel
theorem dX5_value_11 : decode cX5_value 11 = .ok (.iload_n 1, 1) := by decide +kernel
theorem dX5_value_12 : decode cX5_value 12 = .ok (.invokevirtual 26, 3) := by decide +kernel
theorem dX5_value_15 : decode cX5_value 15 = .ok (.istore 6, 2) := by decide +kernel
theorem dX5_value_17 : decode cX5_value 17 = .ok (.iload 6, 2) := by decide +kernel
theorem dX5_value_19 : decode cX5_value 19 = .ok (.iload 5, 2) := by decide +kernel
theorem dX5_value_21 : decode cX5_value 21 = .ok (.if_icmp .ge 155, 3) := by decide +kernel
theorem dX5_value_24 : decode cX5_value 24 = .ok (.aload_n 0, 1) := by decide +kernel
theorem dX5_value_25 : decode cX5_value 25 = .ok (.getfield 9, 3) := by decide +kernel
theorem dX5_value_28 : decode cX5_value 28 = .ok (.iload 6, 2) := by decide +kernel
theorem dX5_value_30 : decode cX5_value 30 = .ok (.iaload, 1) := by decide +kernel
theorem dX5_value_31 : decode cX5_value 31 = .ok (.istore 7, 2) := by decide +kernel
theorem dX5_value_33 : decode cX5_value 33 = .ok (.iload 7, 2) := by decide +kernel
theorem dX5_value_35 : decode cX5_value 35 = .ok (.bipush (-6), 2) := by decide +kernel
theorem dX5_value_37 : decode cX5_value 37 = .ok (.if_icmp .lt 36, 3) := by decide +kernel
theorem dX5_value_40 : decode cX5_value 40 = .ok (.iload 4, 2) := by decide +kernel
theorem dX5_value_42 : decode cX5_value 42 = .ok (.aload_n 3, 1) := by decide +kernel
theorem dX5_value_43 : decode cX5_value 43 = .ok (.arraylength, 1) := by decide +kernel
theorem dX5_value_44 : decode cX5_value 44 = .ok (.if_icmp .ge 126, 3) := by decide +kernel
theorem dX5_value_47 : decode cX5_value 47 = .ok (.aload_n 3, 1) := by decide +kernel
theorem dX5_value_48 : decode cX5_value 48 = .ok (.iload 4, 2) := by decide +kernel
theorem dX5_value_50 : decode cX5_value 50 = .ok (.iload 7, 2) := by decide +kernel
theorem dX5_value_52 : decode cX5_value 52 = .ok (.ifCond .lt 8, 3) := by decide +kernel
theorem dX5_value_55 : decode cX5_value 55 = .ok (.iload 7, 2) := by decide +kernel
theorem dX5_value_57 : decode cX5_value 57 = .ok (.goto 9, 3) := by decide +kernel
theorem dX5_value_60 : decode cX5_value 60 = .ok (.aload_n 2, 1) := by decide +kernel
theorem dX5_value_61 : decode cX5_value 61 = .ok (.iload 7, 2) := by decide +kernel
theorem dX5_value_63 : decode cX5_value 63 = .ok (.iconst (-1), 1) := by decide +kernel
theorem dX5_value_64 : decode cX5_value 64 = .ok (.ixor, 1) := by decide +kernel
theorem dX5_value_65 : decode cX5_value 65 = .ok (.iaload, 1) := by decide +kernel
theorem dX5_value_66 : decode cX5_value 66 = .ok (.iastore, 1) := by decide +kernel
theorem dX5_value_67 : decode cX5_value 67 = .ok (.iinc 4 1, 3) := by decide +kernel
theorem dX5_value_70 : decode cX5_value 70 = .ok (.goto 100, 3) := by decide +kernel
theorem dX5_value_73 : decode cX5_value 73 = .ok (.iload 7, 2) := by decide +kernel
theorem dX5_value_75 : decode cX5_value 75 = .ok (.iconst (-1), 1) := by decide +kernel
theorem dX5_value_76 : decode cX5_value 76 = .ok (.ixor, 1) := by decide +kernel
theorem dX5_value_77 : decode cX5_value 77 = .ok (.bipush 11, 2) := by decide +kernel
theorem dX5_value_79 : decode cX5_value 79 = .ok (.if_icmp .eq 12, 3) := by decide +kernel
theorem dX5_value_82 : decode cX5_value 82 = .ok (.iload 7, 2) := by decide +kernel
theorem dX5_value_84 : decode cX5_value 84 = .ok (.iconst (-1), 1) := by decide +kernel
theorem dX5_value_85 : decode cX5_value 85 = .ok (.ixor, 1) := by decide +kernel
theorem dX5_value_86 : decode cX5_value 86 = .ok (.bipush 20, 2) := by decide +kernel
theorem dX5_value_88 : decode cX5_value 88 = .ok (.if_icmp .ne 50, 3) := by decide +kernel
theorem dX5_value_91 : decode cX5_value 91 = .ok (.iload 4, 2) := by decide +kernel
theorem dX5_value_93 : decode cX5_value 93 = .ok (.ifCond .le 77, 3) := by decide +kernel
theorem dX5_value_96 : decode cX5_value 96 = .ok (.aload_n 3, 1) := by decide +kernel
theorem dX5_value_97 : decode cX5_value 97 = .ok (.iload 4, 2) := by decide +kernel
theorem dX5_value_99 : decode cX5_value 99 = .ok (.iconst 1, 1) := by decide +kernel
theorem dX5_value_100 : decode cX5_value 100 = .ok (.isub, 1) := by decide +kernel
theorem dX5_value_101 : decode cX5_value 101 = .ok (.iload 7, 2) := by decide +kernel
theorem dX5_value_103 : decode cX5_value 103 = .ok (.iconst (-1), 1) := by decide +kernel
theorem dX5_value_104 : decode cX5_value 104 = .ok (.ixor, 1) := by decide +kernel
theorem dX5_value_105 : decode cX5_value 105 = .ok (.bipush 20, 2) := by decide +kernel
theorem dX5_value_107 : decode cX5_value 107 = .ok (.if_icmp .ne 13, 3) := by decide +kernel
theorem dX5_value_110 : decode cX5_value 110 = .ok (.aload_n 3, 1) := by decide +kernel
theorem dX5_value_111 : decode cX5_value 111 = .ok (.iload 4, 2) := by decide +kernel
theorem dX5_value_113 : decode cX5_value 113 = .ok (.iconst 1, 1) := by decide +kernel
theorem dX5_value_114 : decode cX5_value 114 = .ok (.isub, 1) := by decide +kernel
theorem dX5_value_115 : decode cX5_value 115 = .ok (.iaload, 1) := by decide +kernel
theorem dX5_value_116 : decode cX5_value 116 = .ok (.ineg, 1) := by decide +kernel
theorem dX5_value_117 : decode cX5_value 117 = .ok (.goto 17, 3) := by decide +kernel
theorem dX5_value_120 : decode cX5_value 120 = .ok (.aload_n 3, 1) := by decide +kernel
theorem dX5_value_121 : decode cX5_value 121 = .ok (.iload 4, 2) := by decide +kernel
theorem dX5_value_123 : decode cX5_value 123 = .ok (.iconst 1, 1) := by decide +kernel
theorem dX5_value_124 : decode cX5_value 124 = .ok (.isub, 1) := by decide +kernel
theorem dX5_value_125 : decode cX5_value 125 = .ok (.iaload, 1) := by decide +kernel
theorem dX5_value_126 : decode cX5_value 126 = .ok (.ifCond .ne 7, 3) := by decide +kernel
theorem dX5_value_129 : decode cX5_value 129 = .ok (.iconst 1, 1) := by decide +kernel
theorem dX5_value_130 : decode cX5_value 130 = .ok (.goto 4, 3) := by decide +kernel
theorem dX5_value_133 : decode cX5_value 133 = .ok (.iconst 0, 1) := by decide +kernel
theorem dX5_value_134 : decode cX5_value 134 = .ok (.iastore, 1) := by decide +kernel
theorem dX5_value_135 : decode cX5_value 135 = .ok (.goto 35, 3) := by decide +kernel
theorem dX5_value_138 : decode cX5_value 138 = .ok (.iload 4, 2) := by decide +kernel
theorem dX5_value_140 : decode cX5_value 140 = .ok (.iconst 1, 1) := by decide +kernel
theorem dX5_value_141 : decode cX5_value 141 = .ok (.if_icmp .le 29, 3) := by decide +kernel
theorem dX5_value_144 : decode cX5_value 144 = .ok (.iinc 4 (-1), 3) := by decide +kernel
theorem dX5_value_147 : decode cX5_value 147 = .ok (.aload_n 3, 1) := by decide +kernel
theorem dX5_value_148 : decode cX5_value 148 = .ok (.iload 4, 2) := by decide +kernel
theorem dX5_value_150 : decode cX5_value 150 = .ok (.iconst 1, 1) := by decide +kernel
theorem dX5_value_151 : decode cX5_value 151 = .ok (.isub, 1) := by decide +kernel
theorem dX5_value_152 : decode cX5_value 152 = .ok (.iload 7, 2) := by decide +kernel
theorem dX5_value_154 : decode cX5_value 154 = .ok (.iconst (-1), 1) := by decide +kernel
theorem dX5_value_155 : decode cX5_value 155 = .ok (.ixor, 1) := by decide +kernel
theorem dX5_value_156 : decode cX5_value 156 = .ok (.aload_n 3, 1) := by decide +kernel
theorem dX5_value_157 : decode cX5_value 157 = .ok (.iload 4, 2) := by decide +kernel
theorem dX5_value_159 : decode cX5_value 159 = .ok (.iconst 1, 1) := by decide +kernel
theorem dX5_value_160 : decode cX5_value 160 = .ok (.isub, 1) := by decide +kernel
theorem dX5_value_161 : decode cX5_value 161 = .ok (.iaload, 1) := by decide +kernel
theorem dX5_value_162 : decode cX5_value 162 = .ok (.aload_n 3, 1) := by decide +kernel
theorem dX5_value_163 : decode cX5_value 163 = .ok (.iload 4, 2) := by decide +kernel
theorem dX5_value_165 : decode cX5_value 165 = .ok (.iaload, 1) := by decide +kernel
theorem dX5_value_166 : decode cX5_value 166 = .ok (.invokestatic 33, 3) := by decide +kernel
theorem dX5_value_169 : decode cX5_value 169 = .ok (.iastore, 1) := by decide +kernel
theorem dX5_value_170 : decode cX5_value 170 = .ok (.iinc 6 1, 3) := by decide +kernel
theorem dX5_value_173 : decode cX5_value 173 = .ok (.goto (-156), 3) := by decide +kernel
theorem dX5_value_176 : decode cX5_value 176 = .ok (.iload 4, 2) := by decide +kernel
theorem dX5_value_178 : decode cX5_value 178 = .ok (.ifCond .le 12, 3) := by decide +kernel
theorem dX5_value_181 : decode cX5_value 181 = .ok (.aload_n 3, 1) := by decide +kernel
theorem dX5_value_182 : decode cX5_value 182 = .ok (.iload 4, 2) := by decide +kernel
theorem dX5_value_184 : decode cX5_value 184 = .ok (.iconst 1, 1) := by decide +kernel
theorem dX5_value_185 : decode cX5_value 185 = .ok (.isub, 1) := by decide +kernel
theorem dX5_value_186 : decode cX5_value 186 = .ok (.iaload, 1) := by decide +kernel
theorem dX5_value_187 : decode cX5_value 187 = .ok (.goto 4, 3) := by decide +kernel
theorem dX5_value_190 : decode cX5_value 190 = .ok (.iconst 0, 1) := by decide +kernel
theorem dX5_value_191 : decode cX5_value 191 = .ok (.ireturn, 1) := by decide +kernel
theorem dX5_join_0 : decode cX5_join 0 = .ok (.iload_n 0, 1) := by decide +kernel
theorem dX5_join_1 : decode cX5_join 1 = .ok (.lookupswitch 117 #[(9, 59), (10, 73), (43, 109), (45, 113), (60, 87), (61, 98)], 59) := by decide +kernel
theorem dX5_join_60 : decode cX5_join 60 = .ok (.iload_n 1, 1) := by decide +kernel
theorem dX5_join_61 : decode cX5_join 61 = .ok (.ifCond .ne 7, 3) := by decide +kernel
theorem dX5_join_64 : decode cX5_join 64 = .ok (.iload_n 2, 1) := by decide +kernel
theorem dX5_join_65 : decode cX5_join 65 = .ok (.ifCond .eq 7, 3) := by decide +kernel
theorem dX5_join_68 : decode cX5_join 68 = .ok (.iconst 1, 1) := by decide +kernel
theorem dX5_join_69 : decode cX5_join 69 = .ok (.goto 4, 3) := by decide +kernel
theorem dX5_join_72 : decode cX5_join 72 = .ok (.iconst 0, 1) := by decide +kernel
theorem dX5_join_73 : decode cX5_join 73 = .ok (.ireturn, 1) := by decide +kernel
theorem dX5_join_74 : decode cX5_join 74 = .ok (.iload_n 1, 1) := by decide +kernel
theorem dX5_join_75 : decode cX5_join 75 = .ok (.ifCond .eq 11, 3) := by decide +kernel
theorem dX5_join_78 : decode cX5_join 78 = .ok (.iload_n 2, 1) := by decide +kernel
theorem dX5_join_79 : decode cX5_join 79 = .ok (.ifCond .eq 7, 3) := by decide +kernel
theorem dX5_join_82 : decode cX5_join 82 = .ok (.iconst 1, 1) := by decide +kernel
theorem dX5_join_83 : decode cX5_join 83 = .ok (.goto 4, 3) := by decide +kernel
theorem dX5_join_86 : decode cX5_join 86 = .ok (.iconst 0, 1) := by decide +kernel
theorem dX5_join_87 : decode cX5_join 87 = .ok (.ireturn, 1) := by decide +kernel
theorem dX5_join_88 : decode cX5_join 88 = .ok (.iload_n 1, 1) := by decide +kernel
theorem dX5_join_89 : decode cX5_join 89 = .ok (.iload_n 2, 1) := by decide +kernel
theorem dX5_join_90 : decode cX5_join 90 = .ok (.if_icmp .ge 7, 3) := by decide +kernel
theorem dX5_join_93 : decode cX5_join 93 = .ok (.iconst 1, 1) := by decide +kernel
theorem dX5_join_94 : decode cX5_join 94 = .ok (.goto 4, 3) := by decide +kernel
theorem dX5_join_97 : decode cX5_join 97 = .ok (.iconst 0, 1) := by decide +kernel
theorem dX5_join_98 : decode cX5_join 98 = .ok (.ireturn, 1) := by decide +kernel
theorem dX5_join_99 : decode cX5_join 99 = .ok (.iload_n 1, 1) := by decide +kernel
theorem dX5_join_100 : decode cX5_join 100 = .ok (.iload_n 2, 1) := by decide +kernel
theorem dX5_join_101 : decode cX5_join 101 = .ok (.if_icmp .ne 7, 3) := by decide +kernel
theorem dX5_join_104 : decode cX5_join 104 = .ok (.iconst 1, 1) := by decide +kernel
theorem dX5_join_105 : decode cX5_join 105 = .ok (.goto 4, 3) := by decide +kernel
theorem dX5_join_108 : decode cX5_join 108 = .ok (.iconst 0, 1) := by decide +kernel
theorem dX5_join_109 : decode cX5_join 109 = .ok (.ireturn, 1) := by decide +kernel
theorem dX5_join_110 : decode cX5_join 110 = .ok (.iload_n 1, 1) := by decide +kernel
theorem dX5_join_111 : decode cX5_join 111 = .ok (.iload_n 2, 1) := by decide +kernel
theorem dX5_join_112 : decode cX5_join 112 = .ok (.iadd, 1) := by decide +kernel
theorem dX5_join_113 : decode cX5_join 113 = .ok (.ireturn, 1) := by decide +kernel
theorem dX5_join_114 : decode cX5_join 114 = .ok (.iload_n 1, 1) := by decide +kernel
theorem dX5_join_115 : decode cX5_join 115 = .ok (.iload_n 2, 1) := by decide +kernel
theorem dX5_join_116 : decode cX5_join 116 = .ok (.isub, 1) := by decide +kernel
theorem dX5_join_117 : decode cX5_join 117 = .ok (.ireturn, 1) := by decide +kernel
theorem dX5_join_118 : decode cX5_join 118 = .ok (.iload_n 1, 1) := by decide +kernel
theorem dX5_join_119 : decode cX5_join 119 = .ok (.iload_n 2, 1) := by decide +kernel
theorem dX5_join_120 : decode cX5_join 120 = .ok (.imul, 1) := by decide +kernel
theorem dX5_join_121 : decode cX5_join 121 = .ok (.ireturn, 1) := by decide +kernel
