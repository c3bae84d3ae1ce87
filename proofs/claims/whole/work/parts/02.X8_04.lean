theorem dX8_copy_23 : decode cX8_copy 23 = .ok (.iconst (-1), 1) := by decide +kernel
theorem dX8_copy_24 : decode cX8_copy 24 = .ok (.if_icmp .eq 13, 3) := by decide +kernel
theorem dX8_copy_27 : decode cX8_copy 27 = .ok (.aload_n 0, 1) := by decide +kernel
theorem dX8_copy_28 : decode cX8_copy 28 = .ok (.getfield 61, 3) := by decide +kernel
theorem dX8_copy_31 : decode cX8_copy 31 = .ok (.iload_n 3, 1) := by decide +kernel
theorem dX8_copy_32 : decode cX8_copy 32 = .ok (.iaload, 1) := by decide +kernel
theorem dX8_copy_33 : decode cX8_copy 33 = .ok (.iconst (-1), 1) := by decide +kernel
theorem dX8_copy_34 : decode cX8_copy 34 = .ok (.if_icmp .ne 6, 3) := by decide +kernel
theorem dX8_copy_37 : decode cX8_copy 37 = .ok (.bipush (-11), 2) := by decide +kernel
theorem dX8_copy_39 : decode cX8_copy 39 = .ok (.ireturn, 1) := by decide +kernel
theorem dX8_copy_40 : decode cX8_copy 40 = .ok (.aload_n 0, 1) := by decide +kernel
theorem dX8_copy_41 : decode cX8_copy 41 = .ok (.getfield 61, 3) := by decide +kernel
theorem dX8_copy_44 : decode cX8_copy 44 = .ok (.iload_n 1, 1) := by decide +kernel
theorem dX8_copy_45 : decode cX8_copy 45 = .ok (.iaload, 1) := by decide +kernel
theorem dX8_copy_46 : decode cX8_copy 46 = .ok (.aload_n 0, 1) := by decide +kernel
theorem dX8_copy_47 : decode cX8_copy 47 = .ok (.getfield 61, 3) := by decide +kernel
theorem dX8_copy_50 : decode cX8_copy 50 = .ok (.iload_n 3, 1) := by decide +kernel
theorem dX8_copy_51 : decode cX8_copy 51 = .ok (.iaload, 1) := by decide +kernel
theorem dX8_copy_52 : decode cX8_copy 52 = .ok (.if_icmp .eq 6, 3) := by decide +kernel
theorem dX8_copy_55 : decode cX8_copy 55 = .ok (.bipush (-13), 2) := by decide +kernel
theorem dX8_copy_57 : decode cX8_copy 57 = .ok (.ireturn, 1) := by decide +kernel
theorem dX8_copy_58 : decode cX8_copy 58 = .ok (.iload 5, 2) := by decide +kernel
theorem dX8_copy_60 : decode cX8_copy 60 = .ok (.ifCond .lt 39, 3) := by decide +kernel
theorem dX8_copy_63 : decode cX8_copy 63 = .ok (.iload_n 2, 1) := by decide +kernel
theorem dX8_copy_64 : decode cX8_copy 64 = .ok (.ifCond .lt 35, 3) := by decide +kernel
theorem dX8_copy_67 : decode cX8_copy 67 = .ok (.iload 4, 2) := by decide +kernel
theorem dX8_copy_69 : decode cX8_copy 69 = .ok (.ifCond .lt 30, 3) := by decide +kernel
theorem dX8_copy_72 : decode cX8_copy 72 = .ok (.iload 5, 2) := by decide +kernel
theorem dX8_copy_74 : decode cX8_copy 74 = .ok (.aload_n 0, 1) := by decide +kernel
theorem dX8_copy_75 : decode cX8_copy 75 = .ok (.getfield 64, 3) := by decide +kernel
theorem dX8_copy_78 : decode cX8_copy 78 = .ok (.iload_n 1, 1) := by decide +kernel
theorem dX8_copy_79 : decode cX8_copy 79 = .ok (.iaload, 1) := by decide +kernel
theorem dX8_copy_80 : decode cX8_copy 80 = .ok (.iload_n 2, 1) := by decide +kernel
theorem dX8_copy_81 : decode cX8_copy 81 = .ok (.isub, 1) := by decide +kernel
theorem dX8_copy_82 : decode cX8_copy 82 = .ok (.if_icmp .gt 17, 3) := by decide +kernel
theorem dX8_copy_85 : decode cX8_copy 85 = .ok (.iload 5, 2) := by decide +kernel
theorem dX8_copy_87 : decode cX8_copy 87 = .ok (.aload_n 0, 1) := by decide +kernel
theorem dX8_copy_88 : decode cX8_copy 88 = .ok (.getfield 64, 3) := by decide +kernel
theorem dX8_copy_91 : decode cX8_copy 91 = .ok (.iload_n 3, 1) := by decide +kernel
theorem dX8_copy_92 : decode cX8_copy 92 = .ok (.iaload, 1) := by decide +kernel
theorem dX8_copy_93 : decode cX8_copy 93 = .ok (.iload 4, 2) := by decide +kernel
theorem dX8_copy_95 : decode cX8_copy 95 = .ok (.isub, 1) := by decide +kernel
theorem dX8_copy_96 : decode cX8_copy 96 = .ok (.if_icmp .le 6, 3) := by decide +kernel
theorem dX8_copy_99 : decode cX8_copy 99 = .ok (.bipush (-12), 2) := by decide +kernel
theorem dX8_copy_101 : decode cX8_copy 101 = .ok (.ireturn, 1) := by decide +kernel
theorem dX8_copy_102 : decode cX8_copy 102 = .ok (.iconst 0, 1) := by decide +kernel
theorem dX8_copy_103 : decode cX8_copy 103 = .ok (.istore 6, 2) := by decide +kernel
theorem dX8_copy_105 : decode cX8_copy 105 = .ok (.iload 6, 2) := by decide +kernel
theorem dX8_copy_107 : decode cX8_copy 107 = .ok (.iload 5, 2) := by decide +kernel
theorem dX8_copy_109 : decode cX8_copy 109 = .ok (.if_icmp .ge 30, 3) := by decide +kernel
theorem dX8_copy_112 : decode cX8_copy 112 = .ok (.aload_n 0, 1) := by decide +kernel
theorem dX8_copy_113 : decode cX8_copy 113 = .ok (.getfield 70, 3) := by decide +kernel
theorem dX8_copy_116 : decode cX8_copy 116 = .ok (.iload 6, 2) := by decide +kernel
theorem dX8_copy_118 : decode cX8_copy 118 = .ok (.aload_n 0, 1) := by decide +kernel
theorem dX8_copy_119 : decode cX8_copy 119 = .ok (.getfield 67, 3) := by decide +kernel
theorem dX8_copy_122 : decode cX8_copy 122 = .ok (.bipush 40, 2) := by decide +kernel
theorem dX8_copy_124 : decode cX8_copy 124 = .ok (.iload_n 1, 1) := by decide +kernel
theorem dX8_copy_125 : decode cX8_copy 125 = .ok (.imul, 1) := by decide +kernel
theorem dX8_copy_126 : decode cX8_copy 126 = .ok (.iload_n 2, 1) := by decide +kernel
theorem dX8_copy_127 : decode cX8_copy 127 = .ok (.iadd, 1) := by decide +kernel
theorem dX8_copy_128 : decode cX8_copy 128 = .ok (.iload 6, 2) := by decide +kernel
theorem dX8_copy_130 : decode cX8_copy 130 = .ok (.iadd, 1) := by decide +kernel
theorem dX8_copy_131 : decode cX8_copy 131 = .ok (.iaload, 1) := by decide +kernel
theorem dX8_copy_132 : decode cX8_copy 132 = .ok (.iastore, 1) := by decide +kernel
theorem dX8_copy_133 : decode cX8_copy 133 = .ok (.iinc 6 1, 3) := by decide +kernel
theorem dX8_copy_136 : decode cX8_copy 136 = .ok (.goto (-31), 3) := by decide +kernel
theorem dX8_copy_139 : decode cX8_copy 139 = .ok (.iconst 0, 1) := by decide +kernel
theorem dX8_copy_140 : decode cX8_copy 140 = .ok (.istore 6, 2) := by decide +kernel
theorem dX8_copy_142 : decode cX8_copy 142 = .ok (.iload 6, 2) := by decide +kernel
theorem dX8_copy_144 : decode cX8_copy 144 = .ok (.iload 5, 2) := by decide +kernel
theorem dX8_copy_146 : decode cX8_copy 146 = .ok (.if_icmp .ge 31, 3) := by decide +kernel
theorem dX8_copy_149 : decode cX8_copy 149 = .ok (.aload_n 0, 1) := by decide +kernel
theorem dX8_copy_150 : decode cX8_copy 150 = .ok (.getfield 67, 3) := by decide +kernel
theorem dX8_copy_153 : decode cX8_copy 153 = .ok (.bipush 40, 2) := by decide +kernel
theorem dX8_copy_155 : decode cX8_copy 155 = .ok (.iload_n 3, 1) := by decide +kernel
theorem dX8_copy_156 : decode cX8_copy 156 = .ok (.imul, 1) := by decide +kernel
theorem dX8_copy_157 : decode cX8_copy 157 = .ok (.iload 4, 2) := by decide +kernel
theorem dX8_copy_159 : decode cX8_copy 159 = .ok (.iadd, 1) := by decide +kernel
theorem dX8_copy_160 : decode cX8_copy 160 = .ok (.iload 6, 2) := by decide +kernel
theorem dX8_copy_162 : decode cX8_copy 162 = .ok (.iadd, 1) := by decide +kernel
theorem dX8_copy_163 : decode cX8_copy 163 = .ok (.aload_n 0, 1) := by decide +kernel
theorem dX8_copy_164 : decode cX8_copy 164 = .ok (.getfield 70, 3) := by decide +kernel
theorem dX8_copy_167 : decode cX8_copy 167 = .ok (.iload 6, 2) := by decide +kernel
theorem dX8_copy_169 : decode cX8_copy 169 = .ok (.iaload, 1) := by decide +kernel
theorem dX8_copy_170 : decode cX8_copy 170 = .ok (.iastore, 1) := by decide +kernel
theorem dX8_copy_171 : decode cX8_copy 171 = .ok (.iinc 6 1, 3) := by decide +kernel
theorem dX8_copy_174 : decode cX8_copy 174 = .ok (.goto (-32), 3) := by decide +kernel
theorem dX8_copy_177 : decode cX8_copy 177 = .ok (.iload 5, 2) := by decide +kernel
theorem dX8_copy_179 : decode cX8_copy 179 = .ok (.ireturn, 1) := by decide +kernel
theorem dX8_court_0 : decode cX8_court 0 = .ok (.iload_n 1, 1) := by decide +kernel
theorem dX8_court_1 : decode cX8_court 1 = .ok (.invokestatic 254, 3) := by decide +kernel
theorem dX8_court_4 : decode cX8_court 4 = .ok (.ifCond .eq 22, 3) := by decide +kernel
theorem dX8_court_7 : decode cX8_court 7 = .ok (.iload_n 2, 1) := by decide +kernel
theorem dX8_court_8 : decode cX8_court 8 = .ok (.iconst 0, 1) := by decide +kernel
theorem dX8_court_9 : decode cX8_court 9 = .ok (.iconst 2, 1) := by decide +kernel
theorem dX8_court_10 : decode cX8_court 10 = .ok (.invokestatic 89, 3) := by decide +kernel
theorem dX8_court_13 : decode cX8_court 13 = .ok (.ifCond .eq 13, 3) := by decide +kernel
theorem dX8_court_16 : decode cX8_court 16 = .ok (.iload 4, 2) := by decide +kernel
theorem dX8_court_18 : decode cX8_court 18 = .ok (.iconst 0, 1) := by decide +kernel
theorem dX8_court_19 : decode cX8_court 19 = .ok (.iconst 5, 1) := by decide +kernel
theorem dX8_court_20 : decode cX8_court 20 = .ok (.invokestatic 89, 3) := by decide +kernel
theorem dX8_court_23 : decode cX8_court 23 = .ok (.ifCond .ne 6, 3) := by decide +kernel
theorem dX8_court_26 : decode cX8_court 26 = .ok (.bipush (-2), 2) := by decide +kernel
theorem dX8_court_28 : decode cX8_court 28 = .ok (.ireturn, 1) := by decide +kernel
theorem dX8_court_29 : decode cX8_court 29 = .ok (.aload_n 0, 1) := by decide +kernel
theorem dX8_court_30 : decode cX8_court 30 = .ok (.getfield 61, 3) := by decide +kernel
theorem dX8_court_33 : decode cX8_court 33 = .ok (.iload_n 1, 1) := by decide +kernel
theorem dX8_court_34 : decode cX8_court 34 = .ok (.iaload, 1) := by decide +kernel
theorem dX8_court_35 : decode cX8_court 35 = .ok (.iconst (-1), 1) := by decide +kernel
theorem dX8_court_36 : decode cX8_court 36 = .ok (.if_icmp .ne 6, 3) := by decide +kernel
theorem dX8_court_39 : decode cX8_court 39 = .ok (.bipush (-11), 2) := by decide +kernel
theorem dX8_court_41 : decode cX8_court 41 = .ok (.ireturn, 1) := by decide +kernel
theorem dX8_court_42 : decode cX8_court 42 = .ok (.aload_n 0, 1) := by decide +kernel
theorem dX8_court_43 : decode cX8_court 43 = .ok (.getfield 61, 3) := by decide +kernel
theorem dX8_court_46 : decode cX8_court 46 = .ok (.iload_n 1, 1) := by decide +kernel
theorem dX8_court_47 : decode cX8_court 47 = .ok (.iaload, 1) := by decide +kernel
theorem dX8_court_48 : decode cX8_court 48 = .ok (.iload_n 2, 1) := by decide +kernel
theorem dX8_court_49 : decode cX8_court 49 = .ok (.if_icmp .eq 6, 3) := by decide +kernel
theorem dX8_court_52 : decode cX8_court 52 = .ok (.bipush (-13), 2) := by decide +kernel
theorem dX8_court_54 : decode cX8_court 54 = .ok (.ireturn, 1) := by decide +kernel
theorem dX8_court_55 : decode cX8_court 55 = .ok (.iconst 0, 1) := by decide +kernel
theorem dX8_court_56 : decode cX8_court 56 = .ok (.istore 5, 2) := by decide +kernel
theorem dX8_court_58 : decode cX8_court 58 = .ok (.iconst 0, 1) := by decide +kernel
theorem dX8_court_59 : decode cX8_court 59 = .ok (.istore 6, 2) := by decide +kernel
theorem dX8_court_61 : decode cX8_court 61 = .ok (.iload 6, 2) := by decide +kernel
theorem dX8_court_63 : decode cX8_court 63 = .ok (.iload 4, 2) := by decide +kernel
theorem dX8_court_65 : decode cX8_court 65 = .ok (.if_icmp .ge 88, 3) := by decide +kernel
theorem dX8_court_68 : decode cX8_court 68 = .ok (.iload_n 3, 1) := by decide +kernel
theorem dX8_court_69 : decode cX8_court 69 = .ok (.iconst 3, 1) := by decide +kernel
theorem dX8_court_70 : decode cX8_court 70 = .ok (.iload 6, 2) := by decide +kernel
theorem dX8_court_72 : decode cX8_court 72 = .ok (.imul, 1) := by decide +kernel
theorem dX8_court_73 : decode cX8_court 73 = .ok (.iadd, 1) := by decide +kernel
theorem dX8_court_74 : decode cX8_court 74 = .ok (.istore 7, 2) := by decide +kernel
theorem dX8_court_76 : decode cX8_court 76 = .ok (.iload_n 3, 1) := by decide +kernel
theorem dX8_court_77 : decode cX8_court 77 = .ok (.ifCond .lt 16, 3) := by decide +kernel
theorem dX8_court_80 : decode cX8_court 80 = .ok (.iload 7, 2) := by decide +kernel
theorem dX8_court_82 : decode cX8_court 82 = .ok (.aload_n 0, 1) := by decide +kernel
theorem dX8_court_83 : decode cX8_court 83 = .ok (.getfield 64, 3) := by decide +kernel
theorem dX8_court_86 : decode cX8_court 86 = .ok (.iload_n 1, 1) := by decide +kernel
theorem dX8_court_87 : decode cX8_court 87 = .ok (.iaload, 1) := by decide +kernel
theorem dX8_court_88 : decode cX8_court 88 = .ok (.iconst 3, 1) := by decide +kernel
theorem dX8_court_89 : decode cX8_court 89 = .ok (.isub, 1) := by decide +kernel
theorem dX8_court_90 : decode cX8_court 90 = .ok (.if_icmp .le 6, 3) := by decide +kernel
theorem dX8_court_93 : decode cX8_court 93 = .ok (.bipush (-12), 2) := by decide +kernel
theorem dX8_court_95 : decode cX8_court 95 = .ok (.ireturn, 1) := by decide +kernel
theorem dX8_court_96 : decode cX8_court 96 = .ok (.bipush 40, 2) := by decide +kernel
theorem dX8_court_98 : decode cX8_court 98 = .ok (.iload_n 1, 1) := by decide +kernel
theorem dX8_court_99 : decode cX8_court 99 = .ok (.imul, 1) := by decide +kernel
theorem dX8_court_100 : decode cX8_court 100 = .ok (.iload 7, 2) := by decide +kernel
theorem dX8_court_102 : decode cX8_court 102 = .ok (.iadd, 1) := by decide +kernel
theorem dX8_court_103 : decode cX8_court 103 = .ok (.istore 8, 2) := by decide +kernel
theorem dX8_court_105 : decode cX8_court 105 = .ok (.iload 5, 2) := by decide +kernel
theorem dX8_court_107 : decode cX8_court 107 = .ok (.aload_n 0, 1) := by decide +kernel
theorem dX8_court_108 : decode cX8_court 108 = .ok (.aload_n 0, 1) := by decide +kernel
theorem dX8_court_109 : decode cX8_court 109 = .ok (.getfield 67, 3) := by decide +kernel
theorem dX8_court_112 : decode cX8_court 112 = .ok (.iload 8, 2) := by decide +kernel
theorem dX8_court_114 : decode cX8_court 114 = .ok (.iaload, 1) := by decide +kernel
theorem dX8_court_115 : decode cX8_court 115 = .ok (.aload_n 0, 1) := by decide +kernel
theorem dX8_court_116 : decode cX8_court 116 = .ok (.getfield 67, 3) := by decide +kernel
theorem dX8_court_119 : decode cX8_court 119 = .ok (.iload 8, 2) := by decide +kernel
theorem dX8_court_121 : decode cX8_court 121 = .ok (.iconst 1, 1) := by decide +kernel
theorem dX8_court_122 : decode cX8_court 122 = .ok (.iadd, 1) := by decide +kernel
theorem dX8_court_123 : decode cX8_court 123 = .ok (.iaload, 1) := by decide +kernel
theorem dX8_court_124 : decode cX8_court 124 = .ok (.aload_n 0, 1) := by decide +kernel
theorem dX8_court_125 : decode cX8_court 125 = .ok (.getfield 67, 3) := by decide +kernel
theorem dX8_court_128 : decode cX8_court 128 = .ok (.iload 8, 2) := by decide +kernel
theorem dX8_court_130 : decode cX8_court 130 = .ok (.iconst 2, 1) := by decide +kernel
theorem dX8_court_131 : decode cX8_court 131 = .ok (.iadd, 1) := by decide +kernel
theorem dX8_court_132 : decode cX8_court 132 = .ok (.iaload, 1) := by decide +kernel
theorem dX8_court_133 : decode cX8_court 133 = .ok (.invokevirtual 257, 3) := by decide +kernel
theorem dX8_court_136 : decode cX8_court 136 = .ok (.ifCond .lt 7, 3) := by decide +kernel
theorem dX8_court_139 : decode cX8_court 139 = .ok (.iconst 1, 1) := by decide +kernel
theorem dX8_court_140 : decode cX8_court 140 = .ok (.goto 4, 3) := by decide +kernel
theorem dX8_court_143 : decode cX8_court 143 = .ok (.iconst 0, 1) := by decide +kernel
theorem dX8_court_144 : decode cX8_court 144 = .ok (.iadd, 1) := by decide +kernel
theorem dX8_court_145 : decode cX8_court 145 = .ok (.istore 5, 2) := by decide +kernel
theorem dX8_court_147 : decode cX8_court 147 = .ok (.iinc 6 1, 3) := by decide +kernel
theorem dX8_court_150 : decode cX8_court 150 = .ok (.goto (-89), 3) := by decide +kernel
theorem dX8_court_153 : decode cX8_court 153 = .ok (.iload 5, 2) := by decide +kernel
theorem dX8_court_155 : decode cX8_court 155 = .ok (.ireturn, 1) := by decide +kernel
theorem dX8_taken_0 : decode cX8_taken 0 = .ok (.iload_n 2, 1) := by decide +kernel
theorem dX8_taken_1 : decode cX8_taken 1 = .ok (.iconst 0, 1) := by decide +kernel
theorem dX8_taken_2 : decode cX8_taken 2 = .ok (.iconst 5, 1) := by decide +kernel
theorem dX8_taken_3 : decode cX8_taken 3 = .ok (.invokestatic 89, 3) := by decide +kernel
theorem dX8_taken_6 : decode cX8_taken 6 = .ok (.ifCond .ne 6, 3) := by decide +kernel
theorem dX8_taken_9 : decode cX8_taken 9 = .ok (.bipush (-2), 2) := by decide +kernel
theorem dX8_taken_11 : decode cX8_taken 11 = .ok (.ireturn, 1) := by decide +kernel
theorem dX8_taken_12 : decode cX8_taken 12 = .ok (.aload_n 0, 1) := by decide +kernel
theorem dX8_taken_13 : decode cX8_taken 13 = .ok (.iload_n 1, 1) := by decide +kernel
theorem dX8_taken_14 : decode cX8_taken 14 = .ok (.invokevirtual 93, 3) := by decide +kernel
theorem dX8_taken_17 : decode cX8_taken 17 = .ok (.ifCond .ne 6, 3) := by decide +kernel
theorem dX8_taken_20 : decode cX8_taken 20 = .ok (.bipush (-11), 2) := by decide +kernel
theorem dX8_taken_22 : decode cX8_taken 22 = .ok (.ireturn, 1) := by decide +kernel
theorem dX8_taken_23 : decode cX8_taken 23 = .ok (.aload_n 0, 1) := by decide +kernel
theorem dX8_taken_24 : decode cX8_taken 24 = .ok (.iload_n 1, 1) := by decide +kernel
theorem dX8_taken_25 : decode cX8_taken 25 = .ok (.iconst 0, 1) := by decide +kernel
theorem dX8_taken_26 : decode cX8_taken 26 = .ok (.invokevirtual 111, 3) := by decide +kernel
theorem dX8_taken_29 : decode cX8_taken 29 = .ok (.istore_n 3, 1) := by decide +kernel
theorem dX8_taken_30 : decode cX8_taken 30 = .ok (.iload_n 3, 1) := by decide +kernel
theorem dX8_taken_31 : decode cX8_taken 31 = .ok (.iconst (-1), 1) := by decide +kernel
theorem dX8_taken_32 : decode cX8_taken 32 = .ok (.if_icmp .eq 18, 3) := by decide +kernel
theorem dX8_taken_35 : decode cX8_taken 35 = .ok (.iload_n 3, 1) := by decide +kernel
theorem dX8_taken_36 : decode cX8_taken 36 = .ok (.iload_n 2, 1) := by decide +kernel
theorem dX8_taken_37 : decode cX8_taken 37 = .ok (.if_icmp .eq 13, 3) := by decide +kernel
theorem dX8_taken_40 : decode cX8_taken 40 = .ok (.aload_n 0, 1) := by decide +kernel
theorem dX8_taken_41 : decode cX8_taken 41 = .ok (.getfield 73, 3) := by decide +kernel
theorem dX8_taken_44 : decode cX8_taken 44 = .ok (.iload_n 3, 1) := by decide +kernel
theorem dX8_taken_45 : decode cX8_taken 45 = .ok (.iaload, 1) := by decide +kernel
theorem dX8_taken_46 : decode cX8_taken 46 = .ok (.istore_n 3, 1) := by decide +kernel
theorem dX8_taken_47 : decode cX8_taken 47 = .ok (.goto (-17), 3) := by decide +kernel
theorem dX8_taken_50 : decode cX8_taken 50 = .ok (.iload_n 3, 1) := by decide +kernel
theorem dX8_taken_51 : decode cX8_taken 51 = .ok (.iconst (-1), 1) := by decide +kernel
theorem dX8_taken_52 : decode cX8_taken 52 = .ok (.if_icmp .ne 8, 3) := by decide +kernel
theorem dX8_taken_55 : decode cX8_taken 55 = .ok (.bipush (-13), 2) := by decide +kernel
theorem dX8_taken_57 : decode cX8_taken 57 = .ok (.goto 9, 3) := by decide +kernel
theorem dX8_taken_60 : decode cX8_taken 60 = .ok (.aload_n 0, 1) := by decide +kernel
theorem dX8_taken_61 : decode cX8_taken 61 = .ok (.iload_n 1, 1) := by decide +kernel
theorem dX8_taken_62 : decode cX8_taken 62 = .ok (.iconst 1, 1) := by decide +kernel
theorem dX8_taken_63 : decode cX8_taken 63 = .ok (.invokevirtual 111, 3) := by decide +kernel
theorem dX8_taken_66 : decode cX8_taken 66 = .ok (.ireturn, 1) := by decide +kernel
theorem dX8_otherwise_0 : decode cX8_otherwise 0 = .ok (.aload_n 0, 1) := by decide +kernel
theorem dX8_otherwise_1 : decode cX8_otherwise 1 = .ok (.aload_n 0, 1) := by decide +kernel
theorem dX8_otherwise_2 : decode cX8_otherwise 2 = .ok (.getfield 16, 3) := by decide +kernel
theorem dX8_otherwise_5 : decode cX8_otherwise 5 = .ok (.invokevirtual 216, 3) := by decide +kernel
theorem dX8_otherwise_8 : decode cX8_otherwise 8 = .ok (.iconst (-1), 1) := by decide +kernel
theorem dX8_otherwise_9 : decode cX8_otherwise 9 = .ok (.istore_n 3, 1) := by decide +kernel
theorem dX8_otherwise_10 : decode cX8_otherwise 10 = .ok (.iconst 0, 1) := by decide +kernel
theorem dX8_otherwise_11 : decode cX8_otherwise 11 = .ok (.istore 4, 2) := by decide +kernel
theorem dX8_otherwise_13 : decode cX8_otherwise 13 = .ok (.iload 4, 2) := by decide +kernel
theorem dX8_otherwise_15 : decode cX8_otherwise 15 = .ok (.aload_n 0, 1) := by decide +kernel
theorem dX8_otherwise_16 : decode cX8_otherwise 16 = .ok (.getfield 64, 3) := by decide +kernel
theorem dX8_otherwise_19 : decode cX8_otherwise 19 = .ok (.iload_n 1, 1) := by decide +kernel
theorem dX8_otherwise_20 : decode cX8_otherwise 20 = .ok (.iaload, 1) := by decide +kernel
theorem dX8_otherwise_21 : decode cX8_otherwise 21 = .ok (.if_icmp .ge 46, 3) := by decide +kernel
theorem dX8_otherwise_24 : decode cX8_otherwise 24 = .ok (.iload_n 3, 1) := by decide +kernel
theorem dX8_otherwise_25 : decode cX8_otherwise 25 = .ok (.iconst (-1), 1) := by decide +kernel
theorem dX8_otherwise_26 : decode cX8_otherwise 26 = .ok (.if_icmp .ne 41, 3) := by decide +kernel
theorem dX8_otherwise_29 : decode cX8_otherwise 29 = .ok (.aload_n 0, 1) := by decide +kernel
theorem dX8_otherwise_30 : decode cX8_otherwise 30 = .ok (.iload_n 2, 1) := by decide +kernel
theorem dX8_otherwise_31 : decode cX8_otherwise 31 = .ok (.invokevirtual 118, 3) := by decide +kernel
theorem dX8_otherwise_34 : decode cX8_otherwise 34 = .ok (.aload_n 0, 1) := by decide +kernel
theorem dX8_otherwise_35 : decode cX8_otherwise 35 = .ok (.getfield 67, 3) := by decide +kernel
theorem dX8_otherwise_38 : decode cX8_otherwise 38 = .ok (.bipush 40, 2) := by decide +kernel
theorem dX8_otherwise_40 : decode cX8_otherwise 40 = .ok (.iload_n 1, 1) := by decide +kernel
theorem dX8_otherwise_41 : decode cX8_otherwise 41 = .ok (.imul, 1) := by decide +kernel
theorem dX8_otherwise_42 : decode cX8_otherwise 42 = .ok (.iload 4, 2) := by decide +kernel
theorem dX8_otherwise_44 : decode cX8_otherwise 44 = .ok (.iadd, 1) := by decide +kernel
theorem dX8_otherwise_45 : decode cX8_otherwise 45 = .ok (.iaload, 1) := by decide +kernel
theorem dX8_otherwise_46 : decode cX8_otherwise 46 = .ok (.if_icmp .ne 7, 3) := by decide +kernel
theorem dX8_otherwise_49 : decode cX8_otherwise 49 = .ok (.iconst (-1), 1) := by decide +kernel
theorem dX8_otherwise_50 : decode cX8_otherwise 50 = .ok (.goto 5, 3) := by decide +kernel
theorem dX8_otherwise_53 : decode cX8_otherwise 53 = .ok (.iload 4, 2) := by decide +kernel
theorem dX8_otherwise_55 : decode cX8_otherwise 55 = .ok (.istore_n 3, 1) := by decide +kernel
theorem dX8_otherwise_56 : decode cX8_otherwise 56 = .ok (.aload_n 0, 1) := by decide +kernel
theorem dX8_otherwise_57 : decode cX8_otherwise 57 = .ok (.invokevirtual 213, 3) := by decide +kernel
theorem dX8_otherwise_60 : decode cX8_otherwise 60 = .ok (.pop, 1) := by decide +kernel
theorem dX8_otherwise_61 : decode cX8_otherwise 61 = .ok (.iinc 4 1, 3) := by decide +kernel
theorem dX8_otherwise_64 : decode cX8_otherwise 64 = .ok (.goto (-51), 3) := by decide +kernel
theorem dX8_otherwise_67 : decode cX8_otherwise 67 = .ok (.aload_n 0, 1) := by decide +kernel
theorem dX8_otherwise_68 : decode cX8_otherwise 68 = .ok (.aload_n 0, 1) := by decide +kernel
theorem dX8_otherwise_69 : decode cX8_otherwise 69 = .ok (.getfield 16, 3) := by decide +kernel
theorem dX8_otherwise_72 : decode cX8_otherwise 72 = .ok (.invokevirtual 229, 3) := by decide +kernel
theorem dX8_otherwise_75 : decode cX8_otherwise 75 = .ok (.iload_n 3, 1) := by decide +kernel
theorem dX8_otherwise_76 : decode cX8_otherwise 76 = .ok (.ireturn, 1) := by decide +kernel
theorem dX8_fits_0 : decode cX8_fits 0 = .ok (.aload_n 0, 1) := by decide +kernel
theorem dX8_fits_1 : decode cX8_fits 1 = .ok (.getfield 7, 3) := by decide +kernel
theorem dX8_fits_4 : decode cX8_fits 4 = .ok (.iload_n 3, 1) := by decide +kernel
theorem dX8_fits_5 : decode cX8_fits 5 = .ok (.iaload, 1) := by decide +kernel
theorem dX8_fits_6 : decode cX8_fits 6 = .ok (.istore 5, 2) := by decide +kernel
theorem dX8_fits_8 : decode cX8_fits 8 = .ok (.iconst 0, 1) := by decide +kernel
theorem dX8_fits_9 : decode cX8_fits 9 = .ok (.istore 6, 2) := by decide +kernel
theorem dX8_fits_11 : decode cX8_fits 11 = .ok (.iconst 0, 1) := by decide +kernel
theorem dX8_fits_12 : decode cX8_fits 12 = .ok (.istore 7, 2) := by decide +kernel
theorem dX8_fits_14 : decode cX8_fits 14 = .ok (.iload 7, 2) := by decide +kernel
theorem dX8_fits_16 : decode cX8_fits 16 = .ok (.iload 4, 2) := by decide +kernel
theorem dX8_fits_18 : decode cX8_fits 18 = .ok (.if_icmp .gt 69, 3) := by decide +kernel
theorem dX8_fits_21 : decode cX8_fits 21 = .ok (.aload_n 0, 1) := by decide +kernel
theorem dX8_fits_22 : decode cX8_fits 22 = .ok (.getfield 7, 3) := by decide +kernel
theorem dX8_fits_25 : decode cX8_fits 25 = .ok (.iload_n 3, 1) := by decide +kernel
theorem dX8_fits_26 : decode cX8_fits 26 = .ok (.iload 7, 2) := by decide +kernel
theorem dX8_fits_28 : decode cX8_fits 28 = .ok (.iastore, 1) := by decide +kernel
theorem dX8_fits_29 : decode cX8_fits 29 = .ok (.aload_n 0, 1) := by decide +kernel
theorem dX8_fits_30 : decode cX8_fits 30 = .ok (.getfield 76, 3) := by decide +kernel
theorem dX8_fits_33 : decode cX8_fits 33 = .ok (.iload 7, 2) := by decide +kernel
theorem dX8_fits_35 : decode cX8_fits 35 = .ok (.aload_n 0, 1) := by decide +kernel
theorem dX8_fits_36 : decode cX8_fits 36 = .ok (.iload_n 1, 1) := by decide +kernel
theorem dX8_fits_37 : decode cX8_fits 37 = .ok (.iload_n 2, 1) := by decide +kernel
theorem dX8_fits_38 : decode cX8_fits 38 = .ok (.invokevirtual 260, 3) := by decide +kernel
theorem dX8_fits_41 : decode cX8_fits 41 = .ok (.iconst (-1), 1) := by decide +kernel
theorem dX8_fits_42 : decode cX8_fits 42 = .ok (.if_icmp .ne 7, 3) := by decide +kernel
theorem dX8_fits_45 : decode cX8_fits 45 = .ok (.iconst 1, 1) := by decide +kernel
theorem dX8_fits_46 : decode cX8_fits 46 = .ok (.goto 4, 3) := by decide +kernel
theorem dX8_fits_49 : decode cX8_fits 49 = .ok (.iconst 0, 1) := by decide +kernel
theorem dX8_fits_50 : decode cX8_fits 50 = .ok (.bastore, 1) := by decide +kernel
theorem dX8_fits_51 : decode cX8_fits 51 = .ok (.iload 6, 2) := by decide +kernel
theorem dX8_fits_53 : decode cX8_fits 53 = .ok (.iload 7, 2) := by decide +kernel
theorem dX8_fits_55 : decode cX8_fits 55 = .ok (.bipush 30, 2) := by decide +kernel
theorem dX8_fits_57 : decode cX8_fits 57 = .ok (.if_icmp .ge 20, 3) := by decide +kernel
theorem dX8_fits_60 : decode cX8_fits 60 = .ok (.aload_n 0, 1) := by decide +kernel
theorem dX8_fits_61 : decode cX8_fits 61 = .ok (.getfield 76, 3) := by decide +kernel
theorem dX8_fits_64 : decode cX8_fits 64 = .ok (.iload 7, 2) := by decide +kernel
theorem dX8_fits_66 : decode cX8_fits 66 = .ok (.baload, 1) := by decide +kernel
theorem dX8_fits_67 : decode cX8_fits 67 = .ok (.ifCond .eq 10, 3) := by decide +kernel
theorem dX8_fits_70 : decode cX8_fits 70 = .ok (.iconst 1, 1) := by decide +kernel
theorem dX8_fits_71 : decode cX8_fits 71 = .ok (.iload 7, 2) := by decide +kernel
theorem dX8_fits_73 : decode cX8_fits 73 = .ok (.ishl, 1) := by decide +kernel
theorem dX8_fits_74 : decode cX8_fits 74 = .ok (.goto 4, 3) := by decide +kernel
theorem dX8_fits_77 : decode cX8_fits 77 = .ok (.iconst 0, 1) := by decide +kernel
theorem dX8_fits_78 : decode cX8_fits 78 = .ok (.ior, 1) := by decide +kernel
theorem dX8_fits_79 : decode cX8_fits 79 = .ok (.istore 6, 2) := by decide +kernel
theorem dX8_fits_81 : decode cX8_fits 81 = .ok (.iinc 7 1, 3) := by decide +kernel
theorem dX8_fits_84 : decode cX8_fits 84 = .ok (.goto (-70), 3) := by decide +kernel
theorem dX8_fits_87 : decode cX8_fits 87 = .ok (.aload_n 0, 1) := by decide +kernel
theorem dX8_fits_88 : decode cX8_fits 88 = .ok (.getfield 7, 3) := by decide +kernel
theorem dX8_fits_91 : decode cX8_fits 91 = .ok (.iload_n 3, 1) := by decide +kernel
theorem dX8_fits_92 : decode cX8_fits 92 = .ok (.iload 5, 2) := by decide +kernel
theorem dX8_fits_94 : decode cX8_fits 94 = .ok (.iastore, 1) := by decide +kernel
theorem dX8_fits_95 : decode cX8_fits 95 = .ok (.iload 6, 2) := by decide +kernel
theorem dX8_fits_97 : decode cX8_fits 97 = .ok (.ireturn, 1) := by decide +kernel
theorem dX8_tiredBy_0 : decode cX8_tiredBy 0 = .ok (.aload_n 0, 1) := by decide +kernel
theorem dX8_tiredBy_1 : decode cX8_tiredBy 1 = .ok (.iload_n 1, 1) := by decide +kernel
theorem dX8_tiredBy_2 : decode cX8_tiredBy 2 = .ok (.iload_n 2, 1) := by decide +kernel
theorem dX8_tiredBy_3 : decode cX8_tiredBy 3 = .ok (.bipush 11, 2) := by decide +kernel
theorem dX8_tiredBy_5 : decode cX8_tiredBy 5 = .ok (.iload_n 3, 1) := by decide +kernel
theorem dX8_tiredBy_6 : decode cX8_tiredBy 6 = .ok (.imul, 1) := by decide +kernel
theorem dX8_tiredBy_7 : decode cX8_tiredBy 7 = .ok (.iconst 3, 1) := by decide +kernel
theorem dX8_tiredBy_8 : decode cX8_tiredBy 8 = .ok (.iadd, 1) := by decide +kernel
theorem dX8_tiredBy_9 : decode cX8_tiredBy 9 = .ok (.bipush 99, 2) := by decide +kernel
theorem dX8_tiredBy_11 : decode cX8_tiredBy 11 = .ok (.invokevirtual 263, 3) := by decide +kernel
theorem dX8_tiredBy_14 : decode cX8_tiredBy 14 = .ok (.pop, 1) := by decide +kernel
theorem dX8_tiredBy_15 : decode cX8_tiredBy 15 = .ok (.iconst 0, 1) := by decide +kernel
theorem dX8_tiredBy_16 : decode cX8_tiredBy 16 = .ok (.istore 5, 2) := by decide +kernel
theorem dX8_tiredBy_18 : decode cX8_tiredBy 18 = .ok (.iconst (-1), 1) := by decide +kernel
theorem dX8_tiredBy_19 : decode cX8_tiredBy 19 = .ok (.istore 6, 2) := by decide +kernel
theorem dX8_tiredBy_21 : decode cX8_tiredBy 21 = .ok (.bipush 99, 2) := by decide +kernel
theorem dX8_tiredBy_23 : decode cX8_tiredBy 23 = .ok (.istore 7, 2) := by decide +kernel
theorem dX8_tiredBy_25 : decode cX8_tiredBy 25 = .ok (.iload 7, 2) := by decide +kernel
theorem dX8_tiredBy_27 : decode cX8_tiredBy 27 = .ok (.ifCond .lt 48, 3) := by decide +kernel
theorem dX8_tiredBy_30 : decode cX8_tiredBy 30 = .ok (.iload 5, 2) := by decide +kernel
theorem dX8_tiredBy_32 : decode cX8_tiredBy 32 = .ok (.aload_n 0, 1) := by decide +kernel
theorem dX8_tiredBy_33 : decode cX8_tiredBy 33 = .ok (.getfield 76, 3) := by decide +kernel
theorem dX8_tiredBy_36 : decode cX8_tiredBy 36 = .ok (.iload 7, 2) := by decide +kernel
theorem dX8_tiredBy_38 : decode cX8_tiredBy 38 = .ok (.baload, 1) := by decide +kernel
theorem dX8_tiredBy_39 : decode cX8_tiredBy 39 = .ok (.ifCond .eq 7, 3) := by decide +kernel
theorem dX8_tiredBy_42 : decode cX8_tiredBy 42 = .ok (.iconst 1, 1) := by decide +kernel
theorem dX8_tiredBy_43 : decode cX8_tiredBy 43 = .ok (.goto 4, 3) := by decide +kernel
theorem dX8_tiredBy_46 : decode cX8_tiredBy 46 = .ok (.iconst 0, 1) := by decide +kernel
theorem dX8_tiredBy_47 : decode cX8_tiredBy 47 = .ok (.iadd, 1) := by decide +kernel
theorem dX8_tiredBy_48 : decode cX8_tiredBy 48 = .ok (.istore 5, 2) := by decide +kernel
theorem dX8_tiredBy_50 : decode cX8_tiredBy 50 = .ok (.aload_n 0, 1) := by decide +kernel
theorem dX8_tiredBy_51 : decode cX8_tiredBy 51 = .ok (.getfield 76, 3) := by decide +kernel
theorem dX8_tiredBy_54 : decode cX8_tiredBy 54 = .ok (.iload 7, 2) := by decide +kernel
theorem dX8_tiredBy_56 : decode cX8_tiredBy 56 = .ok (.baload, 1) := by decide +kernel
theorem dX8_tiredBy_57 : decode cX8_tiredBy 57 = .ok (.ifCond .eq 8, 3) := by decide +kernel
theorem dX8_tiredBy_60 : decode cX8_tiredBy 60 = .ok (.iload 7, 2) := by decide +kernel
theorem dX8_tiredBy_62 : decode cX8_tiredBy 62 = .ok (.goto 5, 3) := by decide +kernel
theorem dX8_tiredBy_65 : decode cX8_tiredBy 65 = .ok (.iload 6, 2) := by decide +kernel
theorem dX8_tiredBy_67 : decode cX8_tiredBy 67 = .ok (.istore 6, 2) := by decide +kernel
theorem dX8_tiredBy_69 : decode cX8_tiredBy 69 = .ok (.iinc 7 (-1), 3) := by decide +kernel
theorem dX8_tiredBy_72 : decode cX8_tiredBy 72 = .ok (.goto (-47), 3) := by decide +kernel
theorem dX8_tiredBy_75 : decode cX8_tiredBy 75 = .ok (.iload 4, 2) := by decide +kernel
theorem dX8_tiredBy_77 : decode cX8_tiredBy 77 = .ok (.ifCond .eq 8, 3) := by decide +kernel
theorem dX8_tiredBy_80 : decode cX8_tiredBy 80 = .ok (.iload 5, 2) := by decide +kernel
theorem dX8_tiredBy_82 : decode cX8_tiredBy 82 = .ok (.goto 5, 3) := by decide +kernel
theorem dX8_tiredBy_85 : decode cX8_tiredBy 85 = .ok (.iload 6, 2) := by decide +kernel
theorem dX8_tiredBy_87 : decode cX8_tiredBy 87 = .ok (.ireturn, 1) := by decide +kernel
theorem dX8_tells_0 : decode cX8_tells 0 = .ok (.iload_n 1, 1) := by decide +kernel
theorem dX8_tells_1 : decode cX8_tells 1 = .ok (.invokestatic 254, 3) := by decide +kernel
theorem dX8_tells_4 : decode cX8_tells 4 = .ok (.ifCond .eq 30, 3) := by decide +kernel
theorem dX8_tells_7 : decode cX8_tells 7 = .ok (.aload_n 0, 1) := by decide +kernel
theorem dX8_tells_8 : decode cX8_tells 8 = .ok (.iload_n 2, 1) := by decide +kernel
theorem dX8_tells_9 : decode cX8_tells 9 = .ok (.invokevirtual 93, 3) := by decide +kernel
theorem dX8_tells_12 : decode cX8_tells 12 = .ok (.ifCond .eq 22, 3) := by decide +kernel
theorem dX8_tells_15 : decode cX8_tells 15 = .ok (.aload_n 0, 1) := by decide +kernel
theorem dX8_tells_16 : decode cX8_tells 16 = .ok (.iload_n 3, 1) := by decide +kernel
theorem dX8_tells_17 : decode cX8_tells 17 = .ok (.invokevirtual 93, 3) := by decide +kernel
theorem dX8_tells_20 : decode cX8_tells 20 = .ok (.ifCond .eq 14, 3) := by decide +kernel
theorem dX8_tells_23 : decode cX8_tells 23 = .ok (.iload 4, 2) := by decide +kernel
theorem dX8_tells_25 : decode cX8_tells 25 = .ok (.iconst 0, 1) := by decide +kernel
theorem dX8_tells_26 : decode cX8_tells 26 = .ok (.bipush 7, 2) := by decide +kernel
theorem dX8_tells_28 : decode cX8_tells 28 = .ok (.invokestatic 89, 3) := by decide +kernel
theorem dX8_tells_31 : decode cX8_tells 31 = .ok (.ifCond .ne 6, 3) := by decide +kernel
theorem dX8_tells_34 : decode cX8_tells 34 = .ok (.bipush (-2), 2) := by decide +kernel
theorem dX8_tells_36 : decode cX8_tells 36 = .ok (.ireturn, 1) := by decide +kernel
theorem dX8_tells_37 : decode cX8_tells 37 = .ok (.aload_n 0, 1) := by decide +kernel
theorem dX8_tells_38 : decode cX8_tells 38 = .ok (.getfield 61, 3) := by decide +kernel
theorem dX8_tells_41 : decode cX8_tells 41 = .ok (.iload_n 1, 1) := by decide +kernel
theorem dX8_tells_42 : decode cX8_tells 42 = .ok (.iaload, 1) := by decide +kernel
theorem dX8_tells_43 : decode cX8_tells 43 = .ok (.iconst (-1), 1) := by decide +kernel
theorem dX8_tells_44 : decode cX8_tells 44 = .ok (.if_icmp .ne 6, 3) := by decide +kernel
theorem dX8_tells_47 : decode cX8_tells 47 = .ok (.bipush (-11), 2) := by decide +kernel
theorem dX8_tells_49 : decode cX8_tells 49 = .ok (.ireturn, 1) := by decide +kernel
theorem dX8_tells_50 : decode cX8_tells 50 = .ok (.aload_n 0, 1) := by decide +kernel
theorem dX8_tells_51 : decode cX8_tells 51 = .ok (.getfield 64, 3) := by decide +kernel
theorem dX8_tells_54 : decode cX8_tells 54 = .ok (.iload_n 1, 1) := by decide +kernel
theorem dX8_tells_55 : decode cX8_tells 55 = .ok (.iaload, 1) := by decide +kernel
theorem dX8_tells_56 : decode cX8_tells 56 = .ok (.bipush 20, 2) := by decide +kernel
theorem dX8_tells_58 : decode cX8_tells 58 = .ok (.if_icmp .le 6, 3) := by decide +kernel
theorem dX8_tells_61 : decode cX8_tells 61 = .ok (.bipush (-2), 2) := by decide +kernel
theorem dX8_tells_63 : decode cX8_tells 63 = .ok (.ireturn, 1) := by decide +kernel
theorem dX8_tells_64 : decode cX8_tells 64 = .ok (.iconst 0, 1) := by decide +kernel
theorem dX8_tells_65 : decode cX8_tells 65 = .ok (.istore 5, 2) := by decide +kernel
theorem dX8_tells_67 : decode cX8_tells 67 = .ok (.iload 4, 2) := by decide +kernel
theorem dX8_tells_69 : decode cX8_tells 69 = .ok (.tableswitch 126 0 6 #[43, 50, 62, 77, 77, 96, 111], 43) := by decide +kernel
theorem dX8_tells_112 : decode cX8_tells 112 = .ok (.aload_n 0, 1) := by decide +kernel
theorem dX8_tells_113 : decode cX8_tells 113 = .ok (.iload_n 1, 1) := by decide +kernel
theorem dX8_tells_114 : decode cX8_tells 114 = .ok (.iload_n 2, 1) := by decide +kernel
theorem dX8_tells_115 : decode cX8_tells 115 = .ok (.invokevirtual 260, 3) := by decide +kernel
theorem dX8_tells_118 : decode cX8_tells 118 = .ok (.ireturn, 1) := by decide +kernel
theorem dX8_tells_119 : decode cX8_tells 119 = .ok (.aload_n 0, 1) := by decide +kernel
theorem dX8_tells_120 : decode cX8_tells 120 = .ok (.iload_n 1, 1) := by decide +kernel
theorem dX8_tells_121 : decode cX8_tells 121 = .ok (.iload_n 2, 1) := by decide +kernel
theorem dX8_tells_122 : decode cX8_tells 122 = .ok (.bipush 11, 2) := by decide +kernel
theorem dX8_tells_124 : decode cX8_tells 124 = .ok (.iload_n 3, 1) := by decide +kernel
theorem dX8_tells_125 : decode cX8_tells 125 = .ok (.imul, 1) := by decide +kernel
theorem dX8_tells_126 : decode cX8_tells 126 = .ok (.iconst 5, 1) := by decide +kernel
theorem dX8_tells_127 : decode cX8_tells 127 = .ok (.invokevirtual 263, 3) := by decide +kernel
theorem dX8_tells_130 : decode cX8_tells 130 = .ok (.ireturn, 1) := by decide +kernel
theorem dX8_tells_131 : decode cX8_tells 131 = .ok (.aload_n 0, 1) := by decide +kernel
theorem dX8_tells_132 : decode cX8_tells 132 = .ok (.iload_n 1, 1) := by decide +kernel
theorem dX8_tells_133 : decode cX8_tells 133 = .ok (.iload_n 2, 1) := by decide +kernel
theorem dX8_tells_134 : decode cX8_tells 134 = .ok (.bipush 11, 2) := by decide +kernel
theorem dX8_tells_136 : decode cX8_tells 136 = .ok (.iload_n 3, 1) := by decide +kernel
theorem dX8_tells_137 : decode cX8_tells 137 = .ok (.imul, 1) := by decide +kernel
theorem dX8_tells_138 : decode cX8_tells 138 = .ok (.iconst 1, 1) := by decide +kernel
theorem dX8_tells_139 : decode cX8_tells 139 = .ok (.iadd, 1) := by decide +kernel
theorem dX8_tells_140 : decode cX8_tells 140 = .ok (.bipush 9, 2) := by decide +kernel
theorem dX8_tells_142 : decode cX8_tells 142 = .ok (.invokevirtual 263, 3) := by decide +kernel
theorem dX8_tells_145 : decode cX8_tells 145 = .ok (.ireturn, 1) := by decide +kernel
theorem dX8_tells_146 : decode cX8_tells 146 = .ok (.aload_n 0, 1) := by decide +kernel
theorem dX8_tells_147 : decode cX8_tells 147 = .ok (.iload_n 1, 1) := by decide +kernel
theorem dX8_tells_148 : decode cX8_tells 148 = .ok (.iload_n 2, 1) := by decide +kernel
theorem dX8_tells_149 : decode cX8_tells 149 = .ok (.iload_n 3, 1) := by decide +kernel
theorem dX8_tells_150 : decode cX8_tells 150 = .ok (.iload 4, 2) := by decide +kernel
theorem dX8_tells_152 : decode cX8_tells 152 = .ok (.iconst 3, 1) := by decide +kernel
theorem dX8_tells_153 : decode cX8_tells 153 = .ok (.if_icmp .ne 7, 3) := by decide +kernel
theorem dX8_tells_156 : decode cX8_tells 156 = .ok (.iconst 1, 1) := by decide +kernel
theorem dX8_tells_157 : decode cX8_tells 157 = .ok (.goto 4, 3) := by decide +kernel
theorem dX8_tells_160 : decode cX8_tells 160 = .ok (.iconst 0, 1) := by decide +kernel
theorem dX8_tells_161 : decode cX8_tells 161 = .ok (.invokevirtual 267, 3) := by decide +kernel
theorem dX8_tells_164 : decode cX8_tells 164 = .ok (.ireturn, 1) := by decide +kernel
theorem dX8_tells_165 : decode cX8_tells 165 = .ok (.aload_n 0, 1) := by decide +kernel
theorem dX8_tells_166 : decode cX8_tells 166 = .ok (.iload_n 1, 1) := by decide +kernel
theorem dX8_tells_167 : decode cX8_tells 167 = .ok (.iload_n 2, 1) := by decide +kernel
theorem dX8_tells_168 : decode cX8_tells 168 = .ok (.bipush 11, 2) := by decide +kernel
theorem dX8_tells_170 : decode cX8_tells 170 = .ok (.iload_n 2, 1) := by decide +kernel
theorem dX8_tells_171 : decode cX8_tells 171 = .ok (.imul, 1) := by decide +kernel
theorem dX8_tells_172 : decode cX8_tells 172 = .ok (.iconst 2, 1) := by decide +kernel
theorem dX8_tells_173 : decode cX8_tells 173 = .ok (.iadd, 1) := by decide +kernel
theorem dX8_tells_174 : decode cX8_tells 174 = .ok (.bipush 23, 2) := by decide +kernel
theorem dX8_tells_176 : decode cX8_tells 176 = .ok (.invokevirtual 263, 3) := by decide +kernel
theorem dX8_tells_179 : decode cX8_tells 179 = .ok (.ireturn, 1) := by decide +kernel
theorem dX8_tells_180 : decode cX8_tells 180 = .ok (.aload_n 0, 1) := by decide +kernel
theorem dX8_tells_181 : decode cX8_tells 181 = .ok (.iload_n 1, 1) := by decide +kernel
theorem dX8_tells_182 : decode cX8_tells 182 = .ok (.iload_n 2, 1) := by decide +kernel
theorem dX8_tells_183 : decode cX8_tells 183 = .ok (.bipush 57, 2) := by decide +kernel
theorem dX8_tells_185 : decode cX8_tells 185 = .ok (.aload_n 0, 1) := by decide +kernel
theorem dX8_tells_186 : decode cX8_tells 186 = .ok (.getfield 35, 3) := by decide +kernel
theorem dX8_tells_189 : decode cX8_tells 189 = .ok (.iconst 1, 1) := by decide +kernel
theorem dX8_tells_190 : decode cX8_tells 190 = .ok (.isub, 1) := by decide +kernel
theorem dX8_tells_191 : decode cX8_tells 191 = .ok (.invokevirtual 263, 3) := by decide +kernel
theorem dX8_tells_194 : decode cX8_tells 194 = .ok (.ireturn, 1) := by decide +kernel
theorem dX8_tells_195 : decode cX8_tells 195 = .ok (.iconst 0, 1) := by decide +kernel
theorem dX8_tells_196 : decode cX8_tells 196 = .ok (.istore 6, 2) := by decide +kernel
theorem dX8_tells_198 : decode cX8_tells 198 = .ok (.iload 6, 2) := by decide +kernel
theorem dX8_tells_200 : decode cX8_tells 200 = .ok (.aload_n 0, 1) := by decide +kernel
theorem dX8_tells_201 : decode cX8_tells 201 = .ok (.invokevirtual 104, 3) := by decide +kernel
theorem dX8_tells_204 : decode cX8_tells 204 = .ok (.if_icmp .ge 33, 3) := by decide +kernel
theorem dX8_tells_207 : decode cX8_tells 207 = .ok (.iload 5, 2) := by decide +kernel
theorem dX8_tells_209 : decode cX8_tells 209 = .ok (.aload_n 0, 1) := by decide +kernel
theorem dX8_tells_210 : decode cX8_tells 210 = .ok (.iload_n 1, 1) := by decide +kernel
theorem dX8_tells_211 : decode cX8_tells 211 = .ok (.iload 6, 2) := by decide +kernel
theorem dX8_tells_213 : decode cX8_tells 213 = .ok (.invokevirtual 260, 3) := by decide +kernel
theorem dX8_tells_216 : decode cX8_tells 216 = .ok (.iconst (-1), 1) := by decide +kernel
theorem dX8_tells_217 : decode cX8_tells 217 = .ok (.if_icmp .ne 10, 3) := by decide +kernel
theorem dX8_tells_220 : decode cX8_tells 220 = .ok (.iconst 1, 1) := by decide +kernel
theorem dX8_tells_221 : decode cX8_tells 221 = .ok (.iload 6, 2) := by decide +kernel
theorem dX8_tells_223 : decode cX8_tells 223 = .ok (.ishl, 1) := by decide +kernel
theorem dX8_tells_224 : decode cX8_tells 224 = .ok (.goto 4, 3) := by decide +kernel
theorem dX8_tells_227 : decode cX8_tells 227 = .ok (.iconst 0, 1) := by decide +kernel
theorem dX8_tells_228 : decode cX8_tells 228 = .ok (.ior, 1) := by decide +kernel
theorem dX8_tells_229 : decode cX8_tells 229 = .ok (.istore 5, 2) := by decide +kernel
theorem dX8_tells_231 : decode cX8_tells 231 = .ok (.iinc 6 1, 3) := by decide +kernel
theorem dX8_tells_234 : decode cX8_tells 234 = .ok (.goto (-36), 3) := by decide +kernel
theorem dX8_tells_237 : decode cX8_tells 237 = .ok (.iload 5, 2) := by decide +kernel
theorem dX8_tells_239 : decode cX8_tells 239 = .ok (.ireturn, 1) := by decide +kernel
theorem dX8_film_0 : decode cX8_film 0 = .ok (.iload_n 1, 1) := by decide +kernel
theorem dX8_film_1 : decode cX8_film 1 = .ok (.invokestatic 254, 3) := by decide +kernel
theorem dX8_film_4 : decode cX8_film 4 = .ok (.ifCond .eq 21, 3) := by decide +kernel
theorem dX8_film_7 : decode cX8_film 7 = .ok (.aload_n 0, 1) := by decide +kernel
theorem dX8_film_8 : decode cX8_film 8 = .ok (.iload_n 2, 1) := by decide +kernel
theorem dX8_film_9 : decode cX8_film 9 = .ok (.invokevirtual 93, 3) := by decide +kernel
theorem dX8_film_12 : decode cX8_film 12 = .ok (.ifCond .eq 13, 3) := by decide +kernel
theorem dX8_film_15 : decode cX8_film 15 = .ok (.iload_n 3, 1) := by decide +kernel
theorem dX8_film_16 : decode cX8_film 16 = .ok (.iconst 0, 1) := by decide +kernel
theorem dX8_film_17 : decode cX8_film 17 = .ok (.bipush 20, 2) := by decide +kernel
theorem dX8_film_19 : decode cX8_film 19 = .ok (.invokestatic 89, 3) := by decide +kernel
theorem dX8_film_22 : decode cX8_film 22 = .ok (.ifCond .ne 6, 3) := by decide +kernel
theorem dX8_film_25 : decode cX8_film 25 = .ok (.bipush (-2), 2) := by decide +kernel
theorem dX8_film_27 : decode cX8_film 27 = .ok (.ireturn, 1) := by decide +kernel
theorem dX8_film_28 : decode cX8_film 28 = .ok (.aload_n 0, 1) := by decide +kernel
theorem dX8_film_29 : decode cX8_film 29 = .ok (.iload_n 1, 1) := by decide +kernel
theorem dX8_film_30 : decode cX8_film 30 = .ok (.iconst 0, 1) := by decide +kernel
theorem dX8_film_31 : decode cX8_film 31 = .ok (.iload_n 3, 1) := by decide +kernel
theorem dX8_film_32 : decode cX8_film 32 = .ok (.invokevirtual 271, 3) := by decide +kernel
theorem dX8_film_35 : decode cX8_film 35 = .ok (.pop, 1) := by decide +kernel
theorem dX8_film_36 : decode cX8_film 36 = .ok (.aload_n 0, 1) := by decide +kernel
theorem dX8_film_37 : decode cX8_film 37 = .ok (.aload_n 0, 1) := by decide +kernel
theorem dX8_film_38 : decode cX8_film 38 = .ok (.getfield 16, 3) := by decide +kernel
theorem dX8_film_41 : decode cX8_film 41 = .ok (.invokevirtual 216, 3) := by decide +kernel
theorem dX8_film_44 : decode cX8_film 44 = .ok (.iconst 0, 1) := by decide +kernel
theorem dX8_film_45 : decode cX8_film 45 = .ok (.istore 4, 2) := by decide +kernel
theorem dX8_film_47 : decode cX8_film 47 = .ok (.iload 4, 2) := by decide +kernel
theorem dX8_film_49 : decode cX8_film 49 = .ok (.iload_n 3, 1) := by decide +kernel
theorem dX8_film_50 : decode cX8_film 50 = .ok (.if_icmp .ge 31, 3) := by decide +kernel
theorem dX8_film_53 : decode cX8_film 53 = .ok (.aload_n 0, 1) := by decide +kernel
theorem dX8_film_54 : decode cX8_film 54 = .ok (.getfield 67, 3) := by decide +kernel
theorem dX8_film_57 : decode cX8_film 57 = .ok (.bipush 40, 2) := by decide +kernel
theorem dX8_film_59 : decode cX8_film 59 = .ok (.iload_n 1, 1) := by decide +kernel
theorem dX8_film_60 : decode cX8_film 60 = .ok (.imul, 1) := by decide +kernel
theorem dX8_film_61 : decode cX8_film 61 = .ok (.iload 4, 2) := by decide +kernel
theorem dX8_film_63 : decode cX8_film 63 = .ok (.iadd, 1) := by decide +kernel
theorem dX8_film_64 : decode cX8_film 64 = .ok (.aload_n 0, 1) := by decide +kernel
theorem dX8_film_65 : decode cX8_film 65 = .ok (.iload_n 2, 1) := by decide +kernel
theorem dX8_film_66 : decode cX8_film 66 = .ok (.invokevirtual 118, 3) := by decide +kernel
theorem dX8_film_69 : decode cX8_film 69 = .ok (.iastore, 1) := by decide +kernel
theorem dX8_film_70 : decode cX8_film 70 = .ok (.aload_n 0, 1) := by decide +kernel
theorem dX8_film_71 : decode cX8_film 71 = .ok (.invokevirtual 213, 3) := by decide +kernel
theorem dX8_film_74 : decode cX8_film 74 = .ok (.pop, 1) := by decide +kernel
theorem dX8_film_75 : decode cX8_film 75 = .ok (.iinc 4 1, 3) := by decide +kernel
theorem dX8_film_78 : decode cX8_film 78 = .ok (.goto (-31), 3) := by decide +kernel
theorem dX8_film_81 : decode cX8_film 81 = .ok (.aload_n 0, 1) := by decide +kernel
theorem dX8_film_82 : decode cX8_film 82 = .ok (.aload_n 0, 1) := by decide +kernel
theorem dX8_film_83 : decode cX8_film 83 = .ok (.getfield 16, 3) := by decide +kernel
theorem dX8_film_86 : decode cX8_film 86 = .ok (.invokevirtual 229, 3) := by decide +kernel
theorem dX8_film_89 : decode cX8_film 89 = .ok (.iload_n 3, 1) := by decide +kernel
theorem dX8_film_90 : decode cX8_film 90 = .ok (.ireturn, 1) := by decide +kernel
theorem dX8_drawn_0 : decode cX8_drawn 0 = .ok (.iload_n 2, 1) := by decide +kernel
theorem dX8_drawn_1 : decode cX8_drawn 1 = .ok (.iconst 0, 1) := by decide +kernel
theorem dX8_drawn_2 : decode cX8_drawn 2 = .ok (.bipush 40, 2) := by decide +kernel
theorem dX8_drawn_4 : decode cX8_drawn 4 = .ok (.invokestatic 89, 3) := by decide +kernel
theorem dX8_drawn_7 : decode cX8_drawn 7 = .ok (.ifCond .ne 6, 3) := by decide +kernel
theorem dX8_drawn_10 : decode cX8_drawn 10 = .ok (.bipush (-2), 2) := by decide +kernel
theorem dX8_drawn_12 : decode cX8_drawn 12 = .ok (.ireturn, 1) := by decide +kernel
theorem dX8_drawn_13 : decode cX8_drawn 13 = .ok (.aload_n 0, 1) := by decide +kernel
theorem dX8_drawn_14 : decode cX8_drawn 14 = .ok (.aload_n 0, 1) := by decide +kernel
theorem dX8_drawn_15 : decode cX8_drawn 15 = .ok (.getfield 16, 3) := by decide +kernel
theorem dX8_drawn_18 : decode cX8_drawn 18 = .ok (.invokevirtual 216, 3) := by decide +kernel
theorem dX8_drawn_21 : decode cX8_drawn 21 = .ok (.iload_n 1, 1) := by decide +kernel
theorem dX8_drawn_22 : decode cX8_drawn 22 = .ok (.istore_n 3, 1) := by decide +kernel
theorem dX8_drawn_23 : decode cX8_drawn 23 = .ok (.iconst 0, 1) := by decide +kernel
theorem dX8_drawn_24 : decode cX8_drawn 24 = .ok (.istore 4, 2) := by decide +kernel
theorem dX8_drawn_26 : decode cX8_drawn 26 = .ok (.iload 4, 2) := by decide +kernel
theorem dX8_drawn_28 : decode cX8_drawn 28 = .ok (.iload_n 2, 1) := by decide +kernel
theorem dX8_drawn_29 : decode cX8_drawn 29 = .ok (.if_icmp .ge 75, 3) := by decide +kernel
theorem dX8_drawn_32 : decode cX8_drawn 32 = .ok (.iload_n 3, 1) := by decide +kernel
theorem dX8_drawn_33 : decode cX8_drawn 33 = .ok (.ldc_w 274, 3) := by decide +kernel
theorem dX8_drawn_36 : decode cX8_drawn 36 = .ok (.imul, 1) := by decide +kernel
theorem dX8_drawn_37 : decode cX8_drawn 37 = .ok (.sipush 12345, 3) := by decide +kernel
theorem dX8_drawn_40 : decode cX8_drawn 40 = .ok (.iadd, 1) := by decide +kernel
theorem dX8_drawn_41 : decode cX8_drawn 41 = .ok (.istore_n 3, 1) := by decide +kernel
theorem dX8_drawn_42 : decode cX8_drawn 42 = .ok (.iload_n 3, 1) := by decide +kernel
theorem dX8_drawn_43 : decode cX8_drawn 43 = .ok (.bipush 9, 2) := by decide +kernel
theorem dX8_drawn_45 : decode cX8_drawn 45 = .ok (.iushr, 1) := by decide +kernel
theorem dX8_drawn_46 : decode cX8_drawn 46 = .ok (.bipush 8, 2) := by decide +kernel
theorem dX8_drawn_48 : decode cX8_drawn 48 = .ok (.irem, 1) := by decide +kernel
theorem dX8_drawn_49 : decode cX8_drawn 49 = .ok (.istore 5, 2) := by decide +kernel
theorem dX8_drawn_51 : decode cX8_drawn 51 = .ok (.iload_n 3, 1) := by decide +kernel
theorem dX8_drawn_52 : decode cX8_drawn 52 = .ok (.ldc_w 274, 3) := by decide +kernel
theorem dX8_drawn_55 : decode cX8_drawn 55 = .ok (.imul, 1) := by decide +kernel
theorem dX8_drawn_56 : decode cX8_drawn 56 = .ok (.sipush 12345, 3) := by decide +kernel
theorem dX8_drawn_59 : decode cX8_drawn 59 = .ok (.iadd, 1) := by decide +kernel
theorem dX8_drawn_60 : decode cX8_drawn 60 = .ok (.istore_n 3, 1) := by decide +kernel
theorem dX8_drawn_61 : decode cX8_drawn 61 = .ok (.iload_n 3, 1) := by decide +kernel
theorem dX8_drawn_62 : decode cX8_drawn 62 = .ok (.bipush 9, 2) := by decide +kernel
theorem dX8_drawn_64 : decode cX8_drawn 64 = .ok (.iushr, 1) := by decide +kernel
theorem dX8_drawn_65 : decode cX8_drawn 65 = .ok (.bipush 8, 2) := by decide +kernel
theorem dX8_drawn_67 : decode cX8_drawn 67 = .ok (.irem, 1) := by decide +kernel
theorem dX8_drawn_68 : decode cX8_drawn 68 = .ok (.istore 6, 2) := by decide +kernel
theorem dX8_drawn_70 : decode cX8_drawn 70 = .ok (.aload_n 0, 1) := by decide +kernel
theorem dX8_drawn_71 : decode cX8_drawn 71 = .ok (.iload 5, 2) := by decide +kernel
theorem dX8_drawn_73 : decode cX8_drawn 73 = .ok (.iload 6, 2) := by decide +kernel
theorem dX8_drawn_75 : decode cX8_drawn 75 = .ok (.invokevirtual 97, 3) := by decide +kernel
theorem dX8_drawn_78 : decode cX8_drawn 78 = .ok (.ifCond .eq 15, 3) := by decide +kernel
theorem dX8_drawn_81 : decode cX8_drawn 81 = .ok (.aload_n 0, 1) := by decide +kernel
theorem dX8_drawn_82 : decode cX8_drawn 82 = .ok (.iload 5, 2) := by decide +kernel
theorem dX8_drawn_84 : decode cX8_drawn 84 = .ok (.bipush 6, 2) := by decide +kernel
theorem dX8_drawn_86 : decode cX8_drawn 86 = .ok (.iload 6, 2) := by decide +kernel
theorem dX8_drawn_88 : decode cX8_drawn 88 = .ok (.iadd, 1) := by decide +kernel
theorem dX8_drawn_89 : decode cX8_drawn 89 = .ok (.iconst 0, 1) := by decide +kernel
theorem dX8_drawn_90 : decode cX8_drawn 90 = .ok (.invokevirtual 107, 3) := by decide +kernel
theorem dX8_drawn_93 : decode cX8_drawn 93 = .ok (.aload_n 0, 1) := by decide +kernel
theorem dX8_drawn_94 : decode cX8_drawn 94 = .ok (.invokevirtual 213, 3) := by decide +kernel
theorem dX8_drawn_97 : decode cX8_drawn 97 = .ok (.pop, 1) := by decide +kernel
theorem dX8_drawn_98 : decode cX8_drawn 98 = .ok (.iinc 4 1, 3) := by decide +kernel
theorem dX8_drawn_101 : decode cX8_drawn 101 = .ok (.goto (-75), 3) := by decide +kernel
theorem dX8_drawn_104 : decode cX8_drawn 104 = .ok (.aload_n 0, 1) := by decide +kernel
theorem dX8_drawn_105 : decode cX8_drawn 105 = .ok (.iconst 4, 1) := by decide +kernel
theorem dX8_drawn_106 : decode cX8_drawn 106 = .ok (.invokevirtual 226, 3) := by decide +kernel
theorem dX8_drawn_109 : decode cX8_drawn 109 = .ok (.istore 4, 2) := by decide +kernel
theorem dX8_drawn_111 : decode cX8_drawn 111 = .ok (.aload_n 0, 1) := by decide +kernel
theorem dX8_drawn_112 : decode cX8_drawn 112 = .ok (.aload_n 0, 1) := by decide +kernel
theorem dX8_drawn_113 : decode cX8_drawn 113 = .ok (.getfield 16, 3) := by decide +kernel
theorem dX8_drawn_116 : decode cX8_drawn 116 = .ok (.invokevirtual 229, 3) := by decide +kernel
theorem dX8_drawn_119 : decode cX8_drawn 119 = .ok (.iload 4, 2) := by decide +kernel
theorem dX8_drawn_121 : decode cX8_drawn 121 = .ok (.ireturn, 1) := by decide +kernel
theorem dX8_chance_0 : decode cX8_chance 0 = .ok (.iload_n 2, 1) := by decide +kernel
theorem dX8_chance_1 : decode cX8_chance 1 = .ok (.iconst 1, 1) := by decide +kernel
theorem dX8_chance_2 : decode cX8_chance 2 = .ok (.bipush 20, 2) := by decide +kernel
theorem dX8_chance_4 : decode cX8_chance 4 = .ok (.invokestatic 89, 3) := by decide +kernel
theorem dX8_chance_7 : decode cX8_chance 7 = .ok (.ifCond .eq 23, 3) := by decide +kernel
theorem dX8_chance_10 : decode cX8_chance 10 = .ok (.iload_n 3, 1) := by decide +kernel
theorem dX8_chance_11 : decode cX8_chance 11 = .ok (.iconst 0, 1) := by decide +kernel
theorem dX8_chance_12 : decode cX8_chance 12 = .ok (.bipush 99, 2) := by decide +kernel
theorem dX8_chance_14 : decode cX8_chance 14 = .ok (.invokestatic 89, 3) := by decide +kernel
theorem dX8_chance_17 : decode cX8_chance 17 = .ok (.ifCond .eq 13, 3) := by decide +kernel
theorem dX8_chance_20 : decode cX8_chance 20 = .ok (.iload 4, 2) := by decide +kernel
theorem dX8_chance_22 : decode cX8_chance 22 = .ok (.iconst 0, 1) := by decide +kernel
theorem dX8_chance_23 : decode cX8_chance 23 = .ok (.iconst 1, 1) := by decide +kernel
theorem dX8_chance_24 : decode cX8_chance 24 = .ok (.invokestatic 89, 3) := by decide +kernel
theorem dX8_chance_27 : decode cX8_chance 27 = .ok (.ifCond .ne 7, 3) := by decide +kernel
theorem dX8_chance_30 : decode cX8_chance 30 = .ok (.ldc2_w 252, 3) := by decide +kernel
theorem dX8_chance_33 : decode cX8_chance 33 = .ok (.lreturn, 1) := by decide +kernel
theorem dX8_chance_34 : decode cX8_chance 34 = .ok (.lconst 0, 1) := by decide +kernel
theorem dX8_chance_35 : decode cX8_chance 35 = .ok (.lstore 5, 2) := by decide +kernel
theorem dX8_chance_37 : decode cX8_chance 37 = .ok (.iconst 0, 1) := by decide +kernel
theorem dX8_chance_38 : decode cX8_chance 38 = .ok (.istore 7, 2) := by decide +kernel
theorem dX8_chance_40 : decode cX8_chance 40 = .ok (.iload 7, 2) := by decide +kernel
theorem dX8_chance_42 : decode cX8_chance 42 = .ok (.iload_n 2, 1) := by decide +kernel
theorem dX8_chance_43 : decode cX8_chance 43 = .ok (.if_icmp .ge 33, 3) := by decide +kernel
theorem dX8_chance_46 : decode cX8_chance 46 = .ok (.lload 5, 2) := by decide +kernel
theorem dX8_chance_48 : decode cX8_chance 48 = .ok (.aload_n 0, 1) := by decide +kernel
theorem dX8_chance_49 : decode cX8_chance 49 = .ok (.iload_n 1, 1) := by decide +kernel
theorem dX8_chance_50 : decode cX8_chance 50 = .ok (.iload 7, 2) := by decide +kernel
theorem dX8_chance_52 : decode cX8_chance 52 = .ok (.iadd, 1) := by decide +kernel
theorem dX8_chance_53 : decode cX8_chance 53 = .ok (.bipush 10, 2) := by decide +kernel
theorem dX8_chance_55 : decode cX8_chance 55 = .ok (.invokevirtual 275, 3) := by decide +kernel
theorem dX8_chance_58 : decode cX8_chance 58 = .ok (.iload_n 3, 1) := by decide +kernel
theorem dX8_chance_59 : decode cX8_chance 59 = .ok (.if_icmp .lt 7, 3) := by decide +kernel
theorem dX8_chance_62 : decode cX8_chance 62 = .ok (.lconst 1, 1) := by decide +kernel
theorem dX8_chance_63 : decode cX8_chance 63 = .ok (.goto 4, 3) := by decide +kernel
theorem dX8_chance_66 : decode cX8_chance 66 = .ok (.lconst 0, 1) := by decide +kernel
theorem dX8_chance_67 : decode cX8_chance 67 = .ok (.ladd, 1) := by decide +kernel
theorem dX8_chance_68 : decode cX8_chance 68 = .ok (.lstore 5, 2) := by decide +kernel
theorem dX8_chance_70 : decode cX8_chance 70 = .ok (.iinc 7 1, 3) := by decide +kernel
theorem dX8_chance_73 : decode cX8_chance 73 = .ok (.goto (-33), 3) := by decide +kernel
theorem dX8_chance_76 : decode cX8_chance 76 = .ok (.iload_n 2, 1) := by decide +kernel
theorem dX8_chance_77 : decode cX8_chance 77 = .ok (.i2l, 1) := by decide +kernel
theorem dX8_chance_78 : decode cX8_chance 78 = .ok (.lload 5, 2) := by decide +kernel
theorem dX8_chance_80 : decode cX8_chance 80 = .ok (.invokestatic 248, 3) := by decide +kernel
theorem dX8_chance_83 : decode cX8_chance 83 = .ok (.lstore 7, 2) := by decide +kernel
theorem dX8_chance_85 : decode cX8_chance 85 = .ok (.iload 4, 2) := by decide +kernel
theorem dX8_chance_87 : decode cX8_chance 87 = .ok (.ifCond .ne 11, 3) := by decide +kernel
theorem dX8_chance_90 : decode cX8_chance 90 = .ok (.lload 5, 2) := by decide +kernel
theorem dX8_chance_92 : decode cX8_chance 92 = .ok (.lload 7, 2) := by decide +kernel
theorem dX8_chance_94 : decode cX8_chance 94 = .ok (.ldiv, 1) := by decide +kernel
theorem dX8_chance_95 : decode cX8_chance 95 = .ok (.goto 8, 3) := by decide +kernel
theorem dX8_chance_98 : decode cX8_chance 98 = .ok (.iload_n 2, 1) := by decide +kernel
theorem dX8_chance_99 : decode cX8_chance 99 = .ok (.i2l, 1) := by decide +kernel
theorem dX8_chance_100 : decode cX8_chance 100 = .ok (.lload 7, 2) := by decide +kernel
theorem dX8_chance_102 : decode cX8_chance 102 = .ok (.ldiv, 1) := by decide +kernel
theorem dX8_chance_103 : decode cX8_chance 103 = .ok (.lreturn, 1) := by decide +kernel
theorem dX8_image_0 : decode cX8_image 0 = .ok (.aload_n 0, 1) := by decide +kernel
theorem dX8_image_1 : decode cX8_image 1 = .ok (.aload_n 0, 1) := by decide +kernel
theorem dX8_image_2 : decode cX8_image 2 = .ok (.getfield 13, 3) := by decide +kernel
theorem dX8_image_5 : decode cX8_image 5 = .ok (.invokevirtual 216, 3) := by decide +kernel
theorem dX8_image_8 : decode cX8_image 8 = .ok (.aload_n 0, 1) := by decide +kernel
theorem dX8_image_9 : decode cX8_image 9 = .ok (.iconst 1, 1) := by decide +kernel
theorem dX8_image_10 : decode cX8_image 10 = .ok (.putfield 278, 3) := by decide +kernel
theorem dX8_image_13 : decode cX8_image 13 = .ok (.aload_n 0, 1) := by decide +kernel
theorem dX8_image_14 : decode cX8_image 14 = .ok (.invokevirtual 104, 3) := by decide +kernel
theorem dX8_image_17 : decode cX8_image 17 = .ok (.ireturn, 1) := by decide +kernel
theorem dX8_back_0 : decode cX8_back 0 = .ok (.aload_n 0, 1) := by decide +kernel
theorem dX8_back_1 : decode cX8_back 1 = .ok (.getfield 278, 3) := by decide +kernel
theorem dX8_back_4 : decode cX8_back 4 = .ok (.ifCond .ne 6, 3) := by decide +kernel
theorem dX8_back_7 : decode cX8_back 7 = .ok (.bipush (-3), 2) := by decide +kernel
theorem dX8_back_9 : decode cX8_back 9 = .ok (.ireturn, 1) := by decide +kernel
theorem dX8_back_10 : decode cX8_back 10 = .ok (.aload_n 0, 1) := by decide +kernel
theorem dX8_back_11 : decode cX8_back 11 = .ok (.aload_n 0, 1) := by decide +kernel
theorem dX8_back_12 : decode cX8_back 12 = .ok (.getfield 13, 3) := by decide +kernel
theorem dX8_back_15 : decode cX8_back 15 = .ok (.invokevirtual 229, 3) := by decide +kernel
theorem dX8_back_18 : decode cX8_back 18 = .ok (.aload_n 0, 1) := by decide +kernel
theorem dX8_back_19 : decode cX8_back 19 = .ok (.invokevirtual 104, 3) := by decide +kernel
theorem dX8_back_22 : decode cX8_back 22 = .ok (.ireturn, 1) := by decide +kernel
theorem dX8_alone_0 : decode cX8_alone 0 = .ok (.iconst 0, 1) := by decide +kernel
theorem dX8_alone_1 : decode cX8_alone 1 = .ok (.istore_n 1, 1) := by decide +kernel
theorem dX8_alone_2 : decode cX8_alone 2 = .ok (.iconst 0, 1) := by decide +kernel
theorem dX8_alone_3 : decode cX8_alone 3 = .ok (.istore_n 2, 1) := by decide +kernel
theorem dX8_alone_4 : decode cX8_alone 4 = .ok (.iload_n 2, 1) := by decide +kernel
theorem dX8_alone_5 : decode cX8_alone 5 = .ok (.aload_n 0, 1) := by decide +kernel
theorem dX8_alone_6 : decode cX8_alone 6 = .ok (.invokevirtual 104, 3) := by decide +kernel
theorem dX8_alone_9 : decode cX8_alone 9 = .ok (.if_icmp .ge 26, 3) := by decide +kernel
theorem dX8_alone_12 : decode cX8_alone 12 = .ok (.iload_n 1, 1) := by decide +kernel
theorem dX8_alone_13 : decode cX8_alone 13 = .ok (.aload_n 0, 1) := by decide +kernel
theorem dX8_alone_14 : decode cX8_alone 14 = .ok (.iload_n 2, 1) := by decide +kernel
theorem dX8_alone_15 : decode cX8_alone 15 = .ok (.invokevirtual 114, 3) := by decide +kernel
theorem dX8_alone_18 : decode cX8_alone 18 = .ok (.iconst (-1), 1) := by decide +kernel
theorem dX8_alone_19 : decode cX8_alone 19 = .ok (.if_icmp .ne 7, 3) := by decide +kernel
theorem dX8_alone_22 : decode cX8_alone 22 = .ok (.iconst 1, 1) := by decide +kernel
theorem dX8_alone_23 : decode cX8_alone 23 = .ok (.goto 4, 3) := by decide +kernel
