theorem dX8_isE_103 : decode cX8_isE 103 = .ok (.istore_n 2, 1) := by decide +kernel
theorem dX8_isE_104 : decode cX8_isE 104 = .ok (.iload_n 2, 1) := by decide +kernel
theorem dX8_isE_105 : decode cX8_isE 105 = .ok (.ifCond .ne 21, 3) := by decide +kernel
theorem dX8_isE_108 : decode cX8_isE 108 = .ok (.aload_n 0, 1) := by decide +kernel
theorem dX8_isE_109 : decode cX8_isE 109 = .ok (.iconst 1, 1) := by decide +kernel
theorem dX8_isE_110 : decode cX8_isE 110 = .ok (.invokevirtual 186, 3) := by decide +kernel
theorem dX8_isE_113 : decode cX8_isE 113 = .ok (.aload_n 0, 1) := by decide +kernel
theorem dX8_isE_114 : decode cX8_isE 114 = .ok (.getfield 152, 3) := by decide +kernel
theorem dX8_isE_117 : decode cX8_isE 117 = .ok (.ifCond .ne 7, 3) := by decide +kernel
theorem dX8_isE_120 : decode cX8_isE 120 = .ok (.iconst 1, 1) := by decide +kernel
theorem dX8_isE_121 : decode cX8_isE 121 = .ok (.goto 4, 3) := by decide +kernel
theorem dX8_isE_124 : decode cX8_isE 124 = .ok (.iconst 0, 1) := by decide +kernel
theorem dX8_isE_125 : decode cX8_isE 125 = .ok (.ireturn, 1) := by decide +kernel
theorem dX8_isE_126 : decode cX8_isE 126 = .ok (.aload_n 0, 1) := by decide +kernel
theorem dX8_isE_127 : decode cX8_isE 127 = .ok (.iload_n 2, 1) := by decide +kernel
theorem dX8_isE_128 : decode cX8_isE 128 = .ok (.invokestatic 155, 3) := by decide +kernel
theorem dX8_isE_131 : decode cX8_isE 131 = .ok (.iconst 4, 1) := by decide +kernel
theorem dX8_isE_132 : decode cX8_isE 132 = .ok (.if_icmp .ne 7, 3) := by decide +kernel
theorem dX8_isE_135 : decode cX8_isE 135 = .ok (.iconst 5, 1) := by decide +kernel
theorem dX8_isE_136 : decode cX8_isE 136 = .ok (.goto 7, 3) := by decide +kernel
theorem dX8_isE_139 : decode cX8_isE 139 = .ok (.iload_n 2, 1) := by decide +kernel
theorem dX8_isE_140 : decode cX8_isE 140 = .ok (.invokestatic 155, 3) := by decide +kernel
theorem dX8_isE_143 : decode cX8_isE 143 = .ok (.invokevirtual 186, 3) := by decide +kernel
theorem dX8_isE_146 : decode cX8_isE 146 = .ok (.iload_n 2, 1) := by decide +kernel
theorem dX8_isE_147 : decode cX8_isE 147 = .ok (.invokestatic 155, 3) := by decide +kernel
theorem dX8_isE_150 : decode cX8_isE 150 = .ok (.iconst 4, 1) := by decide +kernel
theorem dX8_isE_151 : decode cX8_isE 151 = .ok (.if_icmp .ne 13, 3) := by decide +kernel
theorem dX8_isE_154 : decode cX8_isE 154 = .ok (.aload_n 0, 1) := by decide +kernel
theorem dX8_isE_155 : decode cX8_isE 155 = .ok (.invokevirtual 158, 3) := by decide +kernel
theorem dX8_isE_158 : decode cX8_isE 158 = .ok (.iconst 4, 1) := by decide +kernel
theorem dX8_isE_159 : decode cX8_isE 159 = .ok (.if_icmp .ne 5, 3) := by decide +kernel
theorem dX8_isE_162 : decode cX8_isE 162 = .ok (.iconst 0, 1) := by decide +kernel
theorem dX8_isE_163 : decode cX8_isE 163 = .ok (.ireturn, 1) := by decide +kernel
theorem dX8_isE_164 : decode cX8_isE 164 = .ok (.aload_n 0, 1) := by decide +kernel
theorem dX8_isE_165 : decode cX8_isE 165 = .ok (.iload_n 2, 1) := by decide +kernel
theorem dX8_isE_166 : decode cX8_isE 166 = .ok (.invokevirtual 177, 3) := by decide +kernel
theorem dX8_isE_169 : decode cX8_isE 169 = .ok (.aload_n 0, 1) := by decide +kernel
theorem dX8_isE_170 : decode cX8_isE 170 = .ok (.invokevirtual 183, 3) := by decide +kernel
theorem dX8_isE_173 : decode cX8_isE 173 = .ok (.goto (-168), 3) := by decide +kernel
theorem dX8_isText_0 : decode cX8_isText 0 = .ok (.aload_n 0, 1) := by decide +kernel
theorem dX8_isText_1 : decode cX8_isText 1 = .ok (.invokevirtual 183, 3) := by decide +kernel
theorem dX8_isText_4 : decode cX8_isText 4 = .ok (.iconst 0, 1) := by decide +kernel
theorem dX8_isText_5 : decode cX8_isText 5 = .ok (.istore_n 1, 1) := by decide +kernel
theorem dX8_isText_6 : decode cX8_isText 6 = .ok (.iload_n 1, 1) := by decide +kernel
theorem dX8_isText_7 : decode cX8_isText 7 = .ok (.iconst 3, 1) := by decide +kernel
theorem dX8_isText_8 : decode cX8_isText 8 = .ok (.if_icmp .ge 65, 3) := by decide +kernel
theorem dX8_isText_11 : decode cX8_isText 11 = .ok (.aload_n 0, 1) := by decide +kernel
theorem dX8_isText_12 : decode cX8_isText 12 = .ok (.invokevirtual 168, 3) := by decide +kernel
theorem dX8_isText_15 : decode cX8_isText 15 = .ok (.bipush 6, 2) := by decide +kernel
theorem dX8_isText_17 : decode cX8_isText 17 = .ok (.iload_n 1, 1) := by decide +kernel
theorem dX8_isText_18 : decode cX8_isText 18 = .ok (.iadd, 1) := by decide +kernel
theorem dX8_isText_19 : decode cX8_isText 19 = .ok (.if_icmp .eq 5, 3) := by decide +kernel
theorem dX8_isText_22 : decode cX8_isText 22 = .ok (.iconst 0, 1) := by decide +kernel
theorem dX8_isText_23 : decode cX8_isText 23 = .ok (.ireturn, 1) := by decide +kernel
theorem dX8_isText_24 : decode cX8_isText 24 = .ok (.aload_n 0, 1) := by decide +kernel
theorem dX8_isText_25 : decode cX8_isText 25 = .ok (.invokevirtual 183, 3) := by decide +kernel
theorem dX8_isText_28 : decode cX8_isText 28 = .ok (.aload_n 0, 1) := by decide +kernel
theorem dX8_isText_29 : decode cX8_isText 29 = .ok (.invokevirtual 192, 3) := by decide +kernel
theorem dX8_isText_32 : decode cX8_isText 32 = .ok (.ifCond .eq 12, 3) := by decide +kernel
theorem dX8_isText_35 : decode cX8_isText 35 = .ok (.aload_n 0, 1) := by decide +kernel
theorem dX8_isText_36 : decode cX8_isText 36 = .ok (.bipush 59, 2) := by decide +kernel
theorem dX8_isText_38 : decode cX8_isText 38 = .ok (.invokevirtual 171, 3) := by decide +kernel
theorem dX8_isText_41 : decode cX8_isText 41 = .ok (.ifCond .ne 5, 3) := by decide +kernel
theorem dX8_isText_44 : decode cX8_isText 44 = .ok (.iconst 0, 1) := by decide +kernel
theorem dX8_isText_45 : decode cX8_isText 45 = .ok (.ireturn, 1) := by decide +kernel
theorem dX8_isText_46 : decode cX8_isText 46 = .ok (.aload_n 0, 1) := by decide +kernel
theorem dX8_isText_47 : decode cX8_isText 47 = .ok (.getfield 28, 3) := by decide +kernel
theorem dX8_isText_50 : decode cX8_isText 50 = .ok (.iconst 3, 1) := by decide +kernel
theorem dX8_isText_51 : decode cX8_isText 51 = .ok (.aload_n 0, 1) := by decide +kernel
theorem dX8_isText_52 : decode cX8_isText 52 = .ok (.getfield 35, 3) := by decide +kernel
theorem dX8_isText_55 : decode cX8_isText 55 = .ok (.imul, 1) := by decide +kernel
theorem dX8_isText_56 : decode cX8_isText 56 = .ok (.iload_n 1, 1) := by decide +kernel
theorem dX8_isText_57 : decode cX8_isText 57 = .ok (.iadd, 1) := by decide +kernel
theorem dX8_isText_58 : decode cX8_isText 58 = .ok (.aload_n 0, 1) := by decide +kernel
theorem dX8_isText_59 : decode cX8_isText 59 = .ok (.getfield 149, 3) := by decide +kernel
theorem dX8_isText_62 : decode cX8_isText 62 = .ok (.iastore, 1) := by decide +kernel
theorem dX8_isText_63 : decode cX8_isText 63 = .ok (.aload_n 0, 1) := by decide +kernel
theorem dX8_isText_64 : decode cX8_isText 64 = .ok (.invokevirtual 183, 3) := by decide +kernel
theorem dX8_isText_67 : decode cX8_isText 67 = .ok (.iinc 1 1, 3) := by decide +kernel
theorem dX8_isText_70 : decode cX8_isText 70 = .ok (.goto (-64), 3) := by decide +kernel
theorem dX8_isText_73 : decode cX8_isText 73 = .ok (.aload_n 0, 1) := by decide +kernel
theorem dX8_isText_74 : decode cX8_isText 74 = .ok (.getfield 146, 3) := by decide +kernel
theorem dX8_isText_77 : decode cX8_isText 77 = .ok (.ifCond .ne 7, 3) := by decide +kernel
theorem dX8_isText_80 : decode cX8_isText 80 = .ok (.iconst 1, 1) := by decide +kernel
theorem dX8_isText_81 : decode cX8_isText 81 = .ok (.goto 4, 3) := by decide +kernel
theorem dX8_isText_84 : decode cX8_isText 84 = .ok (.iconst 0, 1) := by decide +kernel
theorem dX8_isText_85 : decode cX8_isText 85 = .ok (.ireturn, 1) := by decide +kernel
theorem dX8_text_0 : decode cX8_text 0 = .ok (.aload_n 0, 1) := by decide +kernel
theorem dX8_text_1 : decode cX8_text 1 = .ok (.getfield 35, 3) := by decide +kernel
theorem dX8_text_4 : decode cX8_text 4 = .ok (.bipush 6, 2) := by decide +kernel
theorem dX8_text_6 : decode cX8_text 6 = .ok (.if_icmp .ne 6, 3) := by decide +kernel
theorem dX8_text_9 : decode cX8_text 9 = .ok (.bipush (-4), 2) := by decide +kernel
theorem dX8_text_11 : decode cX8_text 11 = .ok (.ireturn, 1) := by decide +kernel
theorem dX8_text_12 : decode cX8_text 12 = .ok (.aload_n 0, 1) := by decide +kernel
theorem dX8_text_13 : decode cX8_text 13 = .ok (.iconst 0, 1) := by decide +kernel
theorem dX8_text_14 : decode cX8_text 14 = .ok (.putfield 137, 3) := by decide +kernel
theorem dX8_text_17 : decode cX8_text 17 = .ok (.aload_n 0, 1) := by decide +kernel
theorem dX8_text_18 : decode cX8_text 18 = .ok (.iconst 0, 1) := by decide +kernel
theorem dX8_text_19 : decode cX8_text 19 = .ok (.putfield 165, 3) := by decide +kernel
theorem dX8_text_22 : decode cX8_text 22 = .ok (.aload_n 0, 1) := by decide +kernel
theorem dX8_text_23 : decode cX8_text 23 = .ok (.iconst 0, 1) := by decide +kernel
theorem dX8_text_24 : decode cX8_text 24 = .ok (.putfield 149, 3) := by decide +kernel
theorem dX8_text_27 : decode cX8_text 27 = .ok (.aload_n 0, 1) := by decide +kernel
theorem dX8_text_28 : decode cX8_text 28 = .ok (.invokevirtual 196, 3) := by decide +kernel
theorem dX8_text_31 : decode cX8_text 31 = .ok (.istore_n 1, 1) := by decide +kernel
theorem dX8_text_32 : decode cX8_text 32 = .ok (.aload_n 0, 1) := by decide +kernel
theorem dX8_text_33 : decode cX8_text 33 = .ok (.iconst 0, 1) := by decide +kernel
theorem dX8_text_34 : decode cX8_text 34 = .ok (.putfield 134, 3) := by decide +kernel
theorem dX8_text_37 : decode cX8_text 37 = .ok (.iload_n 1, 1) := by decide +kernel
theorem dX8_text_38 : decode cX8_text 38 = .ok (.ifCond .ne 11, 3) := by decide +kernel
theorem dX8_text_41 : decode cX8_text 41 = .ok (.bipush (-100), 2) := by decide +kernel
theorem dX8_text_43 : decode cX8_text 43 = .ok (.aload_n 0, 1) := by decide +kernel
theorem dX8_text_44 : decode cX8_text 44 = .ok (.getfield 140, 3) := by decide +kernel
theorem dX8_text_47 : decode cX8_text 47 = .ok (.isub, 1) := by decide +kernel
theorem dX8_text_48 : decode cX8_text 48 = .ok (.ireturn, 1) := by decide +kernel
theorem dX8_text_49 : decode cX8_text 49 = .ok (.aload_n 0, 1) := by decide +kernel
theorem dX8_text_50 : decode cX8_text 50 = .ok (.dup, 1) := by decide +kernel
theorem dX8_text_51 : decode cX8_text 51 = .ok (.getfield 35, 3) := by decide +kernel
theorem dX8_text_54 : decode cX8_text 54 = .ok (.iconst 1, 1) := by decide +kernel
theorem dX8_text_55 : decode cX8_text 55 = .ok (.iadd, 1) := by decide +kernel
theorem dX8_text_56 : decode cX8_text 56 = .ok (.putfield 35, 3) := by decide +kernel
theorem dX8_text_59 : decode cX8_text 59 = .ok (.aload_n 0, 1) := by decide +kernel
theorem dX8_text_60 : decode cX8_text 60 = .ok (.getfield 35, 3) := by decide +kernel
theorem dX8_text_63 : decode cX8_text 63 = .ok (.iconst 1, 1) := by decide +kernel
theorem dX8_text_64 : decode cX8_text 64 = .ok (.isub, 1) := by decide +kernel
theorem dX8_text_65 : decode cX8_text 65 = .ok (.ireturn, 1) := by decide +kernel
theorem dX8_force_0 : decode cX8_force 0 = .ok (.iload_n 1, 1) := by decide +kernel
theorem dX8_force_1 : decode cX8_force 1 = .ok (.iconst 0, 1) := by decide +kernel
theorem dX8_force_2 : decode cX8_force 2 = .ok (.aload_n 0, 1) := by decide +kernel
theorem dX8_force_3 : decode cX8_force 3 = .ok (.getfield 35, 3) := by decide +kernel
theorem dX8_force_6 : decode cX8_force 6 = .ok (.iconst 1, 1) := by decide +kernel
theorem dX8_force_7 : decode cX8_force 7 = .ok (.isub, 1) := by decide +kernel
theorem dX8_force_8 : decode cX8_force 8 = .ok (.invokestatic 89, 3) := by decide +kernel
theorem dX8_force_11 : decode cX8_force 11 = .ok (.ifCond .ne 6, 3) := by decide +kernel
theorem dX8_force_14 : decode cX8_force 14 = .ok (.bipush (-2), 2) := by decide +kernel
theorem dX8_force_16 : decode cX8_force 16 = .ok (.ireturn, 1) := by decide +kernel
theorem dX8_force_17 : decode cX8_force 17 = .ok (.aload_n 0, 1) := by decide +kernel
theorem dX8_force_18 : decode cX8_force 18 = .ok (.getfield 7, 3) := by decide +kernel
theorem dX8_force_21 : decode cX8_force 21 = .ok (.bipush 57, 2) := by decide +kernel
theorem dX8_force_23 : decode cX8_force 23 = .ok (.iaload, 1) := by decide +kernel
theorem dX8_force_24 : decode cX8_force 24 = .ok (.istore_n 2, 1) := by decide +kernel
theorem dX8_force_25 : decode cX8_force 25 = .ok (.aload_n 0, 1) := by decide +kernel
theorem dX8_force_26 : decode cX8_force 26 = .ok (.getfield 7, 3) := by decide +kernel
theorem dX8_force_29 : decode cX8_force 29 = .ok (.bipush 57, 2) := by decide +kernel
theorem dX8_force_31 : decode cX8_force 31 = .ok (.iload_n 1, 1) := by decide +kernel
theorem dX8_force_32 : decode cX8_force 32 = .ok (.iastore, 1) := by decide +kernel
theorem dX8_force_33 : decode cX8_force 33 = .ok (.iload_n 2, 1) := by decide +kernel
theorem dX8_force_34 : decode cX8_force 34 = .ok (.ireturn, 1) := by decide +kernel
theorem dX8_yes_0 : decode cX8_yes 0 = .ok (.iload_n 0, 1) := by decide +kernel
theorem dX8_yes_1 : decode cX8_yes 1 = .ok (.ifCond .eq 7, 3) := by decide +kernel
theorem dX8_yes_4 : decode cX8_yes 4 = .ok (.iconst 1, 1) := by decide +kernel
theorem dX8_yes_5 : decode cX8_yes 5 = .ok (.goto 4, 3) := by decide +kernel
theorem dX8_yes_8 : decode cX8_yes 8 = .ok (.iconst 0, 1) := by decide +kernel
theorem dX8_yes_9 : decode cX8_yes 9 = .ok (.ireturn, 1) := by decide +kernel
theorem dX8_deed_0 : decode cX8_deed 0 = .ok (.iload_n 0, 1) := by decide +kernel
theorem dX8_deed_1 : decode cX8_deed 1 = .ok (.tableswitch 113 (-26) (-20) #[109, 105, 91, 77, 113, 60, 43], 43) := by decide +kernel
theorem dX8_deed_44 : decode cX8_deed 44 = .ok (.iload_n 1, 1) := by decide +kernel
theorem dX8_deed_45 : decode cX8_deed 45 = .ok (.ifCond .ne 7, 3) := by decide +kernel
theorem dX8_deed_48 : decode cX8_deed 48 = .ok (.iload_n 2, 1) := by decide +kernel
theorem dX8_deed_49 : decode cX8_deed 49 = .ok (.ifCond .eq 7, 3) := by decide +kernel
theorem dX8_deed_52 : decode cX8_deed 52 = .ok (.iconst 1, 1) := by decide +kernel
theorem dX8_deed_53 : decode cX8_deed 53 = .ok (.goto 4, 3) := by decide +kernel
theorem dX8_deed_56 : decode cX8_deed 56 = .ok (.iconst 0, 1) := by decide +kernel
theorem dX8_deed_57 : decode cX8_deed 57 = .ok (.invokestatic 199, 3) := by decide +kernel
theorem dX8_deed_60 : decode cX8_deed 60 = .ok (.ireturn, 1) := by decide +kernel
theorem dX8_deed_61 : decode cX8_deed 61 = .ok (.iload_n 1, 1) := by decide +kernel
theorem dX8_deed_62 : decode cX8_deed 62 = .ok (.ifCond .eq 11, 3) := by decide +kernel
theorem dX8_deed_65 : decode cX8_deed 65 = .ok (.iload_n 2, 1) := by decide +kernel
theorem dX8_deed_66 : decode cX8_deed 66 = .ok (.ifCond .eq 7, 3) := by decide +kernel
theorem dX8_deed_69 : decode cX8_deed 69 = .ok (.iconst 1, 1) := by decide +kernel
theorem dX8_deed_70 : decode cX8_deed 70 = .ok (.goto 4, 3) := by decide +kernel
theorem dX8_deed_73 : decode cX8_deed 73 = .ok (.iconst 0, 1) := by decide +kernel
theorem dX8_deed_74 : decode cX8_deed 74 = .ok (.invokestatic 199, 3) := by decide +kernel
theorem dX8_deed_77 : decode cX8_deed 77 = .ok (.ireturn, 1) := by decide +kernel
theorem dX8_deed_78 : decode cX8_deed 78 = .ok (.iload_n 1, 1) := by decide +kernel
theorem dX8_deed_79 : decode cX8_deed 79 = .ok (.iload_n 2, 1) := by decide +kernel
theorem dX8_deed_80 : decode cX8_deed 80 = .ok (.if_icmp .ge 7, 3) := by decide +kernel
theorem dX8_deed_83 : decode cX8_deed 83 = .ok (.iconst 1, 1) := by decide +kernel
theorem dX8_deed_84 : decode cX8_deed 84 = .ok (.goto 4, 3) := by decide +kernel
theorem dX8_deed_87 : decode cX8_deed 87 = .ok (.iconst 0, 1) := by decide +kernel
theorem dX8_deed_88 : decode cX8_deed 88 = .ok (.invokestatic 199, 3) := by decide +kernel
theorem dX8_deed_91 : decode cX8_deed 91 = .ok (.ireturn, 1) := by decide +kernel
theorem dX8_deed_92 : decode cX8_deed 92 = .ok (.iload_n 1, 1) := by decide +kernel
theorem dX8_deed_93 : decode cX8_deed 93 = .ok (.iload_n 2, 1) := by decide +kernel
theorem dX8_deed_94 : decode cX8_deed 94 = .ok (.if_icmp .ne 7, 3) := by decide +kernel
theorem dX8_deed_97 : decode cX8_deed 97 = .ok (.iconst 1, 1) := by decide +kernel
theorem dX8_deed_98 : decode cX8_deed 98 = .ok (.goto 4, 3) := by decide +kernel
theorem dX8_deed_101 : decode cX8_deed 101 = .ok (.iconst 0, 1) := by decide +kernel
theorem dX8_deed_102 : decode cX8_deed 102 = .ok (.invokestatic 199, 3) := by decide +kernel
theorem dX8_deed_105 : decode cX8_deed 105 = .ok (.ireturn, 1) := by decide +kernel
theorem dX8_deed_106 : decode cX8_deed 106 = .ok (.iload_n 1, 1) := by decide +kernel
theorem dX8_deed_107 : decode cX8_deed 107 = .ok (.iload_n 2, 1) := by decide +kernel
theorem dX8_deed_108 : decode cX8_deed 108 = .ok (.iadd, 1) := by decide +kernel
theorem dX8_deed_109 : decode cX8_deed 109 = .ok (.ireturn, 1) := by decide +kernel
theorem dX8_deed_110 : decode cX8_deed 110 = .ok (.iload_n 1, 1) := by decide +kernel
theorem dX8_deed_111 : decode cX8_deed 111 = .ok (.iload_n 2, 1) := by decide +kernel
theorem dX8_deed_112 : decode cX8_deed 112 = .ok (.isub, 1) := by decide +kernel
theorem dX8_deed_113 : decode cX8_deed 113 = .ok (.ireturn, 1) := by decide +kernel
theorem dX8_deed_114 : decode cX8_deed 114 = .ok (.iload_n 1, 1) := by decide +kernel
theorem dX8_deed_115 : decode cX8_deed 115 = .ok (.iload_n 2, 1) := by decide +kernel
theorem dX8_deed_116 : decode cX8_deed 116 = .ok (.imul, 1) := by decide +kernel
theorem dX8_deed_117 : decode cX8_deed 117 = .ok (.ireturn, 1) := by decide +kernel
theorem dX8_tell_0 : decode cX8_tell 0 = .ok (.aload_n 0, 1) := by decide +kernel
theorem dX8_tell_1 : decode cX8_tell 1 = .ok (.getfield 7, 3) := by decide +kernel
theorem dX8_tell_4 : decode cX8_tell 4 = .ok (.bipush 57, 2) := by decide +kernel
theorem dX8_tell_6 : decode cX8_tell 6 = .ok (.iaload, 1) := by decide +kernel
theorem dX8_tell_7 : decode cX8_tell 7 = .ok (.istore 4, 2) := by decide +kernel
theorem dX8_tell_9 : decode cX8_tell 9 = .ok (.iload_n 1, 1) := by decide +kernel
theorem dX8_tell_10 : decode cX8_tell 10 = .ok (.ifCond .ne 7, 3) := by decide +kernel
theorem dX8_tell_13 : decode cX8_tell 13 = .ok (.iconst 0, 1) := by decide +kernel
theorem dX8_tell_14 : decode cX8_tell 14 = .ok (.goto 16, 3) := by decide +kernel
theorem dX8_tell_17 : decode cX8_tell 17 = .ok (.aload_n 0, 1) := by decide +kernel
theorem dX8_tell_18 : decode cX8_tell 18 = .ok (.getfield 28, 3) := by decide +kernel
theorem dX8_tell_21 : decode cX8_tell 21 = .ok (.iconst 3, 1) := by decide +kernel
theorem dX8_tell_22 : decode cX8_tell 22 = .ok (.iload 4, 2) := by decide +kernel
theorem dX8_tell_24 : decode cX8_tell 24 = .ok (.imul, 1) := by decide +kernel
theorem dX8_tell_25 : decode cX8_tell 25 = .ok (.iload_n 1, 1) := by decide +kernel
theorem dX8_tell_26 : decode cX8_tell 26 = .ok (.iadd, 1) := by decide +kernel
theorem dX8_tell_27 : decode cX8_tell 27 = .ok (.iconst 1, 1) := by decide +kernel
theorem dX8_tell_28 : decode cX8_tell 28 = .ok (.isub, 1) := by decide +kernel
theorem dX8_tell_29 : decode cX8_tell 29 = .ok (.iaload, 1) := by decide +kernel
theorem dX8_tell_30 : decode cX8_tell 30 = .ok (.istore 5, 2) := by decide +kernel
theorem dX8_tell_32 : decode cX8_tell 32 = .ok (.iconst 0, 1) := by decide +kernel
theorem dX8_tell_33 : decode cX8_tell 33 = .ok (.istore 6, 2) := by decide +kernel
theorem dX8_tell_35 : decode cX8_tell 35 = .ok (.iload 5, 2) := by decide +kernel
theorem dX8_tell_37 : decode cX8_tell 37 = .ok (.istore 7, 2) := by decide +kernel
theorem dX8_tell_39 : decode cX8_tell 39 = .ok (.iload 7, 2) := by decide +kernel
theorem dX8_tell_41 : decode cX8_tell 41 = .ok (.aload_n 0, 1) := by decide +kernel
theorem dX8_tell_42 : decode cX8_tell 42 = .ok (.getfield 28, 3) := by decide +kernel
theorem dX8_tell_45 : decode cX8_tell 45 = .ok (.iconst 3, 1) := by decide +kernel
theorem dX8_tell_46 : decode cX8_tell 46 = .ok (.iload 4, 2) := by decide +kernel
theorem dX8_tell_48 : decode cX8_tell 48 = .ok (.imul, 1) := by decide +kernel
theorem dX8_tell_49 : decode cX8_tell 49 = .ok (.iload_n 1, 1) := by decide +kernel
theorem dX8_tell_50 : decode cX8_tell 50 = .ok (.iadd, 1) := by decide +kernel
theorem dX8_tell_51 : decode cX8_tell 51 = .ok (.iaload, 1) := by decide +kernel
theorem dX8_tell_52 : decode cX8_tell 52 = .ok (.if_icmp .ge 266, 3) := by decide +kernel
theorem dX8_tell_55 : decode cX8_tell 55 = .ok (.aload_n 0, 1) := by decide +kernel
theorem dX8_tell_56 : decode cX8_tell 56 = .ok (.getfield 25, 3) := by decide +kernel
theorem dX8_tell_59 : decode cX8_tell 59 = .ok (.sipush 160, 3) := by decide +kernel
theorem dX8_tell_62 : decode cX8_tell 62 = .ok (.iload 4, 2) := by decide +kernel
theorem dX8_tell_64 : decode cX8_tell 64 = .ok (.imul, 1) := by decide +kernel
theorem dX8_tell_65 : decode cX8_tell 65 = .ok (.iload 7, 2) := by decide +kernel
theorem dX8_tell_67 : decode cX8_tell 67 = .ok (.iadd, 1) := by decide +kernel
theorem dX8_tell_68 : decode cX8_tell 68 = .ok (.iaload, 1) := by decide +kernel
theorem dX8_tell_69 : decode cX8_tell 69 = .ok (.istore 8, 2) := by decide +kernel
theorem dX8_tell_71 : decode cX8_tell 71 = .ok (.iload 8, 2) := by decide +kernel
theorem dX8_tell_73 : decode cX8_tell 73 = .ok (.ifCond .lt 18, 3) := by decide +kernel
theorem dX8_tell_76 : decode cX8_tell 76 = .ok (.aload_n 0, 1) := by decide +kernel
theorem dX8_tell_77 : decode cX8_tell 77 = .ok (.getfield 46, 3) := by decide +kernel
theorem dX8_tell_80 : decode cX8_tell 80 = .ok (.iload 6, 2) := by decide +kernel
theorem dX8_tell_82 : decode cX8_tell 82 = .ok (.iload 8, 2) := by decide +kernel
theorem dX8_tell_84 : decode cX8_tell 84 = .ok (.iastore, 1) := by decide +kernel
theorem dX8_tell_85 : decode cX8_tell 85 = .ok (.iinc 6 1, 3) := by decide +kernel
theorem dX8_tell_88 : decode cX8_tell 88 = .ok (.goto 224, 3) := by decide +kernel
theorem dX8_tell_91 : decode cX8_tell 91 = .ok (.iload 8, 2) := by decide +kernel
theorem dX8_tell_93 : decode cX8_tell 93 = .ok (.bipush (-20), 2) := by decide +kernel
theorem dX8_tell_95 : decode cX8_tell 95 = .ok (.if_icmp .le 116, 3) := by decide +kernel
theorem dX8_tell_98 : decode cX8_tell 98 = .ok (.bipush (-10), 2) := by decide +kernel
theorem dX8_tell_100 : decode cX8_tell 100 = .ok (.iload 8, 2) := by decide +kernel
theorem dX8_tell_102 : decode cX8_tell 102 = .ok (.isub, 1) := by decide +kernel
theorem dX8_tell_103 : decode cX8_tell 103 = .ok (.istore 9, 2) := by decide +kernel
theorem dX8_tell_105 : decode cX8_tell 105 = .ok (.aload_n 0, 1) := by decide +kernel
theorem dX8_tell_106 : decode cX8_tell 106 = .ok (.getfield 46, 3) := by decide +kernel
theorem dX8_tell_109 : decode cX8_tell 109 = .ok (.iload 6, 2) := by decide +kernel
theorem dX8_tell_111 : decode cX8_tell 111 = .ok (.iload 9, 2) := by decide +kernel
theorem dX8_tell_113 : decode cX8_tell 113 = .ok (.ifCond .ne 24, 3) := by decide +kernel
theorem dX8_tell_116 : decode cX8_tell 116 = .ok (.iload_n 2, 1) := by decide +kernel
theorem dX8_tell_117 : decode cX8_tell 117 = .ok (.iload_n 3, 1) := by decide +kernel
theorem dX8_tell_118 : decode cX8_tell 118 = .ok (.if_icmp .ne 7, 3) := by decide +kernel
theorem dX8_tell_121 : decode cX8_tell 121 = .ok (.iconst 0, 1) := by decide +kernel
theorem dX8_tell_122 : decode cX8_tell 122 = .ok (.goto 82, 3) := by decide +kernel
theorem dX8_tell_125 : decode cX8_tell 125 = .ok (.aload_n 0, 1) := by decide +kernel
theorem dX8_tell_126 : decode cX8_tell 126 = .ok (.iload_n 2, 1) := by decide +kernel
theorem dX8_tell_127 : decode cX8_tell 127 = .ok (.bipush 6, 2) := by decide +kernel
theorem dX8_tell_129 : decode cX8_tell 129 = .ok (.iload_n 3, 1) := by decide +kernel
theorem dX8_tell_130 : decode cX8_tell 130 = .ok (.iadd, 1) := by decide +kernel
theorem dX8_tell_131 : decode cX8_tell 131 = .ok (.invokevirtual 111, 3) := by decide +kernel
theorem dX8_tell_134 : decode cX8_tell 134 = .ok (.goto 70, 3) := by decide +kernel
theorem dX8_tell_137 : decode cX8_tell 137 = .ok (.iload 9, 2) := by decide +kernel
theorem dX8_tell_139 : decode cX8_tell 139 = .ok (.iconst 1, 1) := by decide +kernel
theorem dX8_tell_140 : decode cX8_tell 140 = .ok (.if_icmp .ne 12, 3) := by decide +kernel
theorem dX8_tell_143 : decode cX8_tell 143 = .ok (.aload_n 0, 1) := by decide +kernel
theorem dX8_tell_144 : decode cX8_tell 144 = .ok (.iload_n 3, 1) := by decide +kernel
theorem dX8_tell_145 : decode cX8_tell 145 = .ok (.iconst 2, 1) := by decide +kernel
theorem dX8_tell_146 : decode cX8_tell 146 = .ok (.invokevirtual 111, 3) := by decide +kernel
theorem dX8_tell_149 : decode cX8_tell 149 = .ok (.goto 55, 3) := by decide +kernel
theorem dX8_tell_152 : decode cX8_tell 152 = .ok (.iload 9, 2) := by decide +kernel
theorem dX8_tell_154 : decode cX8_tell 154 = .ok (.iconst 2, 1) := by decide +kernel
theorem dX8_tell_155 : decode cX8_tell 155 = .ok (.if_icmp .ne 12, 3) := by decide +kernel
theorem dX8_tell_158 : decode cX8_tell 158 = .ok (.aload_n 0, 1) := by decide +kernel
theorem dX8_tell_159 : decode cX8_tell 159 = .ok (.iload_n 2, 1) := by decide +kernel
theorem dX8_tell_160 : decode cX8_tell 160 = .ok (.iconst 1, 1) := by decide +kernel
theorem dX8_tell_161 : decode cX8_tell 161 = .ok (.invokevirtual 111, 3) := by decide +kernel
theorem dX8_tell_164 : decode cX8_tell 164 = .ok (.goto 40, 3) := by decide +kernel
theorem dX8_tell_167 : decode cX8_tell 167 = .ok (.iload 9, 2) := by decide +kernel
theorem dX8_tell_169 : decode cX8_tell 169 = .ok (.iconst 3, 1) := by decide +kernel
theorem dX8_tell_170 : decode cX8_tell 170 = .ok (.if_icmp .ne 13, 3) := by decide +kernel
theorem dX8_tell_173 : decode cX8_tell 173 = .ok (.aload_n 0, 1) := by decide +kernel
theorem dX8_tell_174 : decode cX8_tell 174 = .ok (.getfield 7, 3) := by decide +kernel
theorem dX8_tell_177 : decode cX8_tell 177 = .ok (.bipush 56, 2) := by decide +kernel
theorem dX8_tell_179 : decode cX8_tell 179 = .ok (.iaload, 1) := by decide +kernel
theorem dX8_tell_180 : decode cX8_tell 180 = .ok (.goto 24, 3) := by decide +kernel
theorem dX8_tell_183 : decode cX8_tell 183 = .ok (.iload 9, 2) := by decide +kernel
theorem dX8_tell_185 : decode cX8_tell 185 = .ok (.iconst 4, 1) := by decide +kernel
theorem dX8_tell_186 : decode cX8_tell 186 = .ok (.if_icmp .ne 12, 3) := by decide +kernel
theorem dX8_tell_189 : decode cX8_tell 189 = .ok (.aload_n 0, 1) := by decide +kernel
theorem dX8_tell_190 : decode cX8_tell 190 = .ok (.iload_n 2, 1) := by decide +kernel
theorem dX8_tell_191 : decode cX8_tell 191 = .ok (.iconst 3, 1) := by decide +kernel
theorem dX8_tell_192 : decode cX8_tell 192 = .ok (.invokevirtual 111, 3) := by decide +kernel
theorem dX8_tell_195 : decode cX8_tell 195 = .ok (.goto 9, 3) := by decide +kernel
theorem dX8_tell_198 : decode cX8_tell 198 = .ok (.aload_n 0, 1) := by decide +kernel
theorem dX8_tell_199 : decode cX8_tell 199 = .ok (.iload_n 3, 1) := by decide +kernel
theorem dX8_tell_200 : decode cX8_tell 200 = .ok (.iconst 4, 1) := by decide +kernel
theorem dX8_tell_201 : decode cX8_tell 201 = .ok (.invokevirtual 111, 3) := by decide +kernel
theorem dX8_tell_204 : decode cX8_tell 204 = .ok (.iastore, 1) := by decide +kernel
theorem dX8_tell_205 : decode cX8_tell 205 = .ok (.iinc 6 1, 3) := by decide +kernel
theorem dX8_tell_208 : decode cX8_tell 208 = .ok (.goto 104, 3) := by decide +kernel
theorem dX8_tell_211 : decode cX8_tell 211 = .ok (.iload 8, 2) := by decide +kernel
theorem dX8_tell_213 : decode cX8_tell 213 = .ok (.bipush (-22), 2) := by decide +kernel
theorem dX8_tell_215 : decode cX8_tell 215 = .ok (.if_icmp .ne 35, 3) := by decide +kernel
theorem dX8_tell_218 : decode cX8_tell 218 = .ok (.aload_n 0, 1) := by decide +kernel
theorem dX8_tell_219 : decode cX8_tell 219 = .ok (.getfield 46, 3) := by decide +kernel
theorem dX8_tell_222 : decode cX8_tell 222 = .ok (.iload 6, 2) := by decide +kernel
theorem dX8_tell_224 : decode cX8_tell 224 = .ok (.iconst 1, 1) := by decide +kernel
theorem dX8_tell_225 : decode cX8_tell 225 = .ok (.isub, 1) := by decide +kernel
theorem dX8_tell_226 : decode cX8_tell 226 = .ok (.aload_n 0, 1) := by decide +kernel
theorem dX8_tell_227 : decode cX8_tell 227 = .ok (.getfield 46, 3) := by decide +kernel
theorem dX8_tell_230 : decode cX8_tell 230 = .ok (.iload 6, 2) := by decide +kernel
theorem dX8_tell_232 : decode cX8_tell 232 = .ok (.iconst 1, 1) := by decide +kernel
theorem dX8_tell_233 : decode cX8_tell 233 = .ok (.isub, 1) := by decide +kernel
theorem dX8_tell_234 : decode cX8_tell 234 = .ok (.iaload, 1) := by decide +kernel
theorem dX8_tell_235 : decode cX8_tell 235 = .ok (.ifCond .ne 7, 3) := by decide +kernel
theorem dX8_tell_238 : decode cX8_tell 238 = .ok (.iconst 1, 1) := by decide +kernel
theorem dX8_tell_239 : decode cX8_tell 239 = .ok (.goto 4, 3) := by decide +kernel
theorem dX8_tell_242 : decode cX8_tell 242 = .ok (.iconst 0, 1) := by decide +kernel
theorem dX8_tell_243 : decode cX8_tell 243 = .ok (.invokestatic 199, 3) := by decide +kernel
theorem dX8_tell_246 : decode cX8_tell 246 = .ok (.iastore, 1) := by decide +kernel
theorem dX8_tell_247 : decode cX8_tell 247 = .ok (.goto 65, 3) := by decide +kernel
theorem dX8_tell_250 : decode cX8_tell 250 = .ok (.iload 8, 2) := by decide +kernel
theorem dX8_tell_252 : decode cX8_tell 252 = .ok (.bipush (-28), 2) := by decide +kernel
theorem dX8_tell_254 : decode cX8_tell 254 = .ok (.if_icmp .ne 25, 3) := by decide +kernel
theorem dX8_tell_257 : decode cX8_tell 257 = .ok (.aload_n 0, 1) := by decide +kernel
theorem dX8_tell_258 : decode cX8_tell 258 = .ok (.getfield 46, 3) := by decide +kernel
theorem dX8_tell_261 : decode cX8_tell 261 = .ok (.iload 6, 2) := by decide +kernel
theorem dX8_tell_263 : decode cX8_tell 263 = .ok (.iconst 1, 1) := by decide +kernel
theorem dX8_tell_264 : decode cX8_tell 264 = .ok (.isub, 1) := by decide +kernel
theorem dX8_tell_265 : decode cX8_tell 265 = .ok (.aload_n 0, 1) := by decide +kernel
theorem dX8_tell_266 : decode cX8_tell 266 = .ok (.getfield 46, 3) := by decide +kernel
theorem dX8_tell_269 : decode cX8_tell 269 = .ok (.iload 6, 2) := by decide +kernel
theorem dX8_tell_271 : decode cX8_tell 271 = .ok (.iconst 1, 1) := by decide +kernel
theorem dX8_tell_272 : decode cX8_tell 272 = .ok (.isub, 1) := by decide +kernel
theorem dX8_tell_273 : decode cX8_tell 273 = .ok (.iaload, 1) := by decide +kernel
theorem dX8_tell_274 : decode cX8_tell 274 = .ok (.ineg, 1) := by decide +kernel
theorem dX8_tell_275 : decode cX8_tell 275 = .ok (.iastore, 1) := by decide +kernel
theorem dX8_tell_276 : decode cX8_tell 276 = .ok (.goto 36, 3) := by decide +kernel
theorem dX8_tell_279 : decode cX8_tell 279 = .ok (.iinc 6 (-1), 3) := by decide +kernel
theorem dX8_tell_282 : decode cX8_tell 282 = .ok (.aload_n 0, 1) := by decide +kernel
theorem dX8_tell_283 : decode cX8_tell 283 = .ok (.getfield 46, 3) := by decide +kernel
theorem dX8_tell_286 : decode cX8_tell 286 = .ok (.iload 6, 2) := by decide +kernel
theorem dX8_tell_288 : decode cX8_tell 288 = .ok (.iconst 1, 1) := by decide +kernel
theorem dX8_tell_289 : decode cX8_tell 289 = .ok (.isub, 1) := by decide +kernel
theorem dX8_tell_290 : decode cX8_tell 290 = .ok (.iload 8, 2) := by decide +kernel
theorem dX8_tell_292 : decode cX8_tell 292 = .ok (.aload_n 0, 1) := by decide +kernel
theorem dX8_tell_293 : decode cX8_tell 293 = .ok (.getfield 46, 3) := by decide +kernel
theorem dX8_tell_296 : decode cX8_tell 296 = .ok (.iload 6, 2) := by decide +kernel
theorem dX8_tell_298 : decode cX8_tell 298 = .ok (.iconst 1, 1) := by decide +kernel
theorem dX8_tell_299 : decode cX8_tell 299 = .ok (.isub, 1) := by decide +kernel
theorem dX8_tell_300 : decode cX8_tell 300 = .ok (.iaload, 1) := by decide +kernel
theorem dX8_tell_301 : decode cX8_tell 301 = .ok (.aload_n 0, 1) := by decide +kernel
theorem dX8_tell_302 : decode cX8_tell 302 = .ok (.getfield 46, 3) := by decide +kernel
theorem dX8_tell_305 : decode cX8_tell 305 = .ok (.iload 6, 2) := by decide +kernel
theorem dX8_tell_307 : decode cX8_tell 307 = .ok (.iaload, 1) := by decide +kernel
theorem dX8_tell_308 : decode cX8_tell 308 = .ok (.invokestatic 203, 3) := by decide +kernel
theorem dX8_tell_311 : decode cX8_tell 311 = .ok (.iastore, 1) := by decide +kernel
theorem dX8_tell_312 : decode cX8_tell 312 = .ok (.iinc 7 1, 3) := by decide +kernel
theorem dX8_tell_315 : decode cX8_tell 315 = .ok (.goto (-276), 3) := by decide +kernel
theorem dX8_tell_318 : decode cX8_tell 318 = .ok (.aload_n 0, 1) := by decide +kernel
theorem dX8_tell_319 : decode cX8_tell 319 = .ok (.getfield 46, 3) := by decide +kernel
theorem dX8_tell_322 : decode cX8_tell 322 = .ok (.iconst 0, 1) := by decide +kernel
theorem dX8_tell_323 : decode cX8_tell 323 = .ok (.iaload, 1) := by decide +kernel
theorem dX8_tell_324 : decode cX8_tell 324 = .ok (.ireturn, 1) := by decide +kernel
theorem dX8_sets_0 : decode cX8_sets 0 = .ok (.aload_n 0, 1) := by decide +kernel
theorem dX8_sets_1 : decode cX8_sets 1 = .ok (.iconst 0, 1) := by decide +kernel
theorem dX8_sets_2 : decode cX8_sets 2 = .ok (.iload_n 1, 1) := by decide +kernel
theorem dX8_sets_3 : decode cX8_sets 3 = .ok (.iload_n 2, 1) := by decide +kernel
theorem dX8_sets_4 : decode cX8_sets 4 = .ok (.invokevirtual 207, 3) := by decide +kernel
theorem dX8_sets_7 : decode cX8_sets 7 = .ok (.iconst 0, 1) := by decide +kernel
theorem dX8_sets_8 : decode cX8_sets 8 = .ok (.bipush 99, 2) := by decide +kernel
theorem dX8_sets_10 : decode cX8_sets 10 = .ok (.invokestatic 210, 3) := by decide +kernel
theorem dX8_sets_13 : decode cX8_sets 13 = .ok (.istore_n 3, 1) := by decide +kernel
theorem dX8_sets_14 : decode cX8_sets 14 = .ok (.iload_n 3, 1) := by decide +kernel
theorem dX8_sets_15 : decode cX8_sets 15 = .ok (.istore 4, 2) := by decide +kernel
theorem dX8_sets_17 : decode cX8_sets 17 = .ok (.aload_n 0, 1) := by decide +kernel
theorem dX8_sets_18 : decode cX8_sets 18 = .ok (.iload_n 1, 1) := by decide +kernel
theorem dX8_sets_19 : decode cX8_sets 19 = .ok (.iconst 0, 1) := by decide +kernel
theorem dX8_sets_20 : decode cX8_sets 20 = .ok (.invokevirtual 111, 3) := by decide +kernel
theorem dX8_sets_23 : decode cX8_sets 23 = .ok (.tableswitch 102 1 5 #[33, 41, 49, 62, 91], 33) := by decide +kernel
theorem dX8_sets_56 : decode cX8_sets 56 = .ok (.iload_n 3, 1) := by decide +kernel
theorem dX8_sets_57 : decode cX8_sets 57 = .ok (.iconst 2, 1) := by decide +kernel
theorem dX8_sets_58 : decode cX8_sets 58 = .ok (.iadd, 1) := by decide +kernel
theorem dX8_sets_59 : decode cX8_sets 59 = .ok (.istore 4, 2) := by decide +kernel
theorem dX8_sets_61 : decode cX8_sets 61 = .ok (.goto 64, 3) := by decide +kernel
theorem dX8_sets_64 : decode cX8_sets 64 = .ok (.iload_n 3, 1) := by decide +kernel
theorem dX8_sets_65 : decode cX8_sets 65 = .ok (.iconst 2, 1) := by decide +kernel
theorem dX8_sets_66 : decode cX8_sets 66 = .ok (.idiv, 1) := by decide +kernel
theorem dX8_sets_67 : decode cX8_sets 67 = .ok (.istore 4, 2) := by decide +kernel
theorem dX8_sets_69 : decode cX8_sets 69 = .ok (.goto 56, 3) := by decide +kernel
theorem dX8_sets_72 : decode cX8_sets 72 = .ok (.bipush 9, 2) := by decide +kernel
theorem dX8_sets_74 : decode cX8_sets 74 = .ok (.iload_n 3, 1) := by decide +kernel
theorem dX8_sets_75 : decode cX8_sets 75 = .ok (.iconst 2, 1) := by decide +kernel
theorem dX8_sets_76 : decode cX8_sets 76 = .ok (.iadd, 1) := by decide +kernel
theorem dX8_sets_77 : decode cX8_sets 77 = .ok (.invokestatic 86, 3) := by decide +kernel
theorem dX8_sets_80 : decode cX8_sets 80 = .ok (.istore 4, 2) := by decide +kernel
theorem dX8_sets_82 : decode cX8_sets 82 = .ok (.goto 43, 3) := by decide +kernel
theorem dX8_sets_85 : decode cX8_sets 85 = .ok (.aload_n 0, 1) := by decide +kernel
theorem dX8_sets_86 : decode cX8_sets 86 = .ok (.getfield 7, 3) := by decide +kernel
theorem dX8_sets_89 : decode cX8_sets 89 = .ok (.bipush 56, 2) := by decide +kernel
theorem dX8_sets_91 : decode cX8_sets 91 = .ok (.iaload, 1) := by decide +kernel
theorem dX8_sets_92 : decode cX8_sets 92 = .ok (.iconst 3, 1) := by decide +kernel
theorem dX8_sets_93 : decode cX8_sets 93 = .ok (.irem, 1) := by decide +kernel
theorem dX8_sets_94 : decode cX8_sets 94 = .ok (.ifCond .ne 12, 3) := by decide +kernel
theorem dX8_sets_97 : decode cX8_sets 97 = .ok (.aload_n 0, 1) := by decide +kernel
theorem dX8_sets_98 : decode cX8_sets 98 = .ok (.iload_n 2, 1) := by decide +kernel
theorem dX8_sets_99 : decode cX8_sets 99 = .ok (.iconst 2, 1) := by decide +kernel
theorem dX8_sets_100 : decode cX8_sets 100 = .ok (.invokevirtual 111, 3) := by decide +kernel
theorem dX8_sets_103 : decode cX8_sets 103 = .ok (.goto 6, 3) := by decide +kernel
theorem dX8_sets_106 : decode cX8_sets 106 = .ok (.iload_n 3, 1) := by decide +kernel
theorem dX8_sets_107 : decode cX8_sets 107 = .ok (.iconst 2, 1) := by decide +kernel
theorem dX8_sets_108 : decode cX8_sets 108 = .ok (.idiv, 1) := by decide +kernel
theorem dX8_sets_109 : decode cX8_sets 109 = .ok (.istore 4, 2) := by decide +kernel
theorem dX8_sets_111 : decode cX8_sets 111 = .ok (.goto 14, 3) := by decide +kernel
theorem dX8_sets_114 : decode cX8_sets 114 = .ok (.aload_n 0, 1) := by decide +kernel
theorem dX8_sets_115 : decode cX8_sets 115 = .ok (.iload_n 1, 1) := by decide +kernel
theorem dX8_sets_116 : decode cX8_sets 116 = .ok (.iconst 1, 1) := by decide +kernel
theorem dX8_sets_117 : decode cX8_sets 117 = .ok (.invokevirtual 111, 3) := by decide +kernel
theorem dX8_sets_120 : decode cX8_sets 120 = .ok (.istore 4, 2) := by decide +kernel
theorem dX8_sets_122 : decode cX8_sets 122 = .ok (.goto 3, 3) := by decide +kernel
theorem dX8_sets_125 : decode cX8_sets 125 = .ok (.iload 4, 2) := by decide +kernel
theorem dX8_sets_127 : decode cX8_sets 127 = .ok (.iconst 0, 1) := by decide +kernel
theorem dX8_sets_128 : decode cX8_sets 128 = .ok (.bipush 23, 2) := by decide +kernel
theorem dX8_sets_130 : decode cX8_sets 130 = .ok (.invokestatic 210, 3) := by decide +kernel
theorem dX8_sets_133 : decode cX8_sets 133 = .ok (.ireturn, 1) := by decide +kernel
theorem dX8_tires_0 : decode cX8_tires 0 = .ok (.aload_n 0, 1) := by decide +kernel
theorem dX8_tires_1 : decode cX8_tires 1 = .ok (.iconst 1, 1) := by decide +kernel
theorem dX8_tires_2 : decode cX8_tires 2 = .ok (.iload_n 1, 1) := by decide +kernel
theorem dX8_tires_3 : decode cX8_tires 3 = .ok (.iload_n 1, 1) := by decide +kernel
theorem dX8_tires_4 : decode cX8_tires 4 = .ok (.invokevirtual 207, 3) := by decide +kernel
theorem dX8_tires_7 : decode cX8_tires 7 = .ok (.bipush (-99), 2) := by decide +kernel
theorem dX8_tires_9 : decode cX8_tires 9 = .ok (.bipush 99, 2) := by decide +kernel
theorem dX8_tires_11 : decode cX8_tires 11 = .ok (.invokestatic 210, 3) := by decide +kernel
theorem dX8_tires_14 : decode cX8_tires 14 = .ok (.istore_n 3, 1) := by decide +kernel
theorem dX8_tires_15 : decode cX8_tires 15 = .ok (.iload_n 3, 1) := by decide +kernel
theorem dX8_tires_16 : decode cX8_tires 16 = .ok (.iload_n 2, 1) := by decide +kernel
theorem dX8_tires_17 : decode cX8_tires 17 = .ok (.bipush 6, 2) := by decide +kernel
theorem dX8_tires_19 : decode cX8_tires 19 = .ok (.if_icmp .ge 12, 3) := by decide +kernel
theorem dX8_tires_22 : decode cX8_tires 22 = .ok (.aload_n 0, 1) := by decide +kernel
theorem dX8_tires_23 : decode cX8_tires 23 = .ok (.iload_n 1, 1) := by decide +kernel
theorem dX8_tires_24 : decode cX8_tires 24 = .ok (.iconst 1, 1) := by decide +kernel
theorem dX8_tires_25 : decode cX8_tires 25 = .ok (.invokevirtual 111, 3) := by decide +kernel
theorem dX8_tires_28 : decode cX8_tires 28 = .ok (.goto 4, 3) := by decide +kernel
theorem dX8_tires_31 : decode cX8_tires 31 = .ok (.iconst 0, 1) := by decide +kernel
theorem dX8_tires_32 : decode cX8_tires 32 = .ok (.iadd, 1) := by decide +kernel
theorem dX8_tires_33 : decode cX8_tires 33 = .ok (.istore 4, 2) := by decide +kernel
theorem dX8_tires_35 : decode cX8_tires 35 = .ok (.iload_n 3, 1) := by decide +kernel
theorem dX8_tires_36 : decode cX8_tires 36 = .ok (.istore 5, 2) := by decide +kernel
theorem dX8_tires_38 : decode cX8_tires 38 = .ok (.aload_n 0, 1) := by decide +kernel
theorem dX8_tires_39 : decode cX8_tires 39 = .ok (.iload_n 1, 1) := by decide +kernel
theorem dX8_tires_40 : decode cX8_tires 40 = .ok (.iconst 0, 1) := by decide +kernel
theorem dX8_tires_41 : decode cX8_tires 41 = .ok (.invokevirtual 111, 3) := by decide +kernel
theorem dX8_tires_44 : decode cX8_tires 44 = .ok (.tableswitch 94 1 5 #[36, 44, 51, 57, 73], 36) := by decide +kernel
theorem dX8_tires_80 : decode cX8_tires 80 = .ok (.iload_n 3, 1) := by decide +kernel
theorem dX8_tires_81 : decode cX8_tires 81 = .ok (.iconst 2, 1) := by decide +kernel
theorem dX8_tires_82 : decode cX8_tires 82 = .ok (.idiv, 1) := by decide +kernel
theorem dX8_tires_83 : decode cX8_tires 83 = .ok (.istore 5, 2) := by decide +kernel
theorem dX8_tires_85 : decode cX8_tires 85 = .ok (.goto 53, 3) := by decide +kernel
theorem dX8_tires_88 : decode cX8_tires 88 = .ok (.iload 4, 2) := by decide +kernel
theorem dX8_tires_90 : decode cX8_tires 90 = .ok (.istore 5, 2) := by decide +kernel
theorem dX8_tires_92 : decode cX8_tires 92 = .ok (.goto 46, 3) := by decide +kernel
theorem dX8_tires_95 : decode cX8_tires 95 = .ok (.iconst 0, 1) := by decide +kernel
theorem dX8_tires_96 : decode cX8_tires 96 = .ok (.istore 5, 2) := by decide +kernel
theorem dX8_tires_98 : decode cX8_tires 98 = .ok (.goto 40, 3) := by decide +kernel
theorem dX8_tires_101 : decode cX8_tires 101 = .ok (.iconst 2, 1) := by decide +kernel
theorem dX8_tires_102 : decode cX8_tires 102 = .ok (.iload 4, 2) := by decide +kernel
theorem dX8_tires_104 : decode cX8_tires 104 = .ok (.bipush (-99), 2) := by decide +kernel
theorem dX8_tires_106 : decode cX8_tires 106 = .ok (.bipush 99, 2) := by decide +kernel
theorem dX8_tires_108 : decode cX8_tires 108 = .ok (.invokestatic 210, 3) := by decide +kernel
theorem dX8_tires_111 : decode cX8_tires 111 = .ok (.imul, 1) := by decide +kernel
theorem dX8_tires_112 : decode cX8_tires 112 = .ok (.istore 5, 2) := by decide +kernel
theorem dX8_tires_114 : decode cX8_tires 114 = .ok (.goto 24, 3) := by decide +kernel
theorem dX8_tires_117 : decode cX8_tires 117 = .ok (.aload_n 0, 1) := by decide +kernel
theorem dX8_tires_118 : decode cX8_tires 118 = .ok (.iload_n 1, 1) := by decide +kernel
theorem dX8_tires_119 : decode cX8_tires 119 = .ok (.iconst 3, 1) := by decide +kernel
theorem dX8_tires_120 : decode cX8_tires 120 = .ok (.invokevirtual 111, 3) := by decide +kernel
theorem dX8_tires_123 : decode cX8_tires 123 = .ok (.bipush 50, 2) := by decide +kernel
theorem dX8_tires_125 : decode cX8_tires 125 = .ok (.if_icmp .ge 7, 3) := by decide +kernel
theorem dX8_tires_128 : decode cX8_tires 128 = .ok (.iload_n 3, 1) := by decide +kernel
theorem dX8_tires_129 : decode cX8_tires 129 = .ok (.goto 4, 3) := by decide +kernel
theorem dX8_tires_132 : decode cX8_tires 132 = .ok (.iconst 0, 1) := by decide +kernel
theorem dX8_tires_133 : decode cX8_tires 133 = .ok (.istore 5, 2) := by decide +kernel
theorem dX8_tires_135 : decode cX8_tires 135 = .ok (.goto 3, 3) := by decide +kernel
theorem dX8_tires_138 : decode cX8_tires 138 = .ok (.iload 5, 2) := by decide +kernel
theorem dX8_tires_140 : decode cX8_tires 140 = .ok (.bipush (-99), 2) := by decide +kernel
theorem dX8_tires_142 : decode cX8_tires 142 = .ok (.bipush 99, 2) := by decide +kernel
theorem dX8_tires_144 : decode cX8_tires 144 = .ok (.invokestatic 210, 3) := by decide +kernel
theorem dX8_tires_147 : decode cX8_tires 147 = .ok (.ireturn, 1) := by decide +kernel
theorem dX8_grows_0 : decode cX8_grows 0 = .ok (.aload_n 0, 1) := by decide +kernel
theorem dX8_grows_1 : decode cX8_grows 1 = .ok (.iconst 2, 1) := by decide +kernel
theorem dX8_grows_2 : decode cX8_grows 2 = .ok (.iload_n 1, 1) := by decide +kernel
theorem dX8_grows_3 : decode cX8_grows 3 = .ok (.iload_n 2, 1) := by decide +kernel
theorem dX8_grows_4 : decode cX8_grows 4 = .ok (.invokevirtual 207, 3) := by decide +kernel
theorem dX8_grows_7 : decode cX8_grows 7 = .ok (.bipush (-99), 2) := by decide +kernel
theorem dX8_grows_9 : decode cX8_grows 9 = .ok (.bipush 99, 2) := by decide +kernel
theorem dX8_grows_11 : decode cX8_grows 11 = .ok (.invokestatic 210, 3) := by decide +kernel
theorem dX8_grows_14 : decode cX8_grows 14 = .ok (.istore 4, 2) := by decide +kernel
theorem dX8_grows_16 : decode cX8_grows 16 = .ok (.aload_n 0, 1) := by decide +kernel
theorem dX8_grows_17 : decode cX8_grows 17 = .ok (.iload_n 1, 1) := by decide +kernel
theorem dX8_grows_18 : decode cX8_grows 18 = .ok (.iconst 0, 1) := by decide +kernel
theorem dX8_grows_19 : decode cX8_grows 19 = .ok (.invokevirtual 111, 3) := by decide +kernel
theorem dX8_grows_22 : decode cX8_grows 22 = .ok (.tableswitch 85 1 5 #[34, 45, 49, 62, 83], 34) := by decide +kernel
theorem dX8_grows_56 : decode cX8_grows 56 = .ok (.iload_n 3, 1) := by decide +kernel
theorem dX8_grows_57 : decode cX8_grows 57 = .ok (.ifCond .eq 7, 3) := by decide +kernel
theorem dX8_grows_60 : decode cX8_grows 60 = .ok (.iconst 0, 1) := by decide +kernel
theorem dX8_grows_61 : decode cX8_grows 61 = .ok (.goto 5, 3) := by decide +kernel
theorem dX8_grows_64 : decode cX8_grows 64 = .ok (.iload 4, 2) := by decide +kernel
theorem dX8_grows_66 : decode cX8_grows 66 = .ok (.ireturn, 1) := by decide +kernel
theorem dX8_grows_67 : decode cX8_grows 67 = .ok (.iload 4, 2) := by decide +kernel
theorem dX8_grows_69 : decode cX8_grows 69 = .ok (.ineg, 1) := by decide +kernel
theorem dX8_grows_70 : decode cX8_grows 70 = .ok (.ireturn, 1) := by decide +kernel
theorem dX8_grows_71 : decode cX8_grows 71 = .ok (.iconst 1, 1) := by decide +kernel
theorem dX8_grows_72 : decode cX8_grows 72 = .ok (.iload_n 3, 1) := by decide +kernel
theorem dX8_grows_73 : decode cX8_grows 73 = .ok (.ifCond .eq 7, 3) := by decide +kernel
theorem dX8_grows_76 : decode cX8_grows 76 = .ok (.iconst 0, 1) := by decide +kernel
theorem dX8_grows_77 : decode cX8_grows 77 = .ok (.goto 5, 3) := by decide +kernel
theorem dX8_grows_80 : decode cX8_grows 80 = .ok (.iload 4, 2) := by decide +kernel
theorem dX8_grows_82 : decode cX8_grows 82 = .ok (.iadd, 1) := by decide +kernel
theorem dX8_grows_83 : decode cX8_grows 83 = .ok (.ireturn, 1) := by decide +kernel
theorem dX8_grows_84 : decode cX8_grows 84 = .ok (.aload_n 0, 1) := by decide +kernel
theorem dX8_grows_85 : decode cX8_grows 85 = .ok (.getfield 7, 3) := by decide +kernel
theorem dX8_grows_88 : decode cX8_grows 88 = .ok (.bipush 56, 2) := by decide +kernel
theorem dX8_grows_90 : decode cX8_grows 90 = .ok (.iaload, 1) := by decide +kernel
theorem dX8_grows_91 : decode cX8_grows 91 = .ok (.iconst 2, 1) := by decide +kernel
theorem dX8_grows_92 : decode cX8_grows 92 = .ok (.irem, 1) := by decide +kernel
theorem dX8_grows_93 : decode cX8_grows 93 = .ok (.iconst 1, 1) := by decide +kernel
theorem dX8_grows_94 : decode cX8_grows 94 = .ok (.if_icmp .ne 9, 3) := by decide +kernel
theorem dX8_grows_97 : decode cX8_grows 97 = .ok (.iload 4, 2) := by decide +kernel
theorem dX8_grows_99 : decode cX8_grows 99 = .ok (.ineg, 1) := by decide +kernel
theorem dX8_grows_100 : decode cX8_grows 100 = .ok (.goto 4, 3) := by decide +kernel
theorem dX8_grows_103 : decode cX8_grows 103 = .ok (.iconst 0, 1) := by decide +kernel
theorem dX8_grows_104 : decode cX8_grows 104 = .ok (.ireturn, 1) := by decide +kernel
theorem dX8_grows_105 : decode cX8_grows 105 = .ok (.iconst 0, 1) := by decide +kernel
theorem dX8_grows_106 : decode cX8_grows 106 = .ok (.ireturn, 1) := by decide +kernel
theorem dX8_grows_107 : decode cX8_grows 107 = .ok (.iload 4, 2) := by decide +kernel
theorem dX8_grows_109 : decode cX8_grows 109 = .ok (.ireturn, 1) := by decide +kernel
theorem dX8_setter_0 : decode cX8_setter 0 = .ok (.iconst (-1), 1) := by decide +kernel
theorem dX8_setter_1 : decode cX8_setter 1 = .ok (.istore_n 2, 1) := by decide +kernel
theorem dX8_setter_2 : decode cX8_setter 2 = .ok (.iconst 0, 1) := by decide +kernel
theorem dX8_setter_3 : decode cX8_setter 3 = .ok (.istore_n 3, 1) := by decide +kernel
theorem dX8_setter_4 : decode cX8_setter 4 = .ok (.iconst 0, 1) := by decide +kernel
theorem dX8_setter_5 : decode cX8_setter 5 = .ok (.istore 4, 2) := by decide +kernel
theorem dX8_setter_7 : decode cX8_setter 7 = .ok (.iload 4, 2) := by decide +kernel
theorem dX8_setter_9 : decode cX8_setter 9 = .ok (.aload_n 0, 1) := by decide +kernel
theorem dX8_setter_10 : decode cX8_setter 10 = .ok (.invokevirtual 104, 3) := by decide +kernel
theorem dX8_setter_13 : decode cX8_setter 13 = .ok (.if_icmp .ge 43, 3) := by decide +kernel
theorem dX8_setter_16 : decode cX8_setter 16 = .ok (.iload 4, 2) := by decide +kernel
theorem dX8_setter_18 : decode cX8_setter 18 = .ok (.iload_n 1, 1) := by decide +kernel
theorem dX8_setter_19 : decode cX8_setter 19 = .ok (.if_icmp .eq 31, 3) := by decide +kernel
theorem dX8_setter_22 : decode cX8_setter 22 = .ok (.aload_n 0, 1) := by decide +kernel
theorem dX8_setter_23 : decode cX8_setter 23 = .ok (.iload 4, 2) := by decide +kernel
theorem dX8_setter_25 : decode cX8_setter 25 = .ok (.bipush 6, 2) := by decide +kernel
theorem dX8_setter_27 : decode cX8_setter 27 = .ok (.iload_n 1, 1) := by decide +kernel
theorem dX8_setter_28 : decode cX8_setter 28 = .ok (.iadd, 1) := by decide +kernel
theorem dX8_setter_29 : decode cX8_setter 29 = .ok (.invokevirtual 111, 3) := by decide +kernel
theorem dX8_setter_32 : decode cX8_setter 32 = .ok (.iload_n 3, 1) := by decide +kernel
theorem dX8_setter_33 : decode cX8_setter 33 = .ok (.if_icmp .le 17, 3) := by decide +kernel
theorem dX8_setter_36 : decode cX8_setter 36 = .ok (.iload 4, 2) := by decide +kernel
theorem dX8_setter_38 : decode cX8_setter 38 = .ok (.istore_n 2, 1) := by decide +kernel
theorem dX8_setter_39 : decode cX8_setter 39 = .ok (.aload_n 0, 1) := by decide +kernel
theorem dX8_setter_40 : decode cX8_setter 40 = .ok (.iload 4, 2) := by decide +kernel
theorem dX8_setter_42 : decode cX8_setter 42 = .ok (.bipush 6, 2) := by decide +kernel
theorem dX8_setter_44 : decode cX8_setter 44 = .ok (.iload_n 1, 1) := by decide +kernel
theorem dX8_setter_45 : decode cX8_setter 45 = .ok (.iadd, 1) := by decide +kernel
theorem dX8_setter_46 : decode cX8_setter 46 = .ok (.invokevirtual 111, 3) := by decide +kernel
theorem dX8_setter_49 : decode cX8_setter 49 = .ok (.istore_n 3, 1) := by decide +kernel
theorem dX8_setter_50 : decode cX8_setter 50 = .ok (.iinc 4 1, 3) := by decide +kernel
theorem dX8_setter_53 : decode cX8_setter 53 = .ok (.goto (-46), 3) := by decide +kernel
theorem dX8_setter_56 : decode cX8_setter 56 = .ok (.iload_n 2, 1) := by decide +kernel
theorem dX8_setter_57 : decode cX8_setter 57 = .ok (.ireturn, 1) := by decide +kernel
theorem dX8_wakes_0 : decode cX8_wakes 0 = .ok (.aload_n 0, 1) := by decide +kernel
theorem dX8_wakes_1 : decode cX8_wakes 1 = .ok (.iload_n 1, 1) := by decide +kernel
theorem dX8_wakes_2 : decode cX8_wakes 2 = .ok (.invokevirtual 114, 3) := by decide +kernel
theorem dX8_wakes_5 : decode cX8_wakes 5 = .ok (.istore_n 2, 1) := by decide +kernel
theorem dX8_wakes_6 : decode cX8_wakes 6 = .ok (.iload_n 2, 1) := by decide +kernel
theorem dX8_wakes_7 : decode cX8_wakes 7 = .ok (.iconst (-1), 1) := by decide +kernel
theorem dX8_wakes_8 : decode cX8_wakes 8 = .ok (.if_icmp .ne 7, 3) := by decide +kernel
theorem dX8_wakes_11 : decode cX8_wakes 11 = .ok (.iconst (-1), 1) := by decide +kernel
theorem dX8_wakes_12 : decode cX8_wakes 12 = .ok (.goto 9, 3) := by decide +kernel
theorem dX8_wakes_15 : decode cX8_wakes 15 = .ok (.aload_n 0, 1) := by decide +kernel
theorem dX8_wakes_16 : decode cX8_wakes 16 = .ok (.iload_n 2, 1) := by decide +kernel
theorem dX8_wakes_17 : decode cX8_wakes 17 = .ok (.iload_n 1, 1) := by decide +kernel
theorem dX8_wakes_18 : decode cX8_wakes 18 = .ok (.invokevirtual 124, 3) := by decide +kernel
theorem dX8_wakes_21 : decode cX8_wakes 21 = .ok (.ireturn, 1) := by decide +kernel
theorem dX8_lateBy_0 : decode cX8_lateBy 0 = .ok (.iconst 0, 1) := by decide +kernel
theorem dX8_lateBy_1 : decode cX8_lateBy 1 = .ok (.aload_n 0, 1) := by decide +kernel
theorem dX8_lateBy_2 : decode cX8_lateBy 2 = .ok (.iload_n 1, 1) := by decide +kernel
theorem dX8_lateBy_3 : decode cX8_lateBy 3 = .ok (.invokevirtual 118, 3) := by decide +kernel
theorem dX8_lateBy_6 : decode cX8_lateBy 6 = .ok (.iconst (-1), 1) := by decide +kernel
theorem dX8_lateBy_7 : decode cX8_lateBy 7 = .ok (.if_icmp .ne 7, 3) := by decide +kernel
theorem dX8_lateBy_10 : decode cX8_lateBy 10 = .ok (.iconst 0, 1) := by decide +kernel
theorem dX8_lateBy_11 : decode cX8_lateBy 11 = .ok (.goto 15, 3) := by decide +kernel
theorem dX8_lateBy_14 : decode cX8_lateBy 14 = .ok (.aload_n 0, 1) := by decide +kernel
theorem dX8_lateBy_15 : decode cX8_lateBy 15 = .ok (.iload_n 1, 1) := by decide +kernel
theorem dX8_lateBy_16 : decode cX8_lateBy 16 = .ok (.invokevirtual 118, 3) := by decide +kernel
theorem dX8_lateBy_19 : decode cX8_lateBy 19 = .ok (.aload_n 0, 1) := by decide +kernel
theorem dX8_lateBy_20 : decode cX8_lateBy 20 = .ok (.iload_n 1, 1) := by decide +kernel
theorem dX8_lateBy_21 : decode cX8_lateBy 21 = .ok (.iconst 2, 1) := by decide +kernel
theorem dX8_lateBy_22 : decode cX8_lateBy 22 = .ok (.invokevirtual 111, 3) := by decide +kernel
theorem dX8_lateBy_25 : decode cX8_lateBy 25 = .ok (.isub, 1) := by decide +kernel
theorem dX8_lateBy_26 : decode cX8_lateBy 26 = .ok (.invokestatic 86, 3) := by decide +kernel
theorem dX8_lateBy_29 : decode cX8_lateBy 29 = .ok (.ireturn, 1) := by decide +kernel
theorem dX8_goDay_0 : decode cX8_goDay 0 = .ok (.iconst 0, 1) := by decide +kernel
theorem dX8_goDay_1 : decode cX8_goDay 1 = .ok (.istore_n 1, 1) := by decide +kernel
theorem dX8_goDay_2 : decode cX8_goDay 2 = .ok (.iconst 0, 1) := by decide +kernel
theorem dX8_goDay_3 : decode cX8_goDay 3 = .ok (.istore_n 2, 1) := by decide +kernel
theorem dX8_goDay_4 : decode cX8_goDay 4 = .ok (.iload_n 2, 1) := by decide +kernel
theorem dX8_goDay_5 : decode cX8_goDay 5 = .ok (.aload_n 0, 1) := by decide +kernel
theorem dX8_goDay_6 : decode cX8_goDay 6 = .ok (.invokevirtual 104, 3) := by decide +kernel
theorem dX8_goDay_9 : decode cX8_goDay 9 = .ok (.if_icmp .ge 106, 3) := by decide +kernel
theorem dX8_goDay_12 : decode cX8_goDay 12 = .ok (.aload_n 0, 1) := by decide +kernel
theorem dX8_goDay_13 : decode cX8_goDay 13 = .ok (.getfield 49, 3) := by decide +kernel
theorem dX8_goDay_16 : decode cX8_goDay 16 = .ok (.iload_n 2, 1) := by decide +kernel
theorem dX8_goDay_17 : decode cX8_goDay 17 = .ok (.aload_n 0, 1) := by decide +kernel
theorem dX8_goDay_18 : decode cX8_goDay 18 = .ok (.iload_n 2, 1) := by decide +kernel
theorem dX8_goDay_19 : decode cX8_goDay 19 = .ok (.invokevirtual 114, 3) := by decide +kernel
theorem dX8_goDay_22 : decode cX8_goDay 22 = .ok (.iastore, 1) := by decide +kernel
theorem dX8_goDay_23 : decode cX8_goDay 23 = .ok (.aload_n 0, 1) := by decide +kernel
theorem dX8_goDay_24 : decode cX8_goDay 24 = .ok (.getfield 52, 3) := by decide +kernel
theorem dX8_goDay_27 : decode cX8_goDay 27 = .ok (.iload_n 2, 1) := by decide +kernel
theorem dX8_goDay_28 : decode cX8_goDay 28 = .ok (.aload_n 0, 1) := by decide +kernel
theorem dX8_goDay_29 : decode cX8_goDay 29 = .ok (.iload_n 2, 1) := by decide +kernel
theorem dX8_goDay_30 : decode cX8_goDay 30 = .ok (.invokevirtual 121, 3) := by decide +kernel
theorem dX8_goDay_33 : decode cX8_goDay 33 = .ok (.iastore, 1) := by decide +kernel
theorem dX8_goDay_34 : decode cX8_goDay 34 = .ok (.aload_n 0, 1) := by decide +kernel
theorem dX8_goDay_35 : decode cX8_goDay 35 = .ok (.getfield 55, 3) := by decide +kernel
theorem dX8_goDay_38 : decode cX8_goDay 38 = .ok (.iload_n 2, 1) := by decide +kernel
theorem dX8_goDay_39 : decode cX8_goDay 39 = .ok (.aload_n 0, 1) := by decide +kernel
theorem dX8_goDay_40 : decode cX8_goDay 40 = .ok (.getfield 49, 3) := by decide +kernel
theorem dX8_goDay_43 : decode cX8_goDay 43 = .ok (.iload_n 2, 1) := by decide +kernel
theorem dX8_goDay_44 : decode cX8_goDay 44 = .ok (.iaload, 1) := by decide +kernel
theorem dX8_goDay_45 : decode cX8_goDay 45 = .ok (.iconst (-1), 1) := by decide +kernel
theorem dX8_goDay_46 : decode cX8_goDay 46 = .ok (.if_icmp .ne 7, 3) := by decide +kernel
theorem dX8_goDay_49 : decode cX8_goDay 49 = .ok (.iconst 0, 1) := by decide +kernel
theorem dX8_goDay_50 : decode cX8_goDay 50 = .ok (.goto 13, 3) := by decide +kernel
theorem dX8_goDay_53 : decode cX8_goDay 53 = .ok (.aload_n 0, 1) := by decide +kernel
theorem dX8_goDay_54 : decode cX8_goDay 54 = .ok (.iload_n 2, 1) := by decide +kernel
theorem dX8_goDay_55 : decode cX8_goDay 55 = .ok (.aload_n 0, 1) := by decide +kernel
theorem dX8_goDay_56 : decode cX8_goDay 56 = .ok (.iload_n 2, 1) := by decide +kernel
theorem dX8_goDay_57 : decode cX8_goDay 57 = .ok (.invokevirtual 118, 3) := by decide +kernel
theorem dX8_goDay_60 : decode cX8_goDay 60 = .ok (.invokevirtual 131, 3) := by decide +kernel
theorem dX8_goDay_63 : decode cX8_goDay 63 = .ok (.iastore, 1) := by decide +kernel
theorem dX8_goDay_64 : decode cX8_goDay 64 = .ok (.aload_n 0, 1) := by decide +kernel
theorem dX8_goDay_65 : decode cX8_goDay 65 = .ok (.getfield 58, 3) := by decide +kernel
theorem dX8_goDay_68 : decode cX8_goDay 68 = .ok (.iload_n 2, 1) := by decide +kernel
theorem dX8_goDay_69 : decode cX8_goDay 69 = .ok (.aload_n 0, 1) := by decide +kernel
theorem dX8_goDay_70 : decode cX8_goDay 70 = .ok (.getfield 49, 3) := by decide +kernel
theorem dX8_goDay_73 : decode cX8_goDay 73 = .ok (.iload_n 2, 1) := by decide +kernel
theorem dX8_goDay_74 : decode cX8_goDay 74 = .ok (.iaload, 1) := by decide +kernel
theorem dX8_goDay_75 : decode cX8_goDay 75 = .ok (.iconst (-1), 1) := by decide +kernel
theorem dX8_goDay_76 : decode cX8_goDay 76 = .ok (.if_icmp .ne 7, 3) := by decide +kernel
theorem dX8_goDay_79 : decode cX8_goDay 79 = .ok (.iconst 0, 1) := by decide +kernel
theorem dX8_goDay_80 : decode cX8_goDay 80 = .ok (.goto 28, 3) := by decide +kernel
theorem dX8_goDay_83 : decode cX8_goDay 83 = .ok (.aload_n 0, 1) := by decide +kernel
theorem dX8_goDay_84 : decode cX8_goDay 84 = .ok (.aload_n 0, 1) := by decide +kernel
theorem dX8_goDay_85 : decode cX8_goDay 85 = .ok (.getfield 49, 3) := by decide +kernel
theorem dX8_goDay_88 : decode cX8_goDay 88 = .ok (.iload_n 2, 1) := by decide +kernel
theorem dX8_goDay_89 : decode cX8_goDay 89 = .ok (.iaload, 1) := by decide +kernel
theorem dX8_goDay_90 : decode cX8_goDay 90 = .ok (.iload_n 2, 1) := by decide +kernel
theorem dX8_goDay_91 : decode cX8_goDay 91 = .ok (.aload_n 0, 1) := by decide +kernel
theorem dX8_goDay_92 : decode cX8_goDay 92 = .ok (.getfield 52, 3) := by decide +kernel
theorem dX8_goDay_95 : decode cX8_goDay 95 = .ok (.iload_n 2, 1) := by decide +kernel
theorem dX8_goDay_96 : decode cX8_goDay 96 = .ok (.iaload, 1) := by decide +kernel
theorem dX8_goDay_97 : decode cX8_goDay 97 = .ok (.ifCond .le 7, 3) := by decide +kernel
theorem dX8_goDay_100 : decode cX8_goDay 100 = .ok (.iconst 1, 1) := by decide +kernel
theorem dX8_goDay_101 : decode cX8_goDay 101 = .ok (.goto 4, 3) := by decide +kernel
theorem dX8_goDay_104 : decode cX8_goDay 104 = .ok (.iconst 0, 1) := by decide +kernel
theorem dX8_goDay_105 : decode cX8_goDay 105 = .ok (.invokevirtual 127, 3) := by decide +kernel
theorem dX8_goDay_108 : decode cX8_goDay 108 = .ok (.iastore, 1) := by decide +kernel
theorem dX8_goDay_109 : decode cX8_goDay 109 = .ok (.iinc 2 1, 3) := by decide +kernel
theorem dX8_goDay_112 : decode cX8_goDay 112 = .ok (.goto (-108), 3) := by decide +kernel
theorem dX8_goDay_115 : decode cX8_goDay 115 = .ok (.iconst 0, 1) := by decide +kernel
theorem dX8_goDay_116 : decode cX8_goDay 116 = .ok (.istore_n 2, 1) := by decide +kernel
theorem dX8_goDay_117 : decode cX8_goDay 117 = .ok (.iload_n 2, 1) := by decide +kernel
theorem dX8_goDay_118 : decode cX8_goDay 118 = .ok (.aload_n 0, 1) := by decide +kernel
theorem dX8_goDay_119 : decode cX8_goDay 119 = .ok (.invokevirtual 104, 3) := by decide +kernel
theorem dX8_goDay_122 : decode cX8_goDay 122 = .ok (.if_icmp .ge 170, 3) := by decide +kernel
theorem dX8_goDay_125 : decode cX8_goDay 125 = .ok (.aload_n 0, 1) := by decide +kernel
theorem dX8_goDay_126 : decode cX8_goDay 126 = .ok (.getfield 49, 3) := by decide +kernel
theorem dX8_goDay_129 : decode cX8_goDay 129 = .ok (.iload_n 2, 1) := by decide +kernel
theorem dX8_goDay_130 : decode cX8_goDay 130 = .ok (.iaload, 1) := by decide +kernel
theorem dX8_goDay_131 : decode cX8_goDay 131 = .ok (.iconst (-1), 1) := by decide +kernel
theorem dX8_goDay_132 : decode cX8_goDay 132 = .ok (.if_icmp .ne 44, 3) := by decide +kernel
