theorem dX7_film_74 : decode cX7_film 74 = .ok (.invokevirtual 137, 3) := by decide +kernel
theorem dX7_film_77 : decode cX7_film 77 = .ok (.aload 4, 2) := by decide +kernel
theorem dX7_film_79 : decode cX7_film 79 = .ok (.iload 5, 2) := by decide +kernel
theorem dX7_film_81 : decode cX7_film 81 = .ok (.aload_n 0, 1) := by decide +kernel
theorem dX7_film_82 : decode cX7_film 82 = .ok (.getfield 38, 3) := by decide +kernel
theorem dX7_film_85 : decode cX7_film 85 = .ok (.iload_n 2, 1) := by decide +kernel
theorem dX7_film_86 : decode cX7_film 86 = .ok (.invokevirtual 212, 3) := by decide +kernel
theorem dX7_film_89 : decode cX7_film 89 = .ok (.invokevirtual 215, 3) := by decide +kernel
theorem dX7_film_92 : decode cX7_film 92 = .ok (.aload_n 0, 1) := by decide +kernel
theorem dX7_film_93 : decode cX7_film 93 = .ok (.getfield 38, 3) := by decide +kernel
theorem dX7_film_96 : decode cX7_film 96 = .ok (.aload_n 0, 1) := by decide +kernel
theorem dX7_film_97 : decode cX7_film 97 = .ok (.getfield 49, 3) := by decide +kernel
theorem dX7_film_100 : decode cX7_film 100 = .ok (.invokevirtual 141, 3) := by decide +kernel
theorem dX7_film_103 : decode cX7_film 103 = .ok (.iinc 5 1, 3) := by decide +kernel
theorem dX7_film_106 : decode cX7_film 106 = .ok (.goto (-46), 3) := by decide +kernel
theorem dX7_film_109 : decode cX7_film 109 = .ok (.iload_n 3, 1) := by decide +kernel
theorem dX7_film_110 : decode cX7_film 110 = .ok (.ireturn, 1) := by decide +kernel
theorem dX7_drawn_0 : decode cX7_drawn 0 = .ok (.iload_n 2, 1) := by decide +kernel
theorem dX7_drawn_1 : decode cX7_drawn 1 = .ok (.ifCond .lt 9, 3) := by decide +kernel
theorem dX7_drawn_4 : decode cX7_drawn 4 = .ok (.iload_n 2, 1) := by decide +kernel
theorem dX7_drawn_5 : decode cX7_drawn 5 = .ok (.bipush 40, 2) := by decide +kernel
theorem dX7_drawn_7 : decode cX7_drawn 7 = .ok (.if_icmp .le 6, 3) := by decide +kernel
theorem dX7_drawn_10 : decode cX7_drawn 10 = .ok (.bipush (-2), 2) := by decide +kernel
theorem dX7_drawn_12 : decode cX7_drawn 12 = .ok (.ireturn, 1) := by decide +kernel
theorem dX7_drawn_13 : decode cX7_drawn 13 = .ok (.aload_n 0, 1) := by decide +kernel
theorem dX7_drawn_14 : decode cX7_drawn 14 = .ok (.iload_n 1, 1) := by decide +kernel
theorem dX7_drawn_15 : decode cX7_drawn 15 = .ok (.iload_n 2, 1) := by decide +kernel
theorem dX7_drawn_16 : decode cX7_drawn 16 = .ok (.invokevirtual 217, 3) := by decide +kernel
theorem dX7_drawn_19 : decode cX7_drawn 19 = .ok (.ireturn, 1) := by decide +kernel
theorem dX7_chance_0 : decode cX7_chance 0 = .ok (.iload_n 2, 1) := by decide +kernel
theorem dX7_chance_1 : decode cX7_chance 1 = .ok (.iconst 1, 1) := by decide +kernel
theorem dX7_chance_2 : decode cX7_chance 2 = .ok (.if_icmp .lt 30, 3) := by decide +kernel
theorem dX7_chance_5 : decode cX7_chance 5 = .ok (.iload_n 2, 1) := by decide +kernel
theorem dX7_chance_6 : decode cX7_chance 6 = .ok (.bipush 20, 2) := by decide +kernel
theorem dX7_chance_8 : decode cX7_chance 8 = .ok (.if_icmp .gt 24, 3) := by decide +kernel
theorem dX7_chance_11 : decode cX7_chance 11 = .ok (.iload_n 3, 1) := by decide +kernel
theorem dX7_chance_12 : decode cX7_chance 12 = .ok (.ifCond .lt 20, 3) := by decide +kernel
theorem dX7_chance_15 : decode cX7_chance 15 = .ok (.iload_n 3, 1) := by decide +kernel
theorem dX7_chance_16 : decode cX7_chance 16 = .ok (.bipush 99, 2) := by decide +kernel
theorem dX7_chance_18 : decode cX7_chance 18 = .ok (.if_icmp .gt 14, 3) := by decide +kernel
theorem dX7_chance_21 : decode cX7_chance 21 = .ok (.iload 4, 2) := by decide +kernel
theorem dX7_chance_23 : decode cX7_chance 23 = .ok (.ifCond .lt 9, 3) := by decide +kernel
theorem dX7_chance_26 : decode cX7_chance 26 = .ok (.iload 4, 2) := by decide +kernel
theorem dX7_chance_28 : decode cX7_chance 28 = .ok (.iconst 1, 1) := by decide +kernel
theorem dX7_chance_29 : decode cX7_chance 29 = .ok (.if_icmp .le 7, 3) := by decide +kernel
theorem dX7_chance_32 : decode cX7_chance 32 = .ok (.ldc2_w 179, 3) := by decide +kernel
theorem dX7_chance_35 : decode cX7_chance 35 = .ok (.lreturn, 1) := by decide +kernel
theorem dX7_chance_36 : decode cX7_chance 36 = .ok (.iconst 0, 1) := by decide +kernel
theorem dX7_chance_37 : decode cX7_chance 37 = .ok (.istore 5, 2) := by decide +kernel
theorem dX7_chance_39 : decode cX7_chance 39 = .ok (.iconst 0, 1) := by decide +kernel
theorem dX7_chance_40 : decode cX7_chance 40 = .ok (.istore 6, 2) := by decide +kernel
theorem dX7_chance_42 : decode cX7_chance 42 = .ok (.iload 6, 2) := by decide +kernel
theorem dX7_chance_44 : decode cX7_chance 44 = .ok (.iload_n 2, 1) := by decide +kernel
theorem dX7_chance_45 : decode cX7_chance 45 = .ok (.if_icmp .ge 26, 3) := by decide +kernel
theorem dX7_chance_48 : decode cX7_chance 48 = .ok (.aload_n 0, 1) := by decide +kernel
theorem dX7_chance_49 : decode cX7_chance 49 = .ok (.iload_n 1, 1) := by decide +kernel
theorem dX7_chance_50 : decode cX7_chance 50 = .ok (.iload 6, 2) := by decide +kernel
theorem dX7_chance_52 : decode cX7_chance 52 = .ok (.iadd, 1) := by decide +kernel
theorem dX7_chance_53 : decode cX7_chance 53 = .ok (.bipush 10, 2) := by decide +kernel
theorem dX7_chance_55 : decode cX7_chance 55 = .ok (.invokevirtual 217, 3) := by decide +kernel
theorem dX7_chance_58 : decode cX7_chance 58 = .ok (.iload_n 3, 1) := by decide +kernel
theorem dX7_chance_59 : decode cX7_chance 59 = .ok (.if_icmp .lt 6, 3) := by decide +kernel
theorem dX7_chance_62 : decode cX7_chance 62 = .ok (.iinc 5 1, 3) := by decide +kernel
theorem dX7_chance_65 : decode cX7_chance 65 = .ok (.iinc 6 1, 3) := by decide +kernel
theorem dX7_chance_68 : decode cX7_chance 68 = .ok (.goto (-26), 3) := by decide +kernel
theorem dX7_chance_71 : decode cX7_chance 71 = .ok (.iload 5, 2) := by decide +kernel
theorem dX7_chance_73 : decode cX7_chance 73 = .ok (.iload_n 2, 1) := by decide +kernel
theorem dX7_chance_74 : decode cX7_chance 74 = .ok (.iload 4, 2) := by decide +kernel
theorem dX7_chance_76 : decode cX7_chance 76 = .ok (.invokestatic 181, 3) := by decide +kernel
theorem dX7_chance_79 : decode cX7_chance 79 = .ok (.lreturn, 1) := by decide +kernel
theorem dX7_image_0 : decode cX7_image 0 = .ok (.aload_n 0, 1) := by decide +kernel
theorem dX7_image_1 : decode cX7_image 1 = .ok (.getfield 52, 3) := by decide +kernel
theorem dX7_image_4 : decode cX7_image 4 = .ok (.aload_n 0, 1) := by decide +kernel
theorem dX7_image_5 : decode cX7_image 5 = .ok (.getfield 45, 3) := by decide +kernel
theorem dX7_image_8 : decode cX7_image 8 = .ok (.invokevirtual 148, 3) := by decide +kernel
theorem dX7_image_11 : decode cX7_image 11 = .ok (.aload_n 0, 1) := by decide +kernel
theorem dX7_image_12 : decode cX7_image 12 = .ok (.iconst 1, 1) := by decide +kernel
theorem dX7_image_13 : decode cX7_image 13 = .ok (.putfield 220, 3) := by decide +kernel
theorem dX7_image_16 : decode cX7_image 16 = .ok (.aload_n 0, 1) := by decide +kernel
theorem dX7_image_17 : decode cX7_image 17 = .ok (.getfield 52, 3) := by decide +kernel
theorem dX7_image_20 : decode cX7_image 20 = .ok (.invokevirtual 163, 3) := by decide +kernel
theorem dX7_image_23 : decode cX7_image 23 = .ok (.ireturn, 1) := by decide +kernel
theorem dX7_back_0 : decode cX7_back 0 = .ok (.aload_n 0, 1) := by decide +kernel
theorem dX7_back_1 : decode cX7_back 1 = .ok (.getfield 220, 3) := by decide +kernel
theorem dX7_back_4 : decode cX7_back 4 = .ok (.ifCond .ne 6, 3) := by decide +kernel
theorem dX7_back_7 : decode cX7_back 7 = .ok (.bipush (-3), 2) := by decide +kernel
theorem dX7_back_9 : decode cX7_back 9 = .ok (.ireturn, 1) := by decide +kernel
theorem dX7_back_10 : decode cX7_back 10 = .ok (.aload_n 0, 1) := by decide +kernel
theorem dX7_back_11 : decode cX7_back 11 = .ok (.getfield 45, 3) := by decide +kernel
theorem dX7_back_14 : decode cX7_back 14 = .ok (.aload_n 0, 1) := by decide +kernel
theorem dX7_back_15 : decode cX7_back 15 = .ok (.getfield 52, 3) := by decide +kernel
theorem dX7_back_18 : decode cX7_back 18 = .ok (.invokevirtual 148, 3) := by decide +kernel
theorem dX7_back_21 : decode cX7_back 21 = .ok (.aload_n 0, 1) := by decide +kernel
theorem dX7_back_22 : decode cX7_back 22 = .ok (.getfield 45, 3) := by decide +kernel
theorem dX7_back_25 : decode cX7_back 25 = .ok (.invokevirtual 163, 3) := by decide +kernel
theorem dX7_back_28 : decode cX7_back 28 = .ok (.ireturn, 1) := by decide +kernel
theorem dX7_count_0 : decode cX7_count 0 = .ok (.iload_n 1, 1) := by decide +kernel
theorem dX7_count_1 : decode cX7_count 1 = .ok (.tableswitch 87 0 5 #[39, 47, 55, 63, 71, 79], 39) := by decide +kernel
theorem dX7_count_40 : decode cX7_count 40 = .ok (.aload_n 0, 1) := by decide +kernel
theorem dX7_count_41 : decode cX7_count 41 = .ok (.getfield 45, 3) := by decide +kernel
theorem dX7_count_44 : decode cX7_count 44 = .ok (.invokevirtual 163, 3) := by decide +kernel
theorem dX7_count_47 : decode cX7_count 47 = .ok (.ireturn, 1) := by decide +kernel
theorem dX7_count_48 : decode cX7_count 48 = .ok (.aload_n 0, 1) := by decide +kernel
theorem dX7_count_49 : decode cX7_count 49 = .ok (.getfield 45, 3) := by decide +kernel
theorem dX7_count_52 : decode cX7_count 52 = .ok (.invokevirtual 224, 3) := by decide +kernel
theorem dX7_count_55 : decode cX7_count 55 = .ok (.ireturn, 1) := by decide +kernel
theorem dX7_count_56 : decode cX7_count 56 = .ok (.aload_n 0, 1) := by decide +kernel
theorem dX7_count_57 : decode cX7_count 57 = .ok (.getfield 45, 3) := by decide +kernel
theorem dX7_count_60 : decode cX7_count 60 = .ok (.invokevirtual 134, 3) := by decide +kernel
theorem dX7_count_63 : decode cX7_count 63 = .ok (.ireturn, 1) := by decide +kernel
theorem dX7_count_64 : decode cX7_count 64 = .ok (.aload_n 0, 1) := by decide +kernel
theorem dX7_count_65 : decode cX7_count 65 = .ok (.getfield 19, 3) := by decide +kernel
theorem dX7_count_68 : decode cX7_count 68 = .ok (.invokevirtual 128, 3) := by decide +kernel
theorem dX7_count_71 : decode cX7_count 71 = .ok (.ireturn, 1) := by decide +kernel
theorem dX7_count_72 : decode cX7_count 72 = .ok (.aload_n 0, 1) := by decide +kernel
theorem dX7_count_73 : decode cX7_count 73 = .ok (.getfield 10, 3) := by decide +kernel
theorem dX7_count_76 : decode cX7_count 76 = .ok (.invokevirtual 124, 3) := by decide +kernel
theorem dX7_count_79 : decode cX7_count 79 = .ok (.ireturn, 1) := by decide +kernel
theorem dX7_count_80 : decode cX7_count 80 = .ok (.aload_n 0, 1) := by decide +kernel
theorem dX7_count_81 : decode cX7_count 81 = .ok (.getfield 45, 3) := by decide +kernel
theorem dX7_count_84 : decode cX7_count 84 = .ok (.invokevirtual 131, 3) := by decide +kernel
theorem dX7_count_87 : decode cX7_count 87 = .ok (.ireturn, 1) := by decide +kernel
theorem dX7_count_88 : decode cX7_count 88 = .ok (.bipush (-2), 2) := by decide +kernel
theorem dX7_count_90 : decode cX7_count 90 = .ok (.ireturn, 1) := by decide +kernel
theorem dX7_sheet_0 : decode cX7_sheet 0 = .ok (.iload_n 1, 1) := by decide +kernel
theorem dX7_sheet_1 : decode cX7_sheet 1 = .ok (.invokestatic 185, 3) := by decide +kernel
theorem dX7_sheet_4 : decode cX7_sheet 4 = .ok (.ifCond .eq 15, 3) := by decide +kernel
theorem dX7_sheet_7 : decode cX7_sheet 7 = .ok (.iload_n 2, 1) := by decide +kernel
theorem dX7_sheet_8 : decode cX7_sheet 8 = .ok (.iconst (-1), 1) := by decide +kernel
theorem dX7_sheet_9 : decode cX7_sheet 9 = .ok (.if_icmp .eq 13, 3) := by decide +kernel
theorem dX7_sheet_12 : decode cX7_sheet 12 = .ok (.iload_n 2, 1) := by decide +kernel
theorem dX7_sheet_13 : decode cX7_sheet 13 = .ok (.invokestatic 227, 3) := by decide +kernel
theorem dX7_sheet_16 : decode cX7_sheet 16 = .ok (.ifCond .ne 6, 3) := by decide +kernel
theorem dX7_sheet_19 : decode cX7_sheet 19 = .ok (.bipush (-2), 2) := by decide +kernel
theorem dX7_sheet_21 : decode cX7_sheet 21 = .ok (.ireturn, 1) := by decide +kernel
theorem dX7_sheet_22 : decode cX7_sheet 22 = .ok (.iload_n 2, 1) := by decide +kernel
theorem dX7_sheet_23 : decode cX7_sheet 23 = .ok (.iconst (-1), 1) := by decide +kernel
theorem dX7_sheet_24 : decode cX7_sheet 24 = .ok (.if_icmp .eq 12, 3) := by decide +kernel
theorem dX7_sheet_27 : decode cX7_sheet 27 = .ok (.iload_n 3, 1) := by decide +kernel
theorem dX7_sheet_28 : decode cX7_sheet 28 = .ok (.bipush 40, 2) := by decide +kernel
theorem dX7_sheet_30 : decode cX7_sheet 30 = .ok (.if_icmp .le 6, 3) := by decide +kernel
theorem dX7_sheet_33 : decode cX7_sheet 33 = .ok (.bipush (-2), 2) := by decide +kernel
theorem dX7_sheet_35 : decode cX7_sheet 35 = .ok (.ireturn, 1) := by decide +kernel
theorem dX7_sheet_36 : decode cX7_sheet 36 = .ok (.iload_n 2, 1) := by decide +kernel
theorem dX7_sheet_37 : decode cX7_sheet 37 = .ok (.iconst (-1), 1) := by decide +kernel
theorem dX7_sheet_38 : decode cX7_sheet 38 = .ok (.if_icmp .eq 10, 3) := by decide +kernel
theorem dX7_sheet_41 : decode cX7_sheet 41 = .ok (.iload_n 3, 1) := by decide +kernel
theorem dX7_sheet_42 : decode cX7_sheet 42 = .ok (.ifCond .ge 6, 3) := by decide +kernel
theorem dX7_sheet_45 : decode cX7_sheet 45 = .ok (.bipush (-14), 2) := by decide +kernel
theorem dX7_sheet_47 : decode cX7_sheet 47 = .ok (.ireturn, 1) := by decide +kernel
theorem dX7_sheet_48 : decode cX7_sheet 48 = .ok (.aload_n 0, 1) := by decide +kernel
theorem dX7_sheet_49 : decode cX7_sheet 49 = .ok (.getfield 64, 3) := by decide +kernel
theorem dX7_sheet_52 : decode cX7_sheet 52 = .ok (.iload_n 1, 1) := by decide +kernel
theorem dX7_sheet_53 : decode cX7_sheet 53 = .ok (.aaload, 1) := by decide +kernel
theorem dX7_sheet_54 : decode cX7_sheet 54 = .ok (.iload_n 2, 1) := by decide +kernel
theorem dX7_sheet_55 : decode cX7_sheet 55 = .ok (.iload_n 2, 1) := by decide +kernel
theorem dX7_sheet_56 : decode cX7_sheet 56 = .ok (.iconst (-1), 1) := by decide +kernel
theorem dX7_sheet_57 : decode cX7_sheet 57 = .ok (.if_icmp .ne 7, 3) := by decide +kernel
theorem dX7_sheet_60 : decode cX7_sheet 60 = .ok (.iconst 0, 1) := by decide +kernel
theorem dX7_sheet_61 : decode cX7_sheet 61 = .ok (.goto 4, 3) := by decide +kernel
theorem dX7_sheet_64 : decode cX7_sheet 64 = .ok (.iload_n 3, 1) := by decide +kernel
theorem dX7_sheet_65 : decode cX7_sheet 65 = .ok (.invokevirtual 208, 3) := by decide +kernel
theorem dX7_sheet_68 : decode cX7_sheet 68 = .ok (.iconst 1, 1) := by decide +kernel
theorem dX7_sheet_69 : decode cX7_sheet 69 = .ok (.ireturn, 1) := by decide +kernel
theorem dX7_cell_0 : decode cX7_cell 0 = .ok (.iload_n 1, 1) := by decide +kernel
theorem dX7_cell_1 : decode cX7_cell 1 = .ok (.invokestatic 185, 3) := by decide +kernel
theorem dX7_cell_4 : decode cX7_cell 4 = .ok (.ifCond .ne 6, 3) := by decide +kernel
theorem dX7_cell_7 : decode cX7_cell 7 = .ok (.bipush (-2), 2) := by decide +kernel
theorem dX7_cell_9 : decode cX7_cell 9 = .ok (.ireturn, 1) := by decide +kernel
theorem dX7_cell_10 : decode cX7_cell 10 = .ok (.aload_n 0, 1) := by decide +kernel
theorem dX7_cell_11 : decode cX7_cell 11 = .ok (.getfield 64, 3) := by decide +kernel
theorem dX7_cell_14 : decode cX7_cell 14 = .ok (.iload_n 1, 1) := by decide +kernel
theorem dX7_cell_15 : decode cX7_cell 15 = .ok (.aaload, 1) := by decide +kernel
theorem dX7_cell_16 : decode cX7_cell 16 = .ok (.astore 4, 2) := by decide +kernel
theorem dX7_cell_18 : decode cX7_cell 18 = .ok (.aload 4, 2) := by decide +kernel
theorem dX7_cell_20 : decode cX7_cell 20 = .ok (.invokevirtual 188, 3) := by decide +kernel
theorem dX7_cell_23 : decode cX7_cell 23 = .ok (.ifCond .eq 6, 3) := by decide +kernel
theorem dX7_cell_26 : decode cX7_cell 26 = .ok (.bipush (-11), 2) := by decide +kernel
theorem dX7_cell_28 : decode cX7_cell 28 = .ok (.ireturn, 1) := by decide +kernel
theorem dX7_cell_29 : decode cX7_cell 29 = .ok (.aload 4, 2) := by decide +kernel
theorem dX7_cell_31 : decode cX7_cell 31 = .ok (.iload_n 2, 1) := by decide +kernel
theorem dX7_cell_32 : decode cX7_cell 32 = .ok (.iconst 1, 1) := by decide +kernel
theorem dX7_cell_33 : decode cX7_cell 33 = .ok (.invokevirtual 230, 3) := by decide +kernel
theorem dX7_cell_36 : decode cX7_cell 36 = .ok (.ifCond .ne 6, 3) := by decide +kernel
theorem dX7_cell_39 : decode cX7_cell 39 = .ok (.bipush (-12), 2) := by decide +kernel
theorem dX7_cell_41 : decode cX7_cell 41 = .ok (.ireturn, 1) := by decide +kernel
theorem dX7_cell_42 : decode cX7_cell 42 = .ok (.aload 4, 2) := by decide +kernel
theorem dX7_cell_44 : decode cX7_cell 44 = .ok (.iload_n 2, 1) := by decide +kernel
theorem dX7_cell_45 : decode cX7_cell 45 = .ok (.iload_n 3, 1) := by decide +kernel
theorem dX7_cell_46 : decode cX7_cell 46 = .ok (.invokevirtual 215, 3) := by decide +kernel
theorem dX7_cell_49 : decode cX7_cell 49 = .ok (.iconst 1, 1) := by decide +kernel
theorem dX7_cell_50 : decode cX7_cell 50 = .ok (.ireturn, 1) := by decide +kernel
theorem dX7_copy_0 : decode cX7_copy 0 = .ok (.iload_n 1, 1) := by decide +kernel
theorem dX7_copy_1 : decode cX7_copy 1 = .ok (.invokestatic 185, 3) := by decide +kernel
theorem dX7_copy_4 : decode cX7_copy 4 = .ok (.ifCond .eq 10, 3) := by decide +kernel
theorem dX7_copy_7 : decode cX7_copy 7 = .ok (.iload_n 3, 1) := by decide +kernel
theorem dX7_copy_8 : decode cX7_copy 8 = .ok (.invokestatic 185, 3) := by decide +kernel
theorem dX7_copy_11 : decode cX7_copy 11 = .ok (.ifCond .ne 6, 3) := by decide +kernel
theorem dX7_copy_14 : decode cX7_copy 14 = .ok (.bipush (-2), 2) := by decide +kernel
theorem dX7_copy_16 : decode cX7_copy 16 = .ok (.ireturn, 1) := by decide +kernel
theorem dX7_copy_17 : decode cX7_copy 17 = .ok (.aload_n 0, 1) := by decide +kernel
theorem dX7_copy_18 : decode cX7_copy 18 = .ok (.getfield 64, 3) := by decide +kernel
theorem dX7_copy_21 : decode cX7_copy 21 = .ok (.iload_n 1, 1) := by decide +kernel
theorem dX7_copy_22 : decode cX7_copy 22 = .ok (.aaload, 1) := by decide +kernel
theorem dX7_copy_23 : decode cX7_copy 23 = .ok (.astore 6, 2) := by decide +kernel
theorem dX7_copy_25 : decode cX7_copy 25 = .ok (.aload_n 0, 1) := by decide +kernel
theorem dX7_copy_26 : decode cX7_copy 26 = .ok (.getfield 64, 3) := by decide +kernel
theorem dX7_copy_29 : decode cX7_copy 29 = .ok (.iload_n 3, 1) := by decide +kernel
theorem dX7_copy_30 : decode cX7_copy 30 = .ok (.aaload, 1) := by decide +kernel
theorem dX7_copy_31 : decode cX7_copy 31 = .ok (.astore 7, 2) := by decide +kernel
theorem dX7_copy_33 : decode cX7_copy 33 = .ok (.aload 6, 2) := by decide +kernel
theorem dX7_copy_35 : decode cX7_copy 35 = .ok (.invokevirtual 188, 3) := by decide +kernel
theorem dX7_copy_38 : decode cX7_copy 38 = .ok (.ifCond .ne 11, 3) := by decide +kernel
theorem dX7_copy_41 : decode cX7_copy 41 = .ok (.aload 7, 2) := by decide +kernel
theorem dX7_copy_43 : decode cX7_copy 43 = .ok (.invokevirtual 188, 3) := by decide +kernel
theorem dX7_copy_46 : decode cX7_copy 46 = .ok (.ifCond .eq 6, 3) := by decide +kernel
theorem dX7_copy_49 : decode cX7_copy 49 = .ok (.bipush (-11), 2) := by decide +kernel
theorem dX7_copy_51 : decode cX7_copy 51 = .ok (.ireturn, 1) := by decide +kernel
theorem dX7_copy_52 : decode cX7_copy 52 = .ok (.aload 6, 2) := by decide +kernel
theorem dX7_copy_54 : decode cX7_copy 54 = .ok (.invokevirtual 233, 3) := by decide +kernel
theorem dX7_copy_57 : decode cX7_copy 57 = .ok (.aload 7, 2) := by decide +kernel
theorem dX7_copy_59 : decode cX7_copy 59 = .ok (.invokevirtual 233, 3) := by decide +kernel
theorem dX7_copy_62 : decode cX7_copy 62 = .ok (.if_icmp .eq 6, 3) := by decide +kernel
theorem dX7_copy_65 : decode cX7_copy 65 = .ok (.bipush (-13), 2) := by decide +kernel
theorem dX7_copy_67 : decode cX7_copy 67 = .ok (.ireturn, 1) := by decide +kernel
theorem dX7_copy_68 : decode cX7_copy 68 = .ok (.aload 6, 2) := by decide +kernel
theorem dX7_copy_70 : decode cX7_copy 70 = .ok (.iload_n 2, 1) := by decide +kernel
theorem dX7_copy_71 : decode cX7_copy 71 = .ok (.iload 5, 2) := by decide +kernel
theorem dX7_copy_73 : decode cX7_copy 73 = .ok (.invokevirtual 230, 3) := by decide +kernel
theorem dX7_copy_76 : decode cX7_copy 76 = .ok (.ifCond .eq 15, 3) := by decide +kernel
theorem dX7_copy_79 : decode cX7_copy 79 = .ok (.aload 7, 2) := by decide +kernel
theorem dX7_copy_81 : decode cX7_copy 81 = .ok (.iload 4, 2) := by decide +kernel
theorem dX7_copy_83 : decode cX7_copy 83 = .ok (.iload 5, 2) := by decide +kernel
theorem dX7_copy_85 : decode cX7_copy 85 = .ok (.invokevirtual 230, 3) := by decide +kernel
theorem dX7_copy_88 : decode cX7_copy 88 = .ok (.ifCond .ne 6, 3) := by decide +kernel
theorem dX7_copy_91 : decode cX7_copy 91 = .ok (.bipush (-12), 2) := by decide +kernel
theorem dX7_copy_93 : decode cX7_copy 93 = .ok (.ireturn, 1) := by decide +kernel
theorem dX7_copy_94 : decode cX7_copy 94 = .ok (.aload 7, 2) := by decide +kernel
theorem dX7_copy_96 : decode cX7_copy 96 = .ok (.aload 6, 2) := by decide +kernel
theorem dX7_copy_98 : decode cX7_copy 98 = .ok (.iload_n 2, 1) := by decide +kernel
theorem dX7_copy_99 : decode cX7_copy 99 = .ok (.iload 4, 2) := by decide +kernel
theorem dX7_copy_101 : decode cX7_copy 101 = .ok (.iload 5, 2) := by decide +kernel
theorem dX7_copy_103 : decode cX7_copy 103 = .ok (.invokevirtual 236, 3) := by decide +kernel
theorem dX7_copy_106 : decode cX7_copy 106 = .ok (.iload 5, 2) := by decide +kernel
theorem dX7_copy_108 : decode cX7_copy 108 = .ok (.ireturn, 1) := by decide +kernel
theorem dX7_court_0 : decode cX7_court 0 = .ok (.iload_n 1, 1) := by decide +kernel
theorem dX7_court_1 : decode cX7_court 1 = .ok (.invokestatic 185, 3) := by decide +kernel
theorem dX7_court_4 : decode cX7_court 4 = .ok (.ifCond .eq 21, 3) := by decide +kernel
theorem dX7_court_7 : decode cX7_court 7 = .ok (.iload_n 2, 1) := by decide +kernel
theorem dX7_court_8 : decode cX7_court 8 = .ok (.invokestatic 227, 3) := by decide +kernel
theorem dX7_court_11 : decode cX7_court 11 = .ok (.ifCond .eq 14, 3) := by decide +kernel
theorem dX7_court_14 : decode cX7_court 14 = .ok (.iload 4, 2) := by decide +kernel
theorem dX7_court_16 : decode cX7_court 16 = .ok (.ifCond .lt 9, 3) := by decide +kernel
theorem dX7_court_19 : decode cX7_court 19 = .ok (.iload 4, 2) := by decide +kernel
theorem dX7_court_21 : decode cX7_court 21 = .ok (.iconst 5, 1) := by decide +kernel
theorem dX7_court_22 : decode cX7_court 22 = .ok (.if_icmp .le 6, 3) := by decide +kernel
theorem dX7_court_25 : decode cX7_court 25 = .ok (.bipush (-2), 2) := by decide +kernel
theorem dX7_court_27 : decode cX7_court 27 = .ok (.ireturn, 1) := by decide +kernel
theorem dX7_court_28 : decode cX7_court 28 = .ok (.aload_n 0, 1) := by decide +kernel
theorem dX7_court_29 : decode cX7_court 29 = .ok (.getfield 64, 3) := by decide +kernel
theorem dX7_court_32 : decode cX7_court 32 = .ok (.iload_n 1, 1) := by decide +kernel
theorem dX7_court_33 : decode cX7_court 33 = .ok (.aaload, 1) := by decide +kernel
theorem dX7_court_34 : decode cX7_court 34 = .ok (.astore 5, 2) := by decide +kernel
theorem dX7_court_36 : decode cX7_court 36 = .ok (.aload 5, 2) := by decide +kernel
theorem dX7_court_38 : decode cX7_court 38 = .ok (.invokevirtual 188, 3) := by decide +kernel
theorem dX7_court_41 : decode cX7_court 41 = .ok (.ifCond .eq 6, 3) := by decide +kernel
theorem dX7_court_44 : decode cX7_court 44 = .ok (.bipush (-11), 2) := by decide +kernel
theorem dX7_court_46 : decode cX7_court 46 = .ok (.ireturn, 1) := by decide +kernel
theorem dX7_court_47 : decode cX7_court 47 = .ok (.aload 5, 2) := by decide +kernel
theorem dX7_court_49 : decode cX7_court 49 = .ok (.invokevirtual 233, 3) := by decide +kernel
theorem dX7_court_52 : decode cX7_court 52 = .ok (.iload_n 2, 1) := by decide +kernel
theorem dX7_court_53 : decode cX7_court 53 = .ok (.if_icmp .eq 6, 3) := by decide +kernel
theorem dX7_court_56 : decode cX7_court 56 = .ok (.bipush (-13), 2) := by decide +kernel
theorem dX7_court_58 : decode cX7_court 58 = .ok (.ireturn, 1) := by decide +kernel
theorem dX7_court_59 : decode cX7_court 59 = .ok (.iconst 0, 1) := by decide +kernel
theorem dX7_court_60 : decode cX7_court 60 = .ok (.istore 6, 2) := by decide +kernel
theorem dX7_court_62 : decode cX7_court 62 = .ok (.iload_n 3, 1) := by decide +kernel
theorem dX7_court_63 : decode cX7_court 63 = .ok (.istore 7, 2) := by decide +kernel
theorem dX7_court_65 : decode cX7_court 65 = .ok (.iconst 0, 1) := by decide +kernel
theorem dX7_court_66 : decode cX7_court 66 = .ok (.istore 8, 2) := by decide +kernel
theorem dX7_court_68 : decode cX7_court 68 = .ok (.iload 8, 2) := by decide +kernel
theorem dX7_court_70 : decode cX7_court 70 = .ok (.iload 4, 2) := by decide +kernel
theorem dX7_court_72 : decode cX7_court 72 = .ok (.if_icmp .ge 64, 3) := by decide +kernel
theorem dX7_court_75 : decode cX7_court 75 = .ok (.aload 5, 2) := by decide +kernel
theorem dX7_court_77 : decode cX7_court 77 = .ok (.iload 7, 2) := by decide +kernel
theorem dX7_court_79 : decode cX7_court 79 = .ok (.iconst 3, 1) := by decide +kernel
theorem dX7_court_80 : decode cX7_court 80 = .ok (.invokevirtual 230, 3) := by decide +kernel
theorem dX7_court_83 : decode cX7_court 83 = .ok (.ifCond .ne 6, 3) := by decide +kernel
theorem dX7_court_86 : decode cX7_court 86 = .ok (.bipush (-12), 2) := by decide +kernel
theorem dX7_court_88 : decode cX7_court 88 = .ok (.ireturn, 1) := by decide +kernel
theorem dX7_court_89 : decode cX7_court 89 = .ok (.aload_n 0, 1) := by decide +kernel
theorem dX7_court_90 : decode cX7_court 90 = .ok (.getfield 45, 3) := by decide +kernel
theorem dX7_court_93 : decode cX7_court 93 = .ok (.aload 5, 2) := by decide +kernel
theorem dX7_court_95 : decode cX7_court 95 = .ok (.iload 7, 2) := by decide +kernel
theorem dX7_court_97 : decode cX7_court 97 = .ok (.invokevirtual 240, 3) := by decide +kernel
theorem dX7_court_100 : decode cX7_court 100 = .ok (.aload 5, 2) := by decide +kernel
theorem dX7_court_102 : decode cX7_court 102 = .ok (.iload 7, 2) := by decide +kernel
theorem dX7_court_104 : decode cX7_court 104 = .ok (.iconst 1, 1) := by decide +kernel
theorem dX7_court_105 : decode cX7_court 105 = .ok (.iadd, 1) := by decide +kernel
theorem dX7_court_106 : decode cX7_court 106 = .ok (.invokevirtual 240, 3) := by decide +kernel
theorem dX7_court_109 : decode cX7_court 109 = .ok (.aload 5, 2) := by decide +kernel
theorem dX7_court_111 : decode cX7_court 111 = .ok (.iload 7, 2) := by decide +kernel
theorem dX7_court_113 : decode cX7_court 113 = .ok (.iconst 2, 1) := by decide +kernel
theorem dX7_court_114 : decode cX7_court 114 = .ok (.iadd, 1) := by decide +kernel
theorem dX7_court_115 : decode cX7_court 115 = .ok (.invokevirtual 240, 3) := by decide +kernel
theorem dX7_court_118 : decode cX7_court 118 = .ok (.invokevirtual 85, 3) := by decide +kernel
theorem dX7_court_121 : decode cX7_court 121 = .ok (.ifCond .lt 6, 3) := by decide +kernel
theorem dX7_court_124 : decode cX7_court 124 = .ok (.iinc 6 1, 3) := by decide +kernel
theorem dX7_court_127 : decode cX7_court 127 = .ok (.iinc 7 3, 3) := by decide +kernel
theorem dX7_court_130 : decode cX7_court 130 = .ok (.iinc 8 1, 3) := by decide +kernel
theorem dX7_court_133 : decode cX7_court 133 = .ok (.goto (-65), 3) := by decide +kernel
theorem dX7_court_136 : decode cX7_court 136 = .ok (.iload 6, 2) := by decide +kernel
theorem dX7_court_138 : decode cX7_court 138 = .ok (.ireturn, 1) := by decide +kernel
theorem dX7_taken_0 : decode cX7_taken 0 = .ok (.iload_n 2, 1) := by decide +kernel
theorem dX7_taken_1 : decode cX7_taken 1 = .ok (.ifCond .lt 9, 3) := by decide +kernel
theorem dX7_taken_4 : decode cX7_taken 4 = .ok (.iload_n 2, 1) := by decide +kernel
theorem dX7_taken_5 : decode cX7_taken 5 = .ok (.bipush 6, 2) := by decide +kernel
theorem dX7_taken_7 : decode cX7_taken 7 = .ok (.if_icmp .lt 6, 3) := by decide +kernel
theorem dX7_taken_10 : decode cX7_taken 10 = .ok (.bipush (-2), 2) := by decide +kernel
theorem dX7_taken_12 : decode cX7_taken 12 = .ok (.ireturn, 1) := by decide +kernel
theorem dX7_taken_13 : decode cX7_taken 13 = .ok (.aload_n 0, 1) := by decide +kernel
theorem dX7_taken_14 : decode cX7_taken 14 = .ok (.getfield 45, 3) := by decide +kernel
theorem dX7_taken_17 : decode cX7_taken 17 = .ok (.iload_n 1, 1) := by decide +kernel
theorem dX7_taken_18 : decode cX7_taken 18 = .ok (.invokevirtual 89, 3) := by decide +kernel
theorem dX7_taken_21 : decode cX7_taken 21 = .ok (.ifCond .ne 6, 3) := by decide +kernel
theorem dX7_taken_24 : decode cX7_taken 24 = .ok (.bipush (-11), 2) := by decide +kernel
theorem dX7_taken_26 : decode cX7_taken 26 = .ok (.ireturn, 1) := by decide +kernel
theorem dX7_taken_27 : decode cX7_taken 27 = .ok (.aload_n 0, 1) := by decide +kernel
theorem dX7_taken_28 : decode cX7_taken 28 = .ok (.getfield 45, 3) := by decide +kernel
theorem dX7_taken_31 : decode cX7_taken 31 = .ok (.bipush 7, 2) := by decide +kernel
theorem dX7_taken_33 : decode cX7_taken 33 = .ok (.iload_n 1, 1) := by decide +kernel
theorem dX7_taken_34 : decode cX7_taken 34 = .ok (.invokevirtual 77, 3) := by decide +kernel
theorem dX7_taken_37 : decode cX7_taken 37 = .ok (.iload_n 2, 1) := by decide +kernel
theorem dX7_taken_38 : decode cX7_taken 38 = .ok (.invokestatic 242, 3) := by decide +kernel
theorem dX7_taken_41 : decode cX7_taken 41 = .ok (.ifCond .eq 15, 3) := by decide +kernel
theorem dX7_taken_44 : decode cX7_taken 44 = .ok (.aload_n 0, 1) := by decide +kernel
theorem dX7_taken_45 : decode cX7_taken 45 = .ok (.getfield 45, 3) := by decide +kernel
theorem dX7_taken_48 : decode cX7_taken 48 = .ok (.iconst 1, 1) := by decide +kernel
theorem dX7_taken_49 : decode cX7_taken 49 = .ok (.iload_n 1, 1) := by decide +kernel
theorem dX7_taken_50 : decode cX7_taken 50 = .ok (.invokevirtual 77, 3) := by decide +kernel
theorem dX7_taken_53 : decode cX7_taken 53 = .ok (.goto 5, 3) := by decide +kernel
theorem dX7_taken_56 : decode cX7_taken 56 = .ok (.bipush (-13), 2) := by decide +kernel
theorem dX7_taken_58 : decode cX7_taken 58 = .ok (.ireturn, 1) := by decide +kernel
theorem dX7_isSheet_0 : decode cX7_isSheet 0 = .ok (.iload_n 0, 1) := by decide +kernel
theorem dX7_isSheet_1 : decode cX7_isSheet 1 = .ok (.ifCond .lt 12, 3) := by decide +kernel
theorem dX7_isSheet_4 : decode cX7_isSheet 4 = .ok (.iload_n 0, 1) := by decide +kernel
theorem dX7_isSheet_5 : decode cX7_isSheet 5 = .ok (.iconst 4, 1) := by decide +kernel
theorem dX7_isSheet_6 : decode cX7_isSheet 6 = .ok (.if_icmp .ge 7, 3) := by decide +kernel
theorem dX7_isSheet_9 : decode cX7_isSheet 9 = .ok (.iconst 1, 1) := by decide +kernel
theorem dX7_isSheet_10 : decode cX7_isSheet 10 = .ok (.goto 4, 3) := by decide +kernel
theorem dX7_isSheet_13 : decode cX7_isSheet 13 = .ok (.iconst 0, 1) := by decide +kernel
theorem dX7_isSheet_14 : decode cX7_isSheet 14 = .ok (.ireturn, 1) := by decide +kernel
theorem dX7_isSort_0 : decode cX7_isSort 0 = .ok (.iload_n 0, 1) := by decide +kernel
theorem dX7_isSort_1 : decode cX7_isSort 1 = .ok (.ifCond .lt 12, 3) := by decide +kernel
theorem dX7_isSort_4 : decode cX7_isSort 4 = .ok (.iload_n 0, 1) := by decide +kernel
theorem dX7_isSort_5 : decode cX7_isSort 5 = .ok (.iconst 2, 1) := by decide +kernel
theorem dX7_isSort_6 : decode cX7_isSort 6 = .ok (.if_icmp .gt 7, 3) := by decide +kernel
theorem dX7_isSort_9 : decode cX7_isSort 9 = .ok (.iconst 1, 1) := by decide +kernel
theorem dX7_isSort_10 : decode cX7_isSort 10 = .ok (.goto 4, 3) := by decide +kernel
theorem dX7_isSort_13 : decode cX7_isSort 13 = .ok (.iconst 0, 1) := by decide +kernel
theorem dX7_isSort_14 : decode cX7_isSort 14 = .ok (.ireturn, 1) := by decide +kernel
theorem dX7_isUnder_0 : decode cX7_isUnder 0 = .ok (.iload_n 0, 1) := by decide +kernel
theorem dX7_isUnder_1 : decode cX7_isUnder 1 = .ok (.istore_n 2, 1) := by decide +kernel
theorem dX7_isUnder_2 : decode cX7_isUnder 2 = .ok (.iconst 0, 1) := by decide +kernel
theorem dX7_isUnder_3 : decode cX7_isUnder 3 = .ok (.istore_n 3, 1) := by decide +kernel
theorem dX7_isUnder_4 : decode cX7_isUnder 4 = .ok (.iload_n 3, 1) := by decide +kernel
theorem dX7_isUnder_5 : decode cX7_isUnder 5 = .ok (.bipush 6, 2) := by decide +kernel
theorem dX7_isUnder_7 : decode cX7_isUnder 7 = .ok (.if_icmp .ge 32, 3) := by decide +kernel
theorem dX7_isUnder_10 : decode cX7_isUnder 10 = .ok (.iload_n 2, 1) := by decide +kernel
theorem dX7_isUnder_11 : decode cX7_isUnder 11 = .ok (.ifCond .lt 28, 3) := by decide +kernel
theorem dX7_isUnder_14 : decode cX7_isUnder 14 = .ok (.iload_n 2, 1) := by decide +kernel
theorem dX7_isUnder_15 : decode cX7_isUnder 15 = .ok (.bipush 6, 2) := by decide +kernel
theorem dX7_isUnder_17 : decode cX7_isUnder 17 = .ok (.if_icmp .ge 22, 3) := by decide +kernel
theorem dX7_isUnder_20 : decode cX7_isUnder 20 = .ok (.iload_n 2, 1) := by decide +kernel
theorem dX7_isUnder_21 : decode cX7_isUnder 21 = .ok (.iload_n 1, 1) := by decide +kernel
theorem dX7_isUnder_22 : decode cX7_isUnder 22 = .ok (.if_icmp .ne 5, 3) := by decide +kernel
theorem dX7_isUnder_25 : decode cX7_isUnder 25 = .ok (.iconst 1, 1) := by decide +kernel
theorem dX7_isUnder_26 : decode cX7_isUnder 26 = .ok (.ireturn, 1) := by decide +kernel
theorem dX7_isUnder_27 : decode cX7_isUnder 27 = .ok (.getstatic 245, 3) := by decide +kernel
theorem dX7_isUnder_30 : decode cX7_isUnder 30 = .ok (.iload_n 2, 1) := by decide +kernel
theorem dX7_isUnder_31 : decode cX7_isUnder 31 = .ok (.iaload, 1) := by decide +kernel
theorem dX7_isUnder_32 : decode cX7_isUnder 32 = .ok (.istore_n 2, 1) := by decide +kernel
theorem dX7_isUnder_33 : decode cX7_isUnder 33 = .ok (.iinc 3 1, 3) := by decide +kernel
theorem dX7_isUnder_36 : decode cX7_isUnder 36 = .ok (.goto (-32), 3) := by decide +kernel
theorem dX7_isUnder_39 : decode cX7_isUnder 39 = .ok (.iconst 0, 1) := by decide +kernel
theorem dX7_isUnder_40 : decode cX7_isUnder 40 = .ok (.ireturn, 1) := by decide +kernel
theorem dX7_partOf_0 : decode cX7_partOf 0 = .ok (.iload_n 1, 1) := by decide +kernel
theorem dX7_partOf_1 : decode cX7_partOf 1 = .ok (.istore_n 3, 1) := by decide +kernel
theorem dX7_partOf_2 : decode cX7_partOf 2 = .ok (.iload_n 3, 1) := by decide +kernel
theorem dX7_partOf_3 : decode cX7_partOf 3 = .ok (.iconst 1, 1) := by decide +kernel
theorem dX7_partOf_4 : decode cX7_partOf 4 = .ok (.if_icmp .le 37, 3) := by decide +kernel
theorem dX7_partOf_7 : decode cX7_partOf 7 = .ok (.iload_n 0, 1) := by decide +kernel
theorem dX7_partOf_8 : decode cX7_partOf 8 = .ok (.iload_n 3, 1) := by decide +kernel
theorem dX7_partOf_9 : decode cX7_partOf 9 = .ok (.irem, 1) := by decide +kernel
theorem dX7_partOf_10 : decode cX7_partOf 10 = .ok (.ifCond .ne 25, 3) := by decide +kernel
theorem dX7_partOf_13 : decode cX7_partOf 13 = .ok (.iload_n 1, 1) := by decide +kernel
theorem dX7_partOf_14 : decode cX7_partOf 14 = .ok (.iload_n 3, 1) := by decide +kernel
theorem dX7_partOf_15 : decode cX7_partOf 15 = .ok (.irem, 1) := by decide +kernel
theorem dX7_partOf_16 : decode cX7_partOf 16 = .ok (.ifCond .ne 19, 3) := by decide +kernel
theorem dX7_partOf_19 : decode cX7_partOf 19 = .ok (.iload_n 2, 1) := by decide +kernel
theorem dX7_partOf_20 : decode cX7_partOf 20 = .ok (.ifCond .ne 10, 3) := by decide +kernel
theorem dX7_partOf_23 : decode cX7_partOf 23 = .ok (.iload_n 0, 1) := by decide +kernel
theorem dX7_partOf_24 : decode cX7_partOf 24 = .ok (.iload_n 3, 1) := by decide +kernel
theorem dX7_partOf_25 : decode cX7_partOf 25 = .ok (.idiv, 1) := by decide +kernel
theorem dX7_partOf_26 : decode cX7_partOf 26 = .ok (.i2l, 1) := by decide +kernel
theorem dX7_partOf_27 : decode cX7_partOf 27 = .ok (.goto 7, 3) := by decide +kernel
theorem dX7_partOf_30 : decode cX7_partOf 30 = .ok (.iload_n 1, 1) := by decide +kernel
theorem dX7_partOf_31 : decode cX7_partOf 31 = .ok (.iload_n 3, 1) := by decide +kernel
theorem dX7_partOf_32 : decode cX7_partOf 32 = .ok (.idiv, 1) := by decide +kernel
theorem dX7_partOf_33 : decode cX7_partOf 33 = .ok (.i2l, 1) := by decide +kernel
theorem dX7_partOf_34 : decode cX7_partOf 34 = .ok (.lreturn, 1) := by decide +kernel
theorem dX7_partOf_35 : decode cX7_partOf 35 = .ok (.iinc 3 (-1), 3) := by decide +kernel
theorem dX7_partOf_38 : decode cX7_partOf 38 = .ok (.goto (-36), 3) := by decide +kernel
theorem dX7_partOf_41 : decode cX7_partOf 41 = .ok (.iload_n 2, 1) := by decide +kernel
theorem dX7_partOf_42 : decode cX7_partOf 42 = .ok (.ifCond .ne 8, 3) := by decide +kernel
theorem dX7_partOf_45 : decode cX7_partOf 45 = .ok (.iload_n 0, 1) := by decide +kernel
theorem dX7_partOf_46 : decode cX7_partOf 46 = .ok (.i2l, 1) := by decide +kernel
theorem dX7_partOf_47 : decode cX7_partOf 47 = .ok (.goto 5, 3) := by decide +kernel
theorem dX7_partOf_50 : decode cX7_partOf 50 = .ok (.iload_n 1, 1) := by decide +kernel
theorem dX7_partOf_51 : decode cX7_partOf 51 = .ok (.i2l, 1) := by decide +kernel
theorem dX7_partOf_52 : decode cX7_partOf 52 = .ok (.lreturn, 1) := by decide +kernel
theorem dX7_passDays_0 : decode cX7_passDays 0 = .ok (.iconst 0, 1) := by decide +kernel
theorem dX7_passDays_1 : decode cX7_passDays 1 = .ok (.istore_n 2, 1) := by decide +kernel
theorem dX7_passDays_2 : decode cX7_passDays 2 = .ok (.iload_n 2, 1) := by decide +kernel
theorem dX7_passDays_3 : decode cX7_passDays 3 = .ok (.iload_n 1, 1) := by decide +kernel
theorem dX7_passDays_4 : decode cX7_passDays 4 = .ok (.if_icmp .ge 31, 3) := by decide +kernel
theorem dX7_passDays_7 : decode cX7_passDays 7 = .ok (.aload_n 0, 1) := by decide +kernel
theorem dX7_passDays_8 : decode cX7_passDays 8 = .ok (.getfield 38, 3) := by decide +kernel
theorem dX7_passDays_11 : decode cX7_passDays 11 = .ok (.aload_n 0, 1) := by decide +kernel
theorem dX7_passDays_12 : decode cX7_passDays 12 = .ok (.getfield 49, 3) := by decide +kernel
theorem dX7_passDays_15 : decode cX7_passDays 15 = .ok (.invokevirtual 137, 3) := by decide +kernel
theorem dX7_passDays_18 : decode cX7_passDays 18 = .ok (.aload_n 0, 1) := by decide +kernel
theorem dX7_passDays_19 : decode cX7_passDays 19 = .ok (.getfield 38, 3) := by decide +kernel
theorem dX7_passDays_22 : decode cX7_passDays 22 = .ok (.aload_n 0, 1) := by decide +kernel
theorem dX7_passDays_23 : decode cX7_passDays 23 = .ok (.getfield 49, 3) := by decide +kernel
theorem dX7_passDays_26 : decode cX7_passDays 26 = .ok (.invokevirtual 141, 3) := by decide +kernel
theorem dX7_passDays_29 : decode cX7_passDays 29 = .ok (.iinc 2 1, 3) := by decide +kernel
theorem dX7_passDays_32 : decode cX7_passDays 32 = .ok (.goto (-30), 3) := by decide +kernel
theorem dX7_passDays_35 : decode cX7_passDays 35 = .ok (.return_, 1) := by decide +kernel
theorem dX7_lateBehind_0 : decode cX7_lateBehind 0 = .ok (.aload_n 0, 1) := by decide +kernel
theorem dX7_lateBehind_1 : decode cX7_lateBehind 1 = .ok (.getfield 49, 3) := by decide +kernel
theorem dX7_lateBehind_4 : decode cX7_lateBehind 4 = .ok (.aload_n 0, 1) := by decide +kernel
theorem dX7_lateBehind_5 : decode cX7_lateBehind 5 = .ok (.getfield 45, 3) := by decide +kernel
theorem dX7_lateBehind_8 : decode cX7_lateBehind 8 = .ok (.invokevirtual 148, 3) := by decide +kernel
theorem dX7_lateBehind_11 : decode cX7_lateBehind 11 = .ok (.aload_n 0, 1) := by decide +kernel
theorem dX7_lateBehind_12 : decode cX7_lateBehind 12 = .ok (.getfield 49, 3) := by decide +kernel
theorem dX7_lateBehind_15 : decode cX7_lateBehind 15 = .ok (.iload_n 2, 1) := by decide +kernel
theorem dX7_lateBehind_16 : decode cX7_lateBehind 16 = .ok (.iload_n 3, 1) := by decide +kernel
theorem dX7_lateBehind_17 : decode cX7_lateBehind 17 = .ok (.iload 4, 2) := by decide +kernel
theorem dX7_lateBehind_19 : decode cX7_lateBehind 19 = .ok (.invokevirtual 81, 3) := by decide +kernel
theorem dX7_lateBehind_22 : decode cX7_lateBehind 22 = .ok (.aload_n 0, 1) := by decide +kernel
theorem dX7_lateBehind_23 : decode cX7_lateBehind 23 = .ok (.iload_n 1, 1) := by decide +kernel
theorem dX7_lateBehind_24 : decode cX7_lateBehind 24 = .ok (.invokevirtual 151, 3) := by decide +kernel
theorem dX7_lateBehind_27 : decode cX7_lateBehind 27 = .ok (.aload_n 0, 1) := by decide +kernel
theorem dX7_lateBehind_28 : decode cX7_lateBehind 28 = .ok (.getfield 49, 3) := by decide +kernel
theorem dX7_lateBehind_31 : decode cX7_lateBehind 31 = .ok (.iconst 5, 1) := by decide +kernel
theorem dX7_lateBehind_32 : decode cX7_lateBehind 32 = .ok (.invokevirtual 160, 3) := by decide +kernel
theorem dX7_lateBehind_35 : decode cX7_lateBehind 35 = .ok (.ireturn, 1) := by decide +kernel
theorem dX7_firstOtherwise_0 : decode cX7_firstOtherwise 0 = .ok (.aload_n 0, 1) := by decide +kernel
theorem dX7_firstOtherwise_1 : decode cX7_firstOtherwise 1 = .ok (.getfield 49, 3) := by decide +kernel
theorem dX7_firstOtherwise_4 : decode cX7_firstOtherwise 4 = .ok (.aload_n 0, 1) := by decide +kernel
theorem dX7_firstOtherwise_5 : decode cX7_firstOtherwise 5 = .ok (.getfield 45, 3) := by decide +kernel
theorem dX7_firstOtherwise_8 : decode cX7_firstOtherwise 8 = .ok (.invokevirtual 148, 3) := by decide +kernel
theorem dX7_firstOtherwise_11 : decode cX7_firstOtherwise 11 = .ok (.aload_n 0, 1) := by decide +kernel
theorem dX7_firstOtherwise_12 : decode cX7_firstOtherwise 12 = .ok (.getfield 49, 3) := by decide +kernel
theorem dX7_firstOtherwise_15 : decode cX7_firstOtherwise 15 = .ok (.iload_n 3, 1) := by decide +kernel
theorem dX7_firstOtherwise_16 : decode cX7_firstOtherwise 16 = .ok (.iload 4, 2) := by decide +kernel
theorem dX7_firstOtherwise_18 : decode cX7_firstOtherwise 18 = .ok (.iload 5, 2) := by decide +kernel
theorem dX7_firstOtherwise_20 : decode cX7_firstOtherwise 20 = .ok (.invokevirtual 81, 3) := by decide +kernel
theorem dX7_firstOtherwise_23 : decode cX7_firstOtherwise 23 = .ok (.iconst 0, 1) := by decide +kernel
theorem dX7_firstOtherwise_24 : decode cX7_firstOtherwise 24 = .ok (.istore 6, 2) := by decide +kernel
theorem dX7_firstOtherwise_26 : decode cX7_firstOtherwise 26 = .ok (.iload 6, 2) := by decide +kernel
theorem dX7_firstOtherwise_28 : decode cX7_firstOtherwise 28 = .ok (.aload_n 1, 1) := by decide +kernel
theorem dX7_firstOtherwise_29 : decode cX7_firstOtherwise 29 = .ok (.invokevirtual 192, 3) := by decide +kernel
theorem dX7_firstOtherwise_32 : decode cX7_firstOtherwise 32 = .ok (.if_icmp .ge 51, 3) := by decide +kernel
theorem dX7_firstOtherwise_35 : decode cX7_firstOtherwise 35 = .ok (.aload_n 0, 1) := by decide +kernel
theorem dX7_firstOtherwise_36 : decode cX7_firstOtherwise 36 = .ok (.getfield 38, 3) := by decide +kernel
theorem dX7_firstOtherwise_39 : decode cX7_firstOtherwise 39 = .ok (.aload_n 0, 1) := by decide +kernel
theorem dX7_firstOtherwise_40 : decode cX7_firstOtherwise 40 = .ok (.getfield 49, 3) := by decide +kernel
theorem dX7_firstOtherwise_43 : decode cX7_firstOtherwise 43 = .ok (.invokevirtual 137, 3) := by decide +kernel
theorem dX7_firstOtherwise_46 : decode cX7_firstOtherwise 46 = .ok (.aload_n 0, 1) := by decide +kernel
theorem dX7_firstOtherwise_47 : decode cX7_firstOtherwise 47 = .ok (.getfield 38, 3) := by decide +kernel
theorem dX7_firstOtherwise_50 : decode cX7_firstOtherwise 50 = .ok (.iload_n 2, 1) := by decide +kernel
theorem dX7_firstOtherwise_51 : decode cX7_firstOtherwise 51 = .ok (.invokevirtual 212, 3) := by decide +kernel
theorem dX7_firstOtherwise_54 : decode cX7_firstOtherwise 54 = .ok (.aload_n 1, 1) := by decide +kernel
theorem dX7_firstOtherwise_55 : decode cX7_firstOtherwise 55 = .ok (.iload 6, 2) := by decide +kernel
theorem dX7_firstOtherwise_57 : decode cX7_firstOtherwise 57 = .ok (.invokevirtual 240, 3) := by decide +kernel
theorem dX7_firstOtherwise_60 : decode cX7_firstOtherwise 60 = .ok (.if_icmp .eq 6, 3) := by decide +kernel
theorem dX7_firstOtherwise_63 : decode cX7_firstOtherwise 63 = .ok (.iload 6, 2) := by decide +kernel
theorem dX7_firstOtherwise_65 : decode cX7_firstOtherwise 65 = .ok (.ireturn, 1) := by decide +kernel
theorem dX7_firstOtherwise_66 : decode cX7_firstOtherwise 66 = .ok (.aload_n 0, 1) := by decide +kernel
theorem dX7_firstOtherwise_67 : decode cX7_firstOtherwise 67 = .ok (.getfield 38, 3) := by decide +kernel
theorem dX7_firstOtherwise_70 : decode cX7_firstOtherwise 70 = .ok (.aload_n 0, 1) := by decide +kernel
theorem dX7_firstOtherwise_71 : decode cX7_firstOtherwise 71 = .ok (.getfield 49, 3) := by decide +kernel
theorem dX7_firstOtherwise_74 : decode cX7_firstOtherwise 74 = .ok (.invokevirtual 141, 3) := by decide +kernel
theorem dX7_firstOtherwise_77 : decode cX7_firstOtherwise 77 = .ok (.iinc 6 1, 3) := by decide +kernel
theorem dX7_firstOtherwise_80 : decode cX7_firstOtherwise 80 = .ok (.goto (-54), 3) := by decide +kernel
theorem dX7_firstOtherwise_83 : decode cX7_firstOtherwise 83 = .ok (.iconst (-1), 1) := by decide +kernel
theorem dX7_firstOtherwise_84 : decode cX7_firstOtherwise 84 = .ok (.ireturn, 1) := by decide +kernel
theorem dX7_bitsThatFit_0 : decode cX7_bitsThatFit 0 = .ok (.iconst 0, 1) := by decide +kernel
theorem dX7_bitsThatFit_1 : decode cX7_bitsThatFit 1 = .ok (.istore 6, 2) := by decide +kernel
theorem dX7_bitsThatFit_3 : decode cX7_bitsThatFit 3 = .ok (.iconst 0, 1) := by decide +kernel
theorem dX7_bitsThatFit_4 : decode cX7_bitsThatFit 4 = .ok (.istore 7, 2) := by decide +kernel
theorem dX7_bitsThatFit_6 : decode cX7_bitsThatFit 6 = .ok (.iload 7, 2) := by decide +kernel
theorem dX7_bitsThatFit_8 : decode cX7_bitsThatFit 8 = .ok (.iload 5, 2) := by decide +kernel
theorem dX7_bitsThatFit_10 : decode cX7_bitsThatFit 10 = .ok (.if_icmp .ge 33, 3) := by decide +kernel
theorem dX7_bitsThatFit_13 : decode cX7_bitsThatFit 13 = .ok (.aload_n 0, 1) := by decide +kernel
theorem dX7_bitsThatFit_14 : decode cX7_bitsThatFit 14 = .ok (.aload_n 1, 1) := by decide +kernel
theorem dX7_bitsThatFit_15 : decode cX7_bitsThatFit 15 = .ok (.iload_n 2, 1) := by decide +kernel
theorem dX7_bitsThatFit_16 : decode cX7_bitsThatFit 16 = .ok (.iload_n 3, 1) := by decide +kernel
theorem dX7_bitsThatFit_17 : decode cX7_bitsThatFit 17 = .ok (.iload 4, 2) := by decide +kernel
theorem dX7_bitsThatFit_19 : decode cX7_bitsThatFit 19 = .ok (.iload 7, 2) := by decide +kernel
theorem dX7_bitsThatFit_21 : decode cX7_bitsThatFit 21 = .ok (.invokevirtual 193, 3) := by decide +kernel
theorem dX7_bitsThatFit_24 : decode cX7_bitsThatFit 24 = .ok (.iconst (-1), 1) := by decide +kernel
theorem dX7_bitsThatFit_25 : decode cX7_bitsThatFit 25 = .ok (.if_icmp .ne 12, 3) := by decide +kernel
theorem dX7_bitsThatFit_28 : decode cX7_bitsThatFit 28 = .ok (.iload 6, 2) := by decide +kernel
theorem dX7_bitsThatFit_30 : decode cX7_bitsThatFit 30 = .ok (.iconst 1, 1) := by decide +kernel
theorem dX7_bitsThatFit_31 : decode cX7_bitsThatFit 31 = .ok (.iload 7, 2) := by decide +kernel
theorem dX7_bitsThatFit_33 : decode cX7_bitsThatFit 33 = .ok (.ishl, 1) := by decide +kernel
theorem dX7_bitsThatFit_34 : decode cX7_bitsThatFit 34 = .ok (.ior, 1) := by decide +kernel
theorem dX7_bitsThatFit_35 : decode cX7_bitsThatFit 35 = .ok (.istore 6, 2) := by decide +kernel
theorem dX7_bitsThatFit_37 : decode cX7_bitsThatFit 37 = .ok (.iinc 7 1, 3) := by decide +kernel
theorem dX7_bitsThatFit_40 : decode cX7_bitsThatFit 40 = .ok (.goto (-34), 3) := by decide +kernel
theorem dX7_bitsThatFit_43 : decode cX7_bitsThatFit 43 = .ok (.iload 6, 2) := by decide +kernel
theorem dX7_bitsThatFit_45 : decode cX7_bitsThatFit 45 = .ok (.ireturn, 1) := by decide +kernel
theorem dX7_tiredThatFits_0 : decode cX7_tiredThatFits 0 = .ok (.aload_n 0, 1) := by decide +kernel
theorem dX7_tiredThatFits_1 : decode cX7_tiredThatFits 1 = .ok (.getfield 19, 3) := by decide +kernel
theorem dX7_tiredThatFits_4 : decode cX7_tiredThatFits 4 = .ok (.aload_n 0, 1) := by decide +kernel
theorem dX7_tiredThatFits_5 : decode cX7_tiredThatFits 5 = .ok (.getfield 45, 3) := by decide +kernel
theorem dX7_tiredThatFits_8 : decode cX7_tiredThatFits 8 = .ok (.invokevirtual 248, 3) := by decide +kernel
theorem dX7_tiredThatFits_11 : decode cX7_tiredThatFits 11 = .ok (.ifCond .eq 7, 3) := by decide +kernel
theorem dX7_tiredThatFits_14 : decode cX7_tiredThatFits 14 = .ok (.iconst 1, 1) := by decide +kernel
theorem dX7_tiredThatFits_15 : decode cX7_tiredThatFits 15 = .ok (.goto 10, 3) := by decide +kernel
theorem dX7_tiredThatFits_18 : decode cX7_tiredThatFits 18 = .ok (.getstatic 73, 3) := by decide +kernel
theorem dX7_tiredThatFits_21 : decode cX7_tiredThatFits 21 = .ok (.iconst 3, 1) := by decide +kernel
theorem dX7_tiredThatFits_22 : decode cX7_tiredThatFits 22 = .ok (.iaload, 1) := by decide +kernel
theorem dX7_tiredThatFits_23 : decode cX7_tiredThatFits 23 = .ok (.iconst 1, 1) := by decide +kernel
theorem dX7_tiredThatFits_24 : decode cX7_tiredThatFits 24 = .ok (.iadd, 1) := by decide +kernel
theorem dX7_tiredThatFits_25 : decode cX7_tiredThatFits 25 = .ok (.istore 5, 2) := by decide +kernel
theorem dX7_tiredThatFits_27 : decode cX7_tiredThatFits 27 = .ok (.iconst 0, 1) := by decide +kernel
theorem dX7_tiredThatFits_28 : decode cX7_tiredThatFits 28 = .ok (.istore 6, 2) := by decide +kernel
theorem dX7_tiredThatFits_30 : decode cX7_tiredThatFits 30 = .ok (.iconst 0, 1) := by decide +kernel
theorem dX7_tiredThatFits_31 : decode cX7_tiredThatFits 31 = .ok (.istore 7, 2) := by decide +kernel
theorem dX7_tiredThatFits_33 : decode cX7_tiredThatFits 33 = .ok (.iload 7, 2) := by decide +kernel
theorem dX7_tiredThatFits_35 : decode cX7_tiredThatFits 35 = .ok (.getstatic 73, 3) := by decide +kernel
theorem dX7_tiredThatFits_38 : decode cX7_tiredThatFits 38 = .ok (.iconst 3, 1) := by decide +kernel
theorem dX7_tiredThatFits_39 : decode cX7_tiredThatFits 39 = .ok (.iaload, 1) := by decide +kernel
theorem dX7_tiredThatFits_40 : decode cX7_tiredThatFits 40 = .ok (.if_icmp .gt 42, 3) := by decide +kernel
theorem dX7_tiredThatFits_43 : decode cX7_tiredThatFits 43 = .ok (.aload_n 0, 1) := by decide +kernel
theorem dX7_tiredThatFits_44 : decode cX7_tiredThatFits 44 = .ok (.aload_n 1, 1) := by decide +kernel
theorem dX7_tiredThatFits_45 : decode cX7_tiredThatFits 45 = .ok (.iload_n 2, 1) := by decide +kernel
theorem dX7_tiredThatFits_46 : decode cX7_tiredThatFits 46 = .ok (.iconst 3, 1) := by decide +kernel
theorem dX7_tiredThatFits_47 : decode cX7_tiredThatFits 47 = .ok (.iload_n 3, 1) := by decide +kernel
theorem dX7_tiredThatFits_48 : decode cX7_tiredThatFits 48 = .ok (.iload 7, 2) := by decide +kernel
theorem dX7_tiredThatFits_50 : decode cX7_tiredThatFits 50 = .ok (.invokevirtual 193, 3) := by decide +kernel
theorem dX7_tiredThatFits_53 : decode cX7_tiredThatFits 53 = .ok (.iconst (-1), 1) := by decide +kernel
theorem dX7_tiredThatFits_54 : decode cX7_tiredThatFits 54 = .ok (.if_icmp .ne 18, 3) := by decide +kernel
theorem dX7_tiredThatFits_57 : decode cX7_tiredThatFits 57 = .ok (.iload 4, 2) := by decide +kernel
theorem dX7_tiredThatFits_59 : decode cX7_tiredThatFits 59 = .ok (.ifCond .eq 6, 3) := by decide +kernel
theorem dX7_tiredThatFits_62 : decode cX7_tiredThatFits 62 = .ok (.iload 7, 2) := by decide +kernel
theorem dX7_tiredThatFits_64 : decode cX7_tiredThatFits 64 = .ok (.ireturn, 1) := by decide +kernel
theorem dX7_tiredThatFits_65 : decode cX7_tiredThatFits 65 = .ok (.iload 6, 2) := by decide +kernel
theorem dX7_tiredThatFits_67 : decode cX7_tiredThatFits 67 = .ok (.iload 5, 2) := by decide +kernel
theorem dX7_tiredThatFits_69 : decode cX7_tiredThatFits 69 = .ok (.iadd, 1) := by decide +kernel
theorem dX7_tiredThatFits_70 : decode cX7_tiredThatFits 70 = .ok (.istore 6, 2) := by decide +kernel
theorem dX7_tiredThatFits_72 : decode cX7_tiredThatFits 72 = .ok (.iload 7, 2) := by decide +kernel
theorem dX7_tiredThatFits_74 : decode cX7_tiredThatFits 74 = .ok (.iload 5, 2) := by decide +kernel
theorem dX7_tiredThatFits_76 : decode cX7_tiredThatFits 76 = .ok (.iadd, 1) := by decide +kernel
theorem dX7_tiredThatFits_77 : decode cX7_tiredThatFits 77 = .ok (.istore 7, 2) := by decide +kernel
theorem dX7_tiredThatFits_79 : decode cX7_tiredThatFits 79 = .ok (.goto (-46), 3) := by decide +kernel
theorem dX7_tiredThatFits_82 : decode cX7_tiredThatFits 82 = .ok (.iload 4, 2) := by decide +kernel
theorem dX7_tiredThatFits_84 : decode cX7_tiredThatFits 84 = .ok (.ifCond .eq 7, 3) := by decide +kernel
theorem dX7_tiredThatFits_87 : decode cX7_tiredThatFits 87 = .ok (.iconst (-1), 1) := by decide +kernel
theorem dX7_tiredThatFits_88 : decode cX7_tiredThatFits 88 = .ok (.goto 5, 3) := by decide +kernel
theorem dX7_tiredThatFits_91 : decode cX7_tiredThatFits 91 = .ok (.iload 6, 2) := by decide +kernel
theorem dX7_tiredThatFits_93 : decode cX7_tiredThatFits 93 = .ok (.ireturn, 1) := by decide +kernel
theorem dX7_peopleThatFit_0 : decode cX7_peopleThatFit 0 = .ok (.iconst 0, 1) := by decide +kernel
theorem dX7_peopleThatFit_1 : decode cX7_peopleThatFit 1 = .ok (.istore_n 2, 1) := by decide +kernel
theorem dX7_peopleThatFit_2 : decode cX7_peopleThatFit 2 = .ok (.iconst 0, 1) := by decide +kernel
theorem dX7_peopleThatFit_3 : decode cX7_peopleThatFit 3 = .ok (.istore_n 3, 1) := by decide +kernel
theorem dX7_peopleThatFit_4 : decode cX7_peopleThatFit 4 = .ok (.iload_n 3, 1) := by decide +kernel
theorem dX7_peopleThatFit_5 : decode cX7_peopleThatFit 5 = .ok (.aload_n 0, 1) := by decide +kernel
theorem dX7_peopleThatFit_6 : decode cX7_peopleThatFit 6 = .ok (.getfield 45, 3) := by decide +kernel
theorem dX7_peopleThatFit_9 : decode cX7_peopleThatFit 9 = .ok (.invokevirtual 163, 3) := by decide +kernel
theorem dX7_peopleThatFit_12 : decode cX7_peopleThatFit 12 = .ok (.if_icmp .ge 29, 3) := by decide +kernel
theorem dX7_peopleThatFit_15 : decode cX7_peopleThatFit 15 = .ok (.aload_n 0, 1) := by decide +kernel
theorem dX7_peopleThatFit_16 : decode cX7_peopleThatFit 16 = .ok (.aload_n 1, 1) := by decide +kernel
theorem dX7_peopleThatFit_17 : decode cX7_peopleThatFit 17 = .ok (.iload_n 3, 1) := by decide +kernel
theorem dX7_peopleThatFit_18 : decode cX7_peopleThatFit 18 = .ok (.bipush 9, 2) := by decide +kernel
theorem dX7_peopleThatFit_20 : decode cX7_peopleThatFit 20 = .ok (.iconst (-1), 1) := by decide +kernel
theorem dX7_peopleThatFit_21 : decode cX7_peopleThatFit 21 = .ok (.iconst (-1), 1) := by decide +kernel
theorem dX7_peopleThatFit_22 : decode cX7_peopleThatFit 22 = .ok (.invokevirtual 193, 3) := by decide +kernel
theorem dX7_peopleThatFit_25 : decode cX7_peopleThatFit 25 = .ok (.iconst (-1), 1) := by decide +kernel
theorem dX7_peopleThatFit_26 : decode cX7_peopleThatFit 26 = .ok (.if_icmp .ne 9, 3) := by decide +kernel
theorem dX7_peopleThatFit_29 : decode cX7_peopleThatFit 29 = .ok (.iload_n 2, 1) := by decide +kernel
theorem dX7_peopleThatFit_30 : decode cX7_peopleThatFit 30 = .ok (.iconst 1, 1) := by decide +kernel
theorem dX7_peopleThatFit_31 : decode cX7_peopleThatFit 31 = .ok (.iload_n 3, 1) := by decide +kernel
theorem dX7_peopleThatFit_32 : decode cX7_peopleThatFit 32 = .ok (.ishl, 1) := by decide +kernel
theorem dX7_peopleThatFit_33 : decode cX7_peopleThatFit 33 = .ok (.ior, 1) := by decide +kernel
theorem dX7_peopleThatFit_34 : decode cX7_peopleThatFit 34 = .ok (.istore_n 2, 1) := by decide +kernel
theorem dX7_peopleThatFit_35 : decode cX7_peopleThatFit 35 = .ok (.iinc 3 1, 3) := by decide +kernel
theorem dX7_peopleThatFit_38 : decode cX7_peopleThatFit 38 = .ok (.goto (-34), 3) := by decide +kernel
theorem dX7_peopleThatFit_41 : decode cX7_peopleThatFit 41 = .ok (.iload_n 2, 1) := by decide +kernel
theorem dX7_peopleThatFit_42 : decode cX7_peopleThatFit 42 = .ok (.ireturn, 1) := by decide +kernel
theorem dX7_missedWhenDrawn_0 : decode cX7_missedWhenDrawn 0 = .ok (.aload_n 0, 1) := by decide +kernel
theorem dX7_missedWhenDrawn_1 : decode cX7_missedWhenDrawn 1 = .ok (.getfield 49, 3) := by decide +kernel
theorem dX7_missedWhenDrawn_4 : decode cX7_missedWhenDrawn 4 = .ok (.aload_n 0, 1) := by decide +kernel
theorem dX7_missedWhenDrawn_5 : decode cX7_missedWhenDrawn 5 = .ok (.getfield 45, 3) := by decide +kernel
theorem dX7_missedWhenDrawn_8 : decode cX7_missedWhenDrawn 8 = .ok (.invokevirtual 148, 3) := by decide +kernel
theorem dX7_missedWhenDrawn_11 : decode cX7_missedWhenDrawn 11 = .ok (.iload_n 1, 1) := by decide +kernel
theorem dX7_missedWhenDrawn_12 : decode cX7_missedWhenDrawn 12 = .ok (.istore_n 3, 1) := by decide +kernel
theorem dX7_missedWhenDrawn_13 : decode cX7_missedWhenDrawn 13 = .ok (.iconst 0, 1) := by decide +kernel
theorem dX7_missedWhenDrawn_14 : decode cX7_missedWhenDrawn 14 = .ok (.istore 4, 2) := by decide +kernel
theorem dX7_missedWhenDrawn_16 : decode cX7_missedWhenDrawn 16 = .ok (.iload 4, 2) := by decide +kernel
theorem dX7_missedWhenDrawn_18 : decode cX7_missedWhenDrawn 18 = .ok (.iload_n 2, 1) := by decide +kernel
theorem dX7_missedWhenDrawn_19 : decode cX7_missedWhenDrawn 19 = .ok (.if_icmp .ge 78, 3) := by decide +kernel
theorem dX7_missedWhenDrawn_22 : decode cX7_missedWhenDrawn 22 = .ok (.iload_n 3, 1) := by decide +kernel
theorem dX7_missedWhenDrawn_23 : decode cX7_missedWhenDrawn 23 = .ok (.ldc 252, 2) := by decide +kernel
theorem dX7_missedWhenDrawn_25 : decode cX7_missedWhenDrawn 25 = .ok (.imul, 1) := by decide +kernel
theorem dX7_missedWhenDrawn_26 : decode cX7_missedWhenDrawn 26 = .ok (.sipush 12345, 3) := by decide +kernel
theorem dX7_missedWhenDrawn_29 : decode cX7_missedWhenDrawn 29 = .ok (.iadd, 1) := by decide +kernel
theorem dX7_missedWhenDrawn_30 : decode cX7_missedWhenDrawn 30 = .ok (.istore 5, 2) := by decide +kernel
theorem dX7_missedWhenDrawn_32 : decode cX7_missedWhenDrawn 32 = .ok (.iload 5, 2) := by decide +kernel
theorem dX7_missedWhenDrawn_34 : decode cX7_missedWhenDrawn 34 = .ok (.ldc 252, 2) := by decide +kernel
theorem dX7_missedWhenDrawn_36 : decode cX7_missedWhenDrawn 36 = .ok (.imul, 1) := by decide +kernel
theorem dX7_missedWhenDrawn_37 : decode cX7_missedWhenDrawn 37 = .ok (.sipush 12345, 3) := by decide +kernel
theorem dX7_missedWhenDrawn_40 : decode cX7_missedWhenDrawn 40 = .ok (.iadd, 1) := by decide +kernel
theorem dX7_missedWhenDrawn_41 : decode cX7_missedWhenDrawn 41 = .ok (.istore 6, 2) := by decide +kernel
theorem dX7_missedWhenDrawn_43 : decode cX7_missedWhenDrawn 43 = .ok (.iload 6, 2) := by decide +kernel
theorem dX7_missedWhenDrawn_45 : decode cX7_missedWhenDrawn 45 = .ok (.istore_n 3, 1) := by decide +kernel
theorem dX7_missedWhenDrawn_46 : decode cX7_missedWhenDrawn 46 = .ok (.aload_n 0, 1) := by decide +kernel
theorem dX7_missedWhenDrawn_47 : decode cX7_missedWhenDrawn 47 = .ok (.getfield 49, 3) := by decide +kernel
theorem dX7_missedWhenDrawn_50 : decode cX7_missedWhenDrawn 50 = .ok (.iload 5, 2) := by decide +kernel
theorem dX7_missedWhenDrawn_52 : decode cX7_missedWhenDrawn 52 = .ok (.bipush 9, 2) := by decide +kernel
theorem dX7_missedWhenDrawn_54 : decode cX7_missedWhenDrawn 54 = .ok (.iushr, 1) := by decide +kernel
theorem dX7_missedWhenDrawn_55 : decode cX7_missedWhenDrawn 55 = .ok (.bipush 8, 2) := by decide +kernel
theorem dX7_missedWhenDrawn_57 : decode cX7_missedWhenDrawn 57 = .ok (.irem, 1) := by decide +kernel
theorem dX7_missedWhenDrawn_58 : decode cX7_missedWhenDrawn 58 = .ok (.iload 6, 2) := by decide +kernel
theorem dX7_missedWhenDrawn_60 : decode cX7_missedWhenDrawn 60 = .ok (.bipush 9, 2) := by decide +kernel
theorem dX7_missedWhenDrawn_62 : decode cX7_missedWhenDrawn 62 = .ok (.iushr, 1) := by decide +kernel
theorem dX7_missedWhenDrawn_63 : decode cX7_missedWhenDrawn 63 = .ok (.bipush 8, 2) := by decide +kernel
theorem dX7_missedWhenDrawn_65 : decode cX7_missedWhenDrawn 65 = .ok (.irem, 1) := by decide +kernel
theorem dX7_missedWhenDrawn_66 : decode cX7_missedWhenDrawn 66 = .ok (.invokevirtual 253, 3) := by decide +kernel
theorem dX7_missedWhenDrawn_69 : decode cX7_missedWhenDrawn 69 = .ok (.aload_n 0, 1) := by decide +kernel
theorem dX7_missedWhenDrawn_70 : decode cX7_missedWhenDrawn 70 = .ok (.getfield 38, 3) := by decide +kernel
theorem dX7_missedWhenDrawn_73 : decode cX7_missedWhenDrawn 73 = .ok (.aload_n 0, 1) := by decide +kernel
theorem dX7_missedWhenDrawn_74 : decode cX7_missedWhenDrawn 74 = .ok (.getfield 49, 3) := by decide +kernel
theorem dX7_missedWhenDrawn_77 : decode cX7_missedWhenDrawn 77 = .ok (.invokevirtual 137, 3) := by decide +kernel
theorem dX7_missedWhenDrawn_80 : decode cX7_missedWhenDrawn 80 = .ok (.aload_n 0, 1) := by decide +kernel
theorem dX7_missedWhenDrawn_81 : decode cX7_missedWhenDrawn 81 = .ok (.getfield 38, 3) := by decide +kernel
theorem dX7_missedWhenDrawn_84 : decode cX7_missedWhenDrawn 84 = .ok (.aload_n 0, 1) := by decide +kernel
theorem dX7_missedWhenDrawn_85 : decode cX7_missedWhenDrawn 85 = .ok (.getfield 49, 3) := by decide +kernel
theorem dX7_missedWhenDrawn_88 : decode cX7_missedWhenDrawn 88 = .ok (.invokevirtual 141, 3) := by decide +kernel
theorem dX7_missedWhenDrawn_91 : decode cX7_missedWhenDrawn 91 = .ok (.iinc 4 1, 3) := by decide +kernel
theorem dX7_missedWhenDrawn_94 : decode cX7_missedWhenDrawn 94 = .ok (.goto (-78), 3) := by decide +kernel
theorem dX7_missedWhenDrawn_97 : decode cX7_missedWhenDrawn 97 = .ok (.aload_n 0, 1) := by decide +kernel
theorem dX7_missedWhenDrawn_98 : decode cX7_missedWhenDrawn 98 = .ok (.getfield 49, 3) := by decide +kernel
theorem dX7_missedWhenDrawn_101 : decode cX7_missedWhenDrawn 101 = .ok (.iconst 4, 1) := by decide +kernel
theorem dX7_missedWhenDrawn_102 : decode cX7_missedWhenDrawn 102 = .ok (.invokevirtual 160, 3) := by decide +kernel
theorem dX7_missedWhenDrawn_105 : decode cX7_missedWhenDrawn 105 = .ok (.ireturn, 1) := by decide +kernel
theorem dX7_bound_0 : decode cX7_bound 0 = .ok (.iload_n 1, 1) := by decide +kernel
theorem dX7_bound_1 : decode cX7_bound 1 = .ok (.iload_n 2, 1) := by decide +kernel
theorem dX7_bound_2 : decode cX7_bound 2 = .ok (.iload_n 0, 1) := by decide +kernel
theorem dX7_bound_3 : decode cX7_bound 3 = .ok (.invokestatic 256, 3) := by decide +kernel
theorem dX7_bound_6 : decode cX7_bound 6 = .ok (.invokestatic 261, 3) := by decide +kernel
theorem dX7_bound_9 : decode cX7_bound 9 = .ok (.ireturn, 1) := by decide +kernel
