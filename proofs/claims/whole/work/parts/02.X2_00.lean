theorem dX2_init_0 : decode cX2_init 0 = .ok (.aload_n 0, 1) := by decide +kernel
theorem dX2_init_1 : decode cX2_init 1 = .ok (.invokespecial 3, 3) := by decide +kernel
theorem dX2_init_4 : decode cX2_init 4 = .ok (.aload_n 0, 1) := by decide +kernel
theorem dX2_init_5 : decode cX2_init 5 = .ok (.sipush 160, 3) := by decide +kernel
theorem dX2_init_8 : decode cX2_init 8 = .ok (.newarray .int, 2) := by decide +kernel
theorem dX2_init_10 : decode cX2_init 10 = .ok (.putfield 9, 3) := by decide +kernel
theorem dX2_init_13 : decode cX2_init 13 = .ok (.aload_n 0, 1) := by decide +kernel
theorem dX2_init_14 : decode cX2_init 14 = .ok (.sipush 161, 3) := by decide +kernel
theorem dX2_init_17 : decode cX2_init 17 = .ok (.newarray .int, 2) := by decide +kernel
theorem dX2_init_19 : decode cX2_init 19 = .ok (.putfield 15, 3) := by decide +kernel
theorem dX2_init_22 : decode cX2_init 22 = .ok (.aload_n 0, 1) := by decide +kernel
theorem dX2_init_23 : decode cX2_init 23 = .ok (.sipush 161, 3) := by decide +kernel
theorem dX2_init_26 : decode cX2_init 26 = .ok (.newarray .int, 2) := by decide +kernel
theorem dX2_init_28 : decode cX2_init 28 = .ok (.putfield 18, 3) := by decide +kernel
theorem dX2_init_31 : decode cX2_init 31 = .ok (.aload_n 0, 1) := by decide +kernel
theorem dX2_init_32 : decode cX2_init 32 = .ok (.sipush 161, 3) := by decide +kernel
theorem dX2_init_35 : decode cX2_init 35 = .ok (.newarray .int, 2) := by decide +kernel
theorem dX2_init_37 : decode cX2_init 37 = .ok (.putfield 21, 3) := by decide +kernel
theorem dX2_init_40 : decode cX2_init 40 = .ok (.return_, 1) := by decide +kernel
theorem dX2_size_0 : decode cX2_size 0 = .ok (.aload_n 0, 1) := by decide +kernel
theorem dX2_size_1 : decode cX2_size 1 = .ok (.getfield 24, 3) := by decide +kernel
theorem dX2_size_4 : decode cX2_size 4 = .ok (.ireturn, 1) := by decide +kernel
theorem dX2_clear_0 : decode cX2_clear 0 = .ok (.aload_n 0, 1) := by decide +kernel
theorem dX2_clear_1 : decode cX2_clear 1 = .ok (.iconst 0, 1) := by decide +kernel
theorem dX2_clear_2 : decode cX2_clear 2 = .ok (.putfield 24, 3) := by decide +kernel
theorem dX2_clear_5 : decode cX2_clear 5 = .ok (.return_, 1) := by decide +kernel
theorem dX2_add_0 : decode cX2_add 0 = .ok (.aload_n 0, 1) := by decide +kernel
theorem dX2_add_1 : decode cX2_add 1 = .ok (.getfield 24, 3) := by decide +kernel
theorem dX2_add_4 : decode cX2_add 4 = .ok (.sipush 160, 3) := by decide +kernel
theorem dX2_add_7 : decode cX2_add 7 = .ok (.if_icmp .lt 5, 3) := by decide +kernel
theorem dX2_add_10 : decode cX2_add 10 = .ok (.iconst 0, 1) := by decide +kernel
theorem dX2_add_11 : decode cX2_add 11 = .ok (.ireturn, 1) := by decide +kernel
theorem dX2_add_12 : decode cX2_add 12 = .ok (.aload_n 0, 1) := by decide +kernel
theorem dX2_add_13 : decode cX2_add 13 = .ok (.getfield 9, 3) := by decide +kernel
theorem dX2_add_16 : decode cX2_add 16 = .ok (.aload_n 0, 1) := by decide +kernel
theorem dX2_add_17 : decode cX2_add 17 = .ok (.getfield 24, 3) := by decide +kernel
theorem dX2_add_20 : decode cX2_add 20 = .ok (.iload_n 1, 1) := by decide +kernel
theorem dX2_add_21 : decode cX2_add 21 = .ok (.iastore, 1) := by decide +kernel
theorem dX2_add_22 : decode cX2_add 22 = .ok (.aload_n 0, 1) := by decide +kernel
theorem dX2_add_23 : decode cX2_add 23 = .ok (.dup, 1) := by decide +kernel
theorem dX2_add_24 : decode cX2_add 24 = .ok (.getfield 24, 3) := by decide +kernel
theorem dX2_add_27 : decode cX2_add 27 = .ok (.iconst 1, 1) := by decide +kernel
theorem dX2_add_28 : decode cX2_add 28 = .ok (.iadd, 1) := by decide +kernel
theorem dX2_add_29 : decode cX2_add 29 = .ok (.putfield 24, 3) := by decide +kernel
theorem dX2_add_32 : decode cX2_add 32 = .ok (.iconst 1, 1) := by decide +kernel
theorem dX2_add_33 : decode cX2_add 33 = .ok (.ireturn, 1) := by decide +kernel
theorem dX2_addAll_0 : decode cX2_addAll 0 = .ok (.iconst 0, 1) := by decide +kernel
theorem dX2_addAll_1 : decode cX2_addAll 1 = .ok (.istore_n 2, 1) := by decide +kernel
theorem dX2_addAll_2 : decode cX2_addAll 2 = .ok (.iload_n 2, 1) := by decide +kernel
theorem dX2_addAll_3 : decode cX2_addAll 3 = .ok (.aload_n 1, 1) := by decide +kernel
theorem dX2_addAll_4 : decode cX2_addAll 4 = .ok (.invokevirtual 28, 3) := by decide +kernel
theorem dX2_addAll_7 : decode cX2_addAll 7 = .ok (.if_icmp .ge 19, 3) := by decide +kernel
theorem dX2_addAll_10 : decode cX2_addAll 10 = .ok (.aload_n 0, 1) := by decide +kernel
theorem dX2_addAll_11 : decode cX2_addAll 11 = .ok (.aload_n 1, 1) := by decide +kernel
theorem dX2_addAll_12 : decode cX2_addAll 12 = .ok (.iload_n 2, 1) := by decide +kernel
theorem dX2_addAll_13 : decode cX2_addAll 13 = .ok (.invokevirtual 34, 3) := by decide +kernel
theorem dX2_addAll_16 : decode cX2_addAll 16 = .ok (.invokevirtual 38, 3) := by decide +kernel
theorem dX2_addAll_19 : decode cX2_addAll 19 = .ok (.pop, 1) := by decide +kernel
theorem dX2_addAll_20 : decode cX2_addAll 20 = .ok (.iinc 2 1, 3) := by decide +kernel
theorem dX2_addAll_23 : decode cX2_addAll 23 = .ok (.goto (-21), 3) := by decide +kernel
theorem dX2_addAll_26 : decode cX2_addAll 26 = .ok (.return_, 1) := by decide +kernel
theorem dX2_read_0 : decode cX2_read 0 = .ok (.aload_n 0, 1) := by decide +kernel
theorem dX2_read_1 : decode cX2_read 1 = .ok (.invokevirtual 42, 3) := by decide +kernel
theorem dX2_read_4 : decode cX2_read 4 = .ok (.aload_n 0, 1) := by decide +kernel
theorem dX2_read_5 : decode cX2_read 5 = .ok (.iconst 0, 1) := by decide +kernel
theorem dX2_read_6 : decode cX2_read 6 = .ok (.putfield 45, 3) := by decide +kernel
theorem dX2_read_9 : decode cX2_read 9 = .ok (.aload_n 0, 1) := by decide +kernel
theorem dX2_read_10 : decode cX2_read 10 = .ok (.aload_n 1, 1) := by decide +kernel
theorem dX2_read_11 : decode cX2_read 11 = .ok (.putfield 48, 3) := by decide +kernel
theorem dX2_read_14 : decode cX2_read 14 = .ok (.aload_n 1, 1) := by decide +kernel
theorem dX2_read_15 : decode cX2_read 15 = .ok (.invokevirtual 52, 3) := by decide +kernel
theorem dX2_read_18 : decode cX2_read 18 = .ok (.iconst 0, 1) := by decide +kernel
theorem dX2_read_19 : decode cX2_read 19 = .ok (.istore_n 2, 1) := by decide +kernel
theorem dX2_read_20 : decode cX2_read 20 = .ok (.iload_n 2, 1) := by decide +kernel
theorem dX2_read_21 : decode cX2_read 21 = .ok (.iconst 3, 1) := by decide +kernel
theorem dX2_read_22 : decode cX2_read 22 = .ok (.if_icmp .ge 22, 3) := by decide +kernel
theorem dX2_read_25 : decode cX2_read 25 = .ok (.aload_n 0, 1) := by decide +kernel
theorem dX2_read_26 : decode cX2_read 26 = .ok (.iload_n 2, 1) := by decide +kernel
theorem dX2_read_27 : decode cX2_read 27 = .ok (.invokevirtual 57, 3) := by decide +kernel
theorem dX2_read_30 : decode cX2_read 30 = .ok (.ifCond .ne 8, 3) := by decide +kernel
theorem dX2_read_33 : decode cX2_read 33 = .ok (.aload_n 0, 1) := by decide +kernel
theorem dX2_read_34 : decode cX2_read 34 = .ok (.invokevirtual 60, 3) := by decide +kernel
theorem dX2_read_37 : decode cX2_read 37 = .ok (.ireturn, 1) := by decide +kernel
theorem dX2_read_38 : decode cX2_read 38 = .ok (.iinc 2 1, 3) := by decide +kernel
theorem dX2_read_41 : decode cX2_read 41 = .ok (.goto (-21), 3) := by decide +kernel
theorem dX2_read_44 : decode cX2_read 44 = .ok (.aload_n 0, 1) := by decide +kernel
theorem dX2_read_45 : decode cX2_read 45 = .ok (.invokevirtual 63, 3) := by decide +kernel
theorem dX2_read_48 : decode cX2_read 48 = .ok (.sipush 301, 3) := by decide +kernel
theorem dX2_read_51 : decode cX2_read 51 = .ok (.if_icmp .ne 7, 3) := by decide +kernel
theorem dX2_read_54 : decode cX2_read 54 = .ok (.iconst (-1), 1) := by decide +kernel
theorem dX2_read_55 : decode cX2_read 55 = .ok (.goto 7, 3) := by decide +kernel
theorem dX2_read_58 : decode cX2_read 58 = .ok (.aload_n 0, 1) := by decide +kernel
theorem dX2_read_59 : decode cX2_read 59 = .ok (.invokevirtual 60, 3) := by decide +kernel
theorem dX2_read_62 : decode cX2_read 62 = .ok (.ireturn, 1) := by decide +kernel
theorem dX2_faultPlace_0 : decode cX2_faultPlace 0 = .ok (.aload_n 0, 1) := by decide +kernel
theorem dX2_faultPlace_1 : decode cX2_faultPlace 1 = .ok (.getfield 45, 3) := by decide +kernel
theorem dX2_faultPlace_4 : decode cX2_faultPlace 4 = .ok (.aload_n 0, 1) := by decide +kernel
theorem dX2_faultPlace_5 : decode cX2_faultPlace 5 = .ok (.getfield 66, 3) := by decide +kernel
theorem dX2_faultPlace_8 : decode cX2_faultPlace 8 = .ok (.if_icmp .ge 15, 3) := by decide +kernel
theorem dX2_faultPlace_11 : decode cX2_faultPlace 11 = .ok (.aload_n 0, 1) := by decide +kernel
theorem dX2_faultPlace_12 : decode cX2_faultPlace 12 = .ok (.getfield 18, 3) := by decide +kernel
theorem dX2_faultPlace_15 : decode cX2_faultPlace 15 = .ok (.aload_n 0, 1) := by decide +kernel
theorem dX2_faultPlace_16 : decode cX2_faultPlace 16 = .ok (.getfield 45, 3) := by decide +kernel
theorem dX2_faultPlace_19 : decode cX2_faultPlace 19 = .ok (.iaload, 1) := by decide +kernel
theorem dX2_faultPlace_20 : decode cX2_faultPlace 20 = .ok (.goto 7, 3) := by decide +kernel
theorem dX2_faultPlace_23 : decode cX2_faultPlace 23 = .ok (.aload_n 0, 1) := by decide +kernel
theorem dX2_faultPlace_24 : decode cX2_faultPlace 24 = .ok (.getfield 24, 3) := by decide +kernel
theorem dX2_faultPlace_27 : decode cX2_faultPlace 27 = .ok (.ireturn, 1) := by decide +kernel
theorem dX2_split_0 : decode cX2_split 0 = .ok (.aload_n 0, 1) := by decide +kernel
theorem dX2_split_1 : decode cX2_split 1 = .ok (.iconst 0, 1) := by decide +kernel
theorem dX2_split_2 : decode cX2_split 2 = .ok (.putfield 66, 3) := by decide +kernel
theorem dX2_split_5 : decode cX2_split 5 = .ok (.iconst 0, 1) := by decide +kernel
theorem dX2_split_6 : decode cX2_split 6 = .ok (.istore_n 1, 1) := by decide +kernel
theorem dX2_split_7 : decode cX2_split 7 = .ok (.iconst 0, 1) := by decide +kernel
theorem dX2_split_8 : decode cX2_split 8 = .ok (.istore_n 2, 1) := by decide +kernel
theorem dX2_split_9 : decode cX2_split 9 = .ok (.iload_n 2, 1) := by decide +kernel
theorem dX2_split_10 : decode cX2_split 10 = .ok (.aload_n 0, 1) := by decide +kernel
theorem dX2_split_11 : decode cX2_split 11 = .ok (.getfield 24, 3) := by decide +kernel
theorem dX2_split_14 : decode cX2_split 14 = .ok (.if_icmp .ge 42, 3) := by decide +kernel
theorem dX2_split_17 : decode cX2_split 17 = .ok (.iload_n 2, 1) := by decide +kernel
theorem dX2_split_18 : decode cX2_split 18 = .ok (.iload_n 1, 1) := by decide +kernel
theorem dX2_split_19 : decode cX2_split 19 = .ok (.if_icmp .lt 31, 3) := by decide +kernel
theorem dX2_split_22 : decode cX2_split 22 = .ok (.aload_n 0, 1) := by decide +kernel
theorem dX2_split_23 : decode cX2_split 23 = .ok (.getfield 9, 3) := by decide +kernel
theorem dX2_split_26 : decode cX2_split 26 = .ok (.iload_n 2, 1) := by decide +kernel
theorem dX2_split_27 : decode cX2_split 27 = .ok (.iaload, 1) := by decide +kernel
theorem dX2_split_28 : decode cX2_split 28 = .ok (.bipush 32, 2) := by decide +kernel
theorem dX2_split_30 : decode cX2_split 30 = .ok (.if_icmp .eq 20, 3) := by decide +kernel
theorem dX2_split_33 : decode cX2_split 33 = .ok (.aload_n 0, 1) := by decide +kernel
theorem dX2_split_34 : decode cX2_split 34 = .ok (.getfield 9, 3) := by decide +kernel
theorem dX2_split_37 : decode cX2_split 37 = .ok (.iload_n 2, 1) := by decide +kernel
theorem dX2_split_38 : decode cX2_split 38 = .ok (.iaload, 1) := by decide +kernel
theorem dX2_split_39 : decode cX2_split 39 = .ok (.bipush 10, 2) := by decide +kernel
theorem dX2_split_41 : decode cX2_split 41 = .ok (.if_icmp .eq 9, 3) := by decide +kernel
theorem dX2_split_44 : decode cX2_split 44 = .ok (.aload_n 0, 1) := by decide +kernel
theorem dX2_split_45 : decode cX2_split 45 = .ok (.iload_n 2, 1) := by decide +kernel
theorem dX2_split_46 : decode cX2_split 46 = .ok (.invokevirtual 69, 3) := by decide +kernel
theorem dX2_split_49 : decode cX2_split 49 = .ok (.istore_n 1, 1) := by decide +kernel
theorem dX2_split_50 : decode cX2_split 50 = .ok (.iinc 2 1, 3) := by decide +kernel
theorem dX2_split_53 : decode cX2_split 53 = .ok (.goto (-44), 3) := by decide +kernel
theorem dX2_split_56 : decode cX2_split 56 = .ok (.aload_n 0, 1) := by decide +kernel
theorem dX2_split_57 : decode cX2_split 57 = .ok (.sipush 301, 3) := by decide +kernel
theorem dX2_split_60 : decode cX2_split 60 = .ok (.aload_n 0, 1) := by decide +kernel
theorem dX2_split_61 : decode cX2_split 61 = .ok (.getfield 24, 3) := by decide +kernel
theorem dX2_split_64 : decode cX2_split 64 = .ok (.iconst 0, 1) := by decide +kernel
theorem dX2_split_65 : decode cX2_split 65 = .ok (.invokevirtual 73, 3) := by decide +kernel
theorem dX2_split_68 : decode cX2_split 68 = .ok (.return_, 1) := by decide +kernel
theorem dX2_splitOff_0 : decode cX2_splitOff 0 = .ok (.aload_n 0, 1) := by decide +kernel
theorem dX2_splitOff_1 : decode cX2_splitOff 1 = .ok (.getfield 9, 3) := by decide +kernel
theorem dX2_splitOff_4 : decode cX2_splitOff 4 = .ok (.iload_n 1, 1) := by decide +kernel
theorem dX2_splitOff_5 : decode cX2_splitOff 5 = .ok (.iaload, 1) := by decide +kernel
theorem dX2_splitOff_6 : decode cX2_splitOff 6 = .ok (.istore_n 2, 1) := by decide +kernel
theorem dX2_splitOff_7 : decode cX2_splitOff 7 = .ok (.iload_n 2, 1) := by decide +kernel
theorem dX2_splitOff_8 : decode cX2_splitOff 8 = .ok (.invokestatic 77, 3) := by decide +kernel
theorem dX2_splitOff_11 : decode cX2_splitOff 11 = .ok (.ifCond .eq 47, 3) := by decide +kernel
theorem dX2_splitOff_14 : decode cX2_splitOff 14 = .ok (.iload_n 1, 1) := by decide +kernel
theorem dX2_splitOff_15 : decode cX2_splitOff 15 = .ok (.iconst 1, 1) := by decide +kernel
theorem dX2_splitOff_16 : decode cX2_splitOff 16 = .ok (.iadd, 1) := by decide +kernel
theorem dX2_splitOff_17 : decode cX2_splitOff 17 = .ok (.istore_n 3, 1) := by decide +kernel
theorem dX2_splitOff_18 : decode cX2_splitOff 18 = .ok (.iload_n 3, 1) := by decide +kernel
theorem dX2_splitOff_19 : decode cX2_splitOff 19 = .ok (.aload_n 0, 1) := by decide +kernel
theorem dX2_splitOff_20 : decode cX2_splitOff 20 = .ok (.getfield 24, 3) := by decide +kernel
theorem dX2_splitOff_23 : decode cX2_splitOff 23 = .ok (.if_icmp .ge 21, 3) := by decide +kernel
theorem dX2_splitOff_26 : decode cX2_splitOff 26 = .ok (.aload_n 0, 1) := by decide +kernel
theorem dX2_splitOff_27 : decode cX2_splitOff 27 = .ok (.getfield 9, 3) := by decide +kernel
theorem dX2_splitOff_30 : decode cX2_splitOff 30 = .ok (.iload_n 3, 1) := by decide +kernel
theorem dX2_splitOff_31 : decode cX2_splitOff 31 = .ok (.iaload, 1) := by decide +kernel
theorem dX2_splitOff_32 : decode cX2_splitOff 32 = .ok (.invokestatic 77, 3) := by decide +kernel
theorem dX2_splitOff_35 : decode cX2_splitOff 35 = .ok (.ifCond .eq 9, 3) := by decide +kernel
theorem dX2_splitOff_38 : decode cX2_splitOff 38 = .ok (.iinc 3 1, 3) := by decide +kernel
theorem dX2_splitOff_41 : decode cX2_splitOff 41 = .ok (.goto (-23), 3) := by decide +kernel
theorem dX2_splitOff_44 : decode cX2_splitOff 44 = .ok (.aload_n 0, 1) := by decide +kernel
theorem dX2_splitOff_45 : decode cX2_splitOff 45 = .ok (.aload_n 0, 1) := by decide +kernel
theorem dX2_splitOff_46 : decode cX2_splitOff 46 = .ok (.iload_n 1, 1) := by decide +kernel
theorem dX2_splitOff_47 : decode cX2_splitOff 47 = .ok (.iload_n 3, 1) := by decide +kernel
theorem dX2_splitOff_48 : decode cX2_splitOff 48 = .ok (.invokevirtual 80, 3) := by decide +kernel
theorem dX2_splitOff_51 : decode cX2_splitOff 51 = .ok (.iload_n 1, 1) := by decide +kernel
theorem dX2_splitOff_52 : decode cX2_splitOff 52 = .ok (.iconst 0, 1) := by decide +kernel
theorem dX2_splitOff_53 : decode cX2_splitOff 53 = .ok (.invokevirtual 73, 3) := by decide +kernel
theorem dX2_splitOff_56 : decode cX2_splitOff 56 = .ok (.iload_n 3, 1) := by decide +kernel
theorem dX2_splitOff_57 : decode cX2_splitOff 57 = .ok (.ireturn, 1) := by decide +kernel
theorem dX2_splitOff_58 : decode cX2_splitOff 58 = .ok (.iload_n 2, 1) := by decide +kernel
theorem dX2_splitOff_59 : decode cX2_splitOff 59 = .ok (.invokestatic 84, 3) := by decide +kernel
theorem dX2_splitOff_62 : decode cX2_splitOff 62 = .ok (.ifCond .eq 41, 3) := by decide +kernel
theorem dX2_splitOff_65 : decode cX2_splitOff 65 = .ok (.iload_n 1, 1) := by decide +kernel
theorem dX2_splitOff_66 : decode cX2_splitOff 66 = .ok (.iconst 1, 1) := by decide +kernel
theorem dX2_splitOff_67 : decode cX2_splitOff 67 = .ok (.iadd, 1) := by decide +kernel
theorem dX2_splitOff_68 : decode cX2_splitOff 68 = .ok (.istore_n 3, 1) := by decide +kernel
theorem dX2_splitOff_69 : decode cX2_splitOff 69 = .ok (.iload_n 3, 1) := by decide +kernel
theorem dX2_splitOff_70 : decode cX2_splitOff 70 = .ok (.aload_n 0, 1) := by decide +kernel
theorem dX2_splitOff_71 : decode cX2_splitOff 71 = .ok (.getfield 24, 3) := by decide +kernel
theorem dX2_splitOff_74 : decode cX2_splitOff 74 = .ok (.if_icmp .ge 21, 3) := by decide +kernel
theorem dX2_splitOff_77 : decode cX2_splitOff 77 = .ok (.aload_n 0, 1) := by decide +kernel
theorem dX2_splitOff_78 : decode cX2_splitOff 78 = .ok (.getfield 9, 3) := by decide +kernel
theorem dX2_splitOff_81 : decode cX2_splitOff 81 = .ok (.iload_n 3, 1) := by decide +kernel
theorem dX2_splitOff_82 : decode cX2_splitOff 82 = .ok (.iaload, 1) := by decide +kernel
theorem dX2_splitOff_83 : decode cX2_splitOff 83 = .ok (.invokestatic 84, 3) := by decide +kernel
theorem dX2_splitOff_86 : decode cX2_splitOff 86 = .ok (.ifCond .eq 9, 3) := by decide +kernel
theorem dX2_splitOff_89 : decode cX2_splitOff 89 = .ok (.iinc 3 1, 3) := by decide +kernel
theorem dX2_splitOff_92 : decode cX2_splitOff 92 = .ok (.goto (-23), 3) := by decide +kernel
theorem dX2_splitOff_95 : decode cX2_splitOff 95 = .ok (.aload_n 0, 1) := by decide +kernel
theorem dX2_splitOff_96 : decode cX2_splitOff 96 = .ok (.iload_n 1, 1) := by decide +kernel
theorem dX2_splitOff_97 : decode cX2_splitOff 97 = .ok (.iload_n 3, 1) := by decide +kernel
theorem dX2_splitOff_98 : decode cX2_splitOff 98 = .ok (.invokevirtual 87, 3) := by decide +kernel
theorem dX2_splitOff_101 : decode cX2_splitOff 101 = .ok (.iload_n 3, 1) := by decide +kernel
theorem dX2_splitOff_102 : decode cX2_splitOff 102 = .ok (.ireturn, 1) := by decide +kernel
theorem dX2_splitOff_103 : decode cX2_splitOff 103 = .ok (.aload_n 0, 1) := by decide +kernel
theorem dX2_splitOff_104 : decode cX2_splitOff 104 = .ok (.iload_n 2, 1) := by decide +kernel
theorem dX2_splitOff_105 : decode cX2_splitOff 105 = .ok (.invokestatic 91, 3) := by decide +kernel
theorem dX2_splitOff_108 : decode cX2_splitOff 108 = .ok (.ifCond .eq 7, 3) := by decide +kernel
theorem dX2_splitOff_111 : decode cX2_splitOff 111 = .ok (.iload_n 2, 1) := by decide +kernel
theorem dX2_splitOff_112 : decode cX2_splitOff 112 = .ok (.goto 6, 3) := by decide +kernel
theorem dX2_splitOff_115 : decode cX2_splitOff 115 = .ok (.sipush 302, 3) := by decide +kernel
theorem dX2_splitOff_118 : decode cX2_splitOff 118 = .ok (.iload_n 1, 1) := by decide +kernel
theorem dX2_splitOff_119 : decode cX2_splitOff 119 = .ok (.iconst 0, 1) := by decide +kernel
theorem dX2_splitOff_120 : decode cX2_splitOff 120 = .ok (.invokevirtual 73, 3) := by decide +kernel
theorem dX2_splitOff_123 : decode cX2_splitOff 123 = .ok (.iload_n 1, 1) := by decide +kernel
theorem dX2_splitOff_124 : decode cX2_splitOff 124 = .ok (.iconst 1, 1) := by decide +kernel
theorem dX2_splitOff_125 : decode cX2_splitOff 125 = .ok (.iadd, 1) := by decide +kernel
theorem dX2_splitOff_126 : decode cX2_splitOff 126 = .ok (.ireturn, 1) := by decide +kernel
theorem dX2_addToken_0 : decode cX2_addToken 0 = .ok (.aload_n 0, 1) := by decide +kernel
theorem dX2_addToken_1 : decode cX2_addToken 1 = .ok (.getfield 66, 3) := by decide +kernel
theorem dX2_addToken_4 : decode cX2_addToken 4 = .ok (.sipush 160, 3) := by decide +kernel
theorem dX2_addToken_7 : decode cX2_addToken 7 = .ok (.if_icmp .gt 43, 3) := by decide +kernel
theorem dX2_addToken_10 : decode cX2_addToken 10 = .ok (.aload_n 0, 1) := by decide +kernel
theorem dX2_addToken_11 : decode cX2_addToken 11 = .ok (.getfield 15, 3) := by decide +kernel
theorem dX2_addToken_14 : decode cX2_addToken 14 = .ok (.aload_n 0, 1) := by decide +kernel
theorem dX2_addToken_15 : decode cX2_addToken 15 = .ok (.getfield 66, 3) := by decide +kernel
theorem dX2_addToken_18 : decode cX2_addToken 18 = .ok (.iload_n 1, 1) := by decide +kernel
theorem dX2_addToken_19 : decode cX2_addToken 19 = .ok (.iastore, 1) := by decide +kernel
theorem dX2_addToken_20 : decode cX2_addToken 20 = .ok (.aload_n 0, 1) := by decide +kernel
theorem dX2_addToken_21 : decode cX2_addToken 21 = .ok (.getfield 18, 3) := by decide +kernel
theorem dX2_addToken_24 : decode cX2_addToken 24 = .ok (.aload_n 0, 1) := by decide +kernel
theorem dX2_addToken_25 : decode cX2_addToken 25 = .ok (.getfield 66, 3) := by decide +kernel
theorem dX2_addToken_28 : decode cX2_addToken 28 = .ok (.iload_n 2, 1) := by decide +kernel
theorem dX2_addToken_29 : decode cX2_addToken 29 = .ok (.iastore, 1) := by decide +kernel
theorem dX2_addToken_30 : decode cX2_addToken 30 = .ok (.aload_n 0, 1) := by decide +kernel
theorem dX2_addToken_31 : decode cX2_addToken 31 = .ok (.getfield 21, 3) := by decide +kernel
theorem dX2_addToken_34 : decode cX2_addToken 34 = .ok (.aload_n 0, 1) := by decide +kernel
theorem dX2_addToken_35 : decode cX2_addToken 35 = .ok (.getfield 66, 3) := by decide +kernel
theorem dX2_addToken_38 : decode cX2_addToken 38 = .ok (.iload_n 3, 1) := by decide +kernel
theorem dX2_addToken_39 : decode cX2_addToken 39 = .ok (.iastore, 1) := by decide +kernel
theorem dX2_addToken_40 : decode cX2_addToken 40 = .ok (.aload_n 0, 1) := by decide +kernel
theorem dX2_addToken_41 : decode cX2_addToken 41 = .ok (.dup, 1) := by decide +kernel
theorem dX2_addToken_42 : decode cX2_addToken 42 = .ok (.getfield 66, 3) := by decide +kernel
theorem dX2_addToken_45 : decode cX2_addToken 45 = .ok (.iconst 1, 1) := by decide +kernel
theorem dX2_addToken_46 : decode cX2_addToken 46 = .ok (.iadd, 1) := by decide +kernel
theorem dX2_addToken_47 : decode cX2_addToken 47 = .ok (.putfield 66, 3) := by decide +kernel
theorem dX2_addToken_50 : decode cX2_addToken 50 = .ok (.return_, 1) := by decide +kernel
theorem dX2_addNumber_0 : decode cX2_addNumber 0 = .ok (.iload_n 2, 1) := by decide +kernel
theorem dX2_addNumber_1 : decode cX2_addNumber 1 = .ok (.iload_n 1, 1) := by decide +kernel
theorem dX2_addNumber_2 : decode cX2_addNumber 2 = .ok (.isub, 1) := by decide +kernel
theorem dX2_addNumber_3 : decode cX2_addNumber 3 = .ok (.iconst 4, 1) := by decide +kernel
theorem dX2_addNumber_4 : decode cX2_addNumber 4 = .ok (.if_icmp .le 13, 3) := by decide +kernel
theorem dX2_addNumber_7 : decode cX2_addNumber 7 = .ok (.aload_n 0, 1) := by decide +kernel
theorem dX2_addNumber_8 : decode cX2_addNumber 8 = .ok (.sipush 302, 3) := by decide +kernel
theorem dX2_addNumber_11 : decode cX2_addNumber 11 = .ok (.iload_n 1, 1) := by decide +kernel
theorem dX2_addNumber_12 : decode cX2_addNumber 12 = .ok (.iconst 0, 1) := by decide +kernel
theorem dX2_addNumber_13 : decode cX2_addNumber 13 = .ok (.invokevirtual 73, 3) := by decide +kernel
theorem dX2_addNumber_16 : decode cX2_addNumber 16 = .ok (.return_, 1) := by decide +kernel
theorem dX2_addNumber_17 : decode cX2_addNumber 17 = .ok (.iconst 0, 1) := by decide +kernel
theorem dX2_addNumber_18 : decode cX2_addNumber 18 = .ok (.istore_n 3, 1) := by decide +kernel
theorem dX2_addNumber_19 : decode cX2_addNumber 19 = .ok (.iload_n 1, 1) := by decide +kernel
theorem dX2_addNumber_20 : decode cX2_addNumber 20 = .ok (.istore 4, 2) := by decide +kernel
theorem dX2_addNumber_22 : decode cX2_addNumber 22 = .ok (.iload 4, 2) := by decide +kernel
theorem dX2_addNumber_24 : decode cX2_addNumber 24 = .ok (.iload_n 2, 1) := by decide +kernel
theorem dX2_addNumber_25 : decode cX2_addNumber 25 = .ok (.if_icmp .ge 25, 3) := by decide +kernel
theorem dX2_addNumber_28 : decode cX2_addNumber 28 = .ok (.iload_n 3, 1) := by decide +kernel
theorem dX2_addNumber_29 : decode cX2_addNumber 29 = .ok (.bipush 10, 2) := by decide +kernel
theorem dX2_addNumber_31 : decode cX2_addNumber 31 = .ok (.imul, 1) := by decide +kernel
theorem dX2_addNumber_32 : decode cX2_addNumber 32 = .ok (.aload_n 0, 1) := by decide +kernel
theorem dX2_addNumber_33 : decode cX2_addNumber 33 = .ok (.getfield 9, 3) := by decide +kernel
theorem dX2_addNumber_36 : decode cX2_addNumber 36 = .ok (.iload 4, 2) := by decide +kernel
theorem dX2_addNumber_38 : decode cX2_addNumber 38 = .ok (.iaload, 1) := by decide +kernel
theorem dX2_addNumber_39 : decode cX2_addNumber 39 = .ok (.iadd, 1) := by decide +kernel
theorem dX2_addNumber_40 : decode cX2_addNumber 40 = .ok (.bipush 48, 2) := by decide +kernel
theorem dX2_addNumber_42 : decode cX2_addNumber 42 = .ok (.isub, 1) := by decide +kernel
theorem dX2_addNumber_43 : decode cX2_addNumber 43 = .ok (.istore_n 3, 1) := by decide +kernel
theorem dX2_addNumber_44 : decode cX2_addNumber 44 = .ok (.iinc 4 1, 3) := by decide +kernel
theorem dX2_addNumber_47 : decode cX2_addNumber 47 = .ok (.goto (-25), 3) := by decide +kernel
theorem dX2_addNumber_50 : decode cX2_addNumber 50 = .ok (.aload_n 0, 1) := by decide +kernel
theorem dX2_addNumber_51 : decode cX2_addNumber 51 = .ok (.sipush 300, 3) := by decide +kernel
theorem dX2_addNumber_54 : decode cX2_addNumber 54 = .ok (.iload_n 1, 1) := by decide +kernel
theorem dX2_addNumber_55 : decode cX2_addNumber 55 = .ok (.iload_n 3, 1) := by decide +kernel
theorem dX2_addNumber_56 : decode cX2_addNumber 56 = .ok (.invokevirtual 73, 3) := by decide +kernel
theorem dX2_addNumber_59 : decode cX2_addNumber 59 = .ok (.return_, 1) := by decide +kernel
theorem dX2_wordAt_0 : decode cX2_wordAt 0 = .ok (.iconst 0, 1) := by decide +kernel
theorem dX2_wordAt_1 : decode cX2_wordAt 1 = .ok (.istore_n 3, 1) := by decide +kernel
theorem dX2_wordAt_2 : decode cX2_wordAt 2 = .ok (.iload_n 3, 1) := by decide +kernel
theorem dX2_wordAt_3 : decode cX2_wordAt 3 = .ok (.bipush 12, 2) := by decide +kernel
theorem dX2_wordAt_5 : decode cX2_wordAt 5 = .ok (.if_icmp .ge 29, 3) := by decide +kernel
theorem dX2_wordAt_8 : decode cX2_wordAt 8 = .ok (.iload_n 2, 1) := by decide +kernel
theorem dX2_wordAt_9 : decode cX2_wordAt 9 = .ok (.iload_n 1, 1) := by decide +kernel
theorem dX2_wordAt_10 : decode cX2_wordAt 10 = .ok (.isub, 1) := by decide +kernel
theorem dX2_wordAt_11 : decode cX2_wordAt 11 = .ok (.bipush 7, 2) := by decide +kernel
theorem dX2_wordAt_13 : decode cX2_wordAt 13 = .ok (.if_icmp .ge 15, 3) := by decide +kernel
theorem dX2_wordAt_16 : decode cX2_wordAt 16 = .ok (.aload_n 0, 1) := by decide +kernel
theorem dX2_wordAt_17 : decode cX2_wordAt 17 = .ok (.iload_n 3, 1) := by decide +kernel
theorem dX2_wordAt_18 : decode cX2_wordAt 18 = .ok (.iload_n 1, 1) := by decide +kernel
theorem dX2_wordAt_19 : decode cX2_wordAt 19 = .ok (.iload_n 2, 1) := by decide +kernel
theorem dX2_wordAt_20 : decode cX2_wordAt 20 = .ok (.invokevirtual 94, 3) := by decide +kernel
theorem dX2_wordAt_23 : decode cX2_wordAt 23 = .ok (.ifCond .eq 5, 3) := by decide +kernel
theorem dX2_wordAt_26 : decode cX2_wordAt 26 = .ok (.iload_n 3, 1) := by decide +kernel
theorem dX2_wordAt_27 : decode cX2_wordAt 27 = .ok (.ireturn, 1) := by decide +kernel
theorem dX2_wordAt_28 : decode cX2_wordAt 28 = .ok (.iinc 3 1, 3) := by decide +kernel
theorem dX2_wordAt_31 : decode cX2_wordAt 31 = .ok (.goto (-29), 3) := by decide +kernel
theorem dX2_wordAt_34 : decode cX2_wordAt 34 = .ok (.sipush 302, 3) := by decide +kernel
theorem dX2_wordAt_37 : decode cX2_wordAt 37 = .ok (.ireturn, 1) := by decide +kernel
theorem dX2_spells_0 : decode cX2_spells 0 = .ok (.iconst 0, 1) := by decide +kernel
theorem dX2_spells_1 : decode cX2_spells 1 = .ok (.istore 4, 2) := by decide +kernel
theorem dX2_spells_3 : decode cX2_spells 3 = .ok (.iload 4, 2) := by decide +kernel
theorem dX2_spells_5 : decode cX2_spells 5 = .ok (.bipush 7, 2) := by decide +kernel
theorem dX2_spells_7 : decode cX2_spells 7 = .ok (.if_icmp .ge 52, 3) := by decide +kernel
theorem dX2_spells_10 : decode cX2_spells 10 = .ok (.iload_n 2, 1) := by decide +kernel
theorem dX2_spells_11 : decode cX2_spells 11 = .ok (.iload 4, 2) := by decide +kernel
theorem dX2_spells_13 : decode cX2_spells 13 = .ok (.iadd, 1) := by decide +kernel
theorem dX2_spells_14 : decode cX2_spells 14 = .ok (.iload_n 3, 1) := by decide +kernel
theorem dX2_spells_15 : decode cX2_spells 15 = .ok (.if_icmp .ge 15, 3) := by decide +kernel
theorem dX2_spells_18 : decode cX2_spells 18 = .ok (.aload_n 0, 1) := by decide +kernel
theorem dX2_spells_19 : decode cX2_spells 19 = .ok (.getfield 9, 3) := by decide +kernel
theorem dX2_spells_22 : decode cX2_spells 22 = .ok (.iload_n 2, 1) := by decide +kernel
theorem dX2_spells_23 : decode cX2_spells 23 = .ok (.iload 4, 2) := by decide +kernel
theorem dX2_spells_25 : decode cX2_spells 25 = .ok (.iadd, 1) := by decide +kernel
theorem dX2_spells_26 : decode cX2_spells 26 = .ok (.iaload, 1) := by decide +kernel
theorem dX2_spells_27 : decode cX2_spells 27 = .ok (.goto 5, 3) := by decide +kernel
theorem dX2_spells_30 : decode cX2_spells 30 = .ok (.bipush 32, 2) := by decide +kernel
theorem dX2_spells_32 : decode cX2_spells 32 = .ok (.istore 5, 2) := by decide +kernel
theorem dX2_spells_34 : decode cX2_spells 34 = .ok (.iload 5, 2) := by decide +kernel
theorem dX2_spells_36 : decode cX2_spells 36 = .ok (.ldc 98, 2) := by decide +kernel
theorem dX2_spells_38 : decode cX2_spells 38 = .ok (.iload_n 1, 1) := by decide +kernel
theorem dX2_spells_39 : decode cX2_spells 39 = .ok (.bipush 7, 2) := by decide +kernel
theorem dX2_spells_41 : decode cX2_spells 41 = .ok (.imul, 1) := by decide +kernel
theorem dX2_spells_42 : decode cX2_spells 42 = .ok (.iload 4, 2) := by decide +kernel
theorem dX2_spells_44 : decode cX2_spells 44 = .ok (.iadd, 1) := by decide +kernel
theorem dX2_spells_45 : decode cX2_spells 45 = .ok (.invokevirtual 34, 3) := by decide +kernel
theorem dX2_spells_48 : decode cX2_spells 48 = .ok (.if_icmp .eq 5, 3) := by decide +kernel
theorem dX2_spells_51 : decode cX2_spells 51 = .ok (.iconst 0, 1) := by decide +kernel
theorem dX2_spells_52 : decode cX2_spells 52 = .ok (.ireturn, 1) := by decide +kernel
theorem dX2_spells_53 : decode cX2_spells 53 = .ok (.iinc 4 1, 3) := by decide +kernel
theorem dX2_spells_56 : decode cX2_spells 56 = .ok (.goto (-53), 3) := by decide +kernel
theorem dX2_spells_59 : decode cX2_spells 59 = .ok (.iconst 1, 1) := by decide +kernel
theorem dX2_spells_60 : decode cX2_spells 60 = .ok (.ireturn, 1) := by decide +kernel
theorem dX2_isLetter_0 : decode cX2_isLetter 0 = .ok (.iload_n 0, 1) := by decide +kernel
theorem dX2_isLetter_1 : decode cX2_isLetter 1 = .ok (.bipush 97, 2) := by decide +kernel
theorem dX2_isLetter_3 : decode cX2_isLetter 3 = .ok (.if_icmp .lt 13, 3) := by decide +kernel
theorem dX2_isLetter_6 : decode cX2_isLetter 6 = .ok (.iload_n 0, 1) := by decide +kernel
theorem dX2_isLetter_7 : decode cX2_isLetter 7 = .ok (.bipush 122, 2) := by decide +kernel
theorem dX2_isLetter_9 : decode cX2_isLetter 9 = .ok (.if_icmp .gt 7, 3) := by decide +kernel
theorem dX2_isLetter_12 : decode cX2_isLetter 12 = .ok (.iconst 1, 1) := by decide +kernel
theorem dX2_isLetter_13 : decode cX2_isLetter 13 = .ok (.goto 4, 3) := by decide +kernel
theorem dX2_isLetter_16 : decode cX2_isLetter 16 = .ok (.iconst 0, 1) := by decide +kernel
theorem dX2_isLetter_17 : decode cX2_isLetter 17 = .ok (.ireturn, 1) := by decide +kernel
theorem dX2_isDigit_0 : decode cX2_isDigit 0 = .ok (.iload_n 0, 1) := by decide +kernel
theorem dX2_isDigit_1 : decode cX2_isDigit 1 = .ok (.bipush 48, 2) := by decide +kernel
theorem dX2_isDigit_3 : decode cX2_isDigit 3 = .ok (.if_icmp .lt 13, 3) := by decide +kernel
theorem dX2_isDigit_6 : decode cX2_isDigit 6 = .ok (.iload_n 0, 1) := by decide +kernel
theorem dX2_isDigit_7 : decode cX2_isDigit 7 = .ok (.bipush 57, 2) := by decide +kernel
theorem dX2_isDigit_9 : decode cX2_isDigit 9 = .ok (.if_icmp .gt 7, 3) := by decide +kernel
theorem dX2_isDigit_12 : decode cX2_isDigit 12 = .ok (.iconst 1, 1) := by decide +kernel
theorem dX2_isDigit_13 : decode cX2_isDigit 13 = .ok (.goto 4, 3) := by decide +kernel
theorem dX2_isDigit_16 : decode cX2_isDigit 16 = .ok (.iconst 0, 1) := by decide +kernel
theorem dX2_isDigit_17 : decode cX2_isDigit 17 = .ok (.ireturn, 1) := by decide +kernel
theorem dX2_isSign_0 : decode cX2_isSign 0 = .ok (.iload_n 0, 1) := by decide +kernel
theorem dX2_isSign_1 : decode cX2_isSign 1 = .ok (.bipush 40, 2) := by decide +kernel
theorem dX2_isSign_3 : decode cX2_isSign 3 = .ok (.if_icmp .eq 45, 3) := by decide +kernel
theorem dX2_isSign_6 : decode cX2_isSign 6 = .ok (.iload_n 0, 1) := by decide +kernel
theorem dX2_isSign_7 : decode cX2_isSign 7 = .ok (.bipush 41, 2) := by decide +kernel
theorem dX2_isSign_9 : decode cX2_isSign 9 = .ok (.if_icmp .eq 39, 3) := by decide +kernel
theorem dX2_isSign_12 : decode cX2_isSign 12 = .ok (.iload_n 0, 1) := by decide +kernel
theorem dX2_isSign_13 : decode cX2_isSign 13 = .ok (.bipush 59, 2) := by decide +kernel
theorem dX2_isSign_15 : decode cX2_isSign 15 = .ok (.if_icmp .eq 33, 3) := by decide +kernel
theorem dX2_isSign_18 : decode cX2_isSign 18 = .ok (.iload_n 0, 1) := by decide +kernel
theorem dX2_isSign_19 : decode cX2_isSign 19 = .ok (.bipush 43, 2) := by decide +kernel
theorem dX2_isSign_21 : decode cX2_isSign 21 = .ok (.if_icmp .eq 27, 3) := by decide +kernel
theorem dX2_isSign_24 : decode cX2_isSign 24 = .ok (.iload_n 0, 1) := by decide +kernel
theorem dX2_isSign_25 : decode cX2_isSign 25 = .ok (.bipush 45, 2) := by decide +kernel
theorem dX2_isSign_27 : decode cX2_isSign 27 = .ok (.if_icmp .eq 21, 3) := by decide +kernel
theorem dX2_isSign_30 : decode cX2_isSign 30 = .ok (.iload_n 0, 1) := by decide +kernel
theorem dX2_isSign_31 : decode cX2_isSign 31 = .ok (.bipush 42, 2) := by decide +kernel
theorem dX2_isSign_33 : decode cX2_isSign 33 = .ok (.if_icmp .eq 15, 3) := by decide +kernel
theorem dX2_isSign_36 : decode cX2_isSign 36 = .ok (.iload_n 0, 1) := by decide +kernel
theorem dX2_isSign_37 : decode cX2_isSign 37 = .ok (.bipush 60, 2) := by decide +kernel
theorem dX2_isSign_39 : decode cX2_isSign 39 = .ok (.if_icmp .eq 9, 3) := by decide +kernel
theorem dX2_isSign_42 : decode cX2_isSign 42 = .ok (.iload_n 0, 1) := by decide +kernel
theorem dX2_isSign_43 : decode cX2_isSign 43 = .ok (.bipush 61, 2) := by decide +kernel
theorem dX2_isSign_45 : decode cX2_isSign 45 = .ok (.if_icmp .ne 7, 3) := by decide +kernel
theorem dX2_isSign_48 : decode cX2_isSign 48 = .ok (.iconst 1, 1) := by decide +kernel
theorem dX2_isSign_49 : decode cX2_isSign 49 = .ok (.goto 4, 3) := by decide +kernel
theorem dX2_isSign_52 : decode cX2_isSign 52 = .ok (.iconst 0, 1) := by decide +kernel
theorem dX2_isSign_53 : decode cX2_isSign 53 = .ok (.ireturn, 1) := by decide +kernel
theorem dX2_now_0 : decode cX2_now 0 = .ok (.aload_n 0, 1) := by decide +kernel
theorem dX2_now_1 : decode cX2_now 1 = .ok (.getfield 45, 3) := by decide +kernel
theorem dX2_now_4 : decode cX2_now 4 = .ok (.aload_n 0, 1) := by decide +kernel
theorem dX2_now_5 : decode cX2_now 5 = .ok (.getfield 66, 3) := by decide +kernel
theorem dX2_now_8 : decode cX2_now 8 = .ok (.if_icmp .ge 15, 3) := by decide +kernel
theorem dX2_now_11 : decode cX2_now 11 = .ok (.aload_n 0, 1) := by decide +kernel
theorem dX2_now_12 : decode cX2_now 12 = .ok (.getfield 15, 3) := by decide +kernel
theorem dX2_now_15 : decode cX2_now 15 = .ok (.aload_n 0, 1) := by decide +kernel
theorem dX2_now_16 : decode cX2_now 16 = .ok (.getfield 45, 3) := by decide +kernel
theorem dX2_now_19 : decode cX2_now 19 = .ok (.iaload, 1) := by decide +kernel
theorem dX2_now_20 : decode cX2_now 20 = .ok (.goto 6, 3) := by decide +kernel
theorem dX2_now_23 : decode cX2_now 23 = .ok (.sipush 301, 3) := by decide +kernel
theorem dX2_now_26 : decode cX2_now 26 = .ok (.ireturn, 1) := by decide +kernel
theorem dX2_pass_0 : decode cX2_pass 0 = .ok (.aload_n 0, 1) := by decide +kernel
theorem dX2_pass_1 : decode cX2_pass 1 = .ok (.invokevirtual 63, 3) := by decide +kernel
theorem dX2_pass_4 : decode cX2_pass 4 = .ok (.iload_n 1, 1) := by decide +kernel
theorem dX2_pass_5 : decode cX2_pass 5 = .ok (.if_icmp .eq 5, 3) := by decide +kernel
theorem dX2_pass_8 : decode cX2_pass 8 = .ok (.iconst 0, 1) := by decide +kernel
theorem dX2_pass_9 : decode cX2_pass 9 = .ok (.ireturn, 1) := by decide +kernel
theorem dX2_pass_10 : decode cX2_pass 10 = .ok (.aload_n 0, 1) := by decide +kernel
theorem dX2_pass_11 : decode cX2_pass 11 = .ok (.dup, 1) := by decide +kernel
theorem dX2_pass_12 : decode cX2_pass 12 = .ok (.getfield 45, 3) := by decide +kernel
theorem dX2_pass_15 : decode cX2_pass 15 = .ok (.iconst 1, 1) := by decide +kernel
theorem dX2_pass_16 : decode cX2_pass 16 = .ok (.iadd, 1) := by decide +kernel
theorem dX2_pass_17 : decode cX2_pass 17 = .ok (.putfield 45, 3) := by decide +kernel
theorem dX2_pass_20 : decode cX2_pass 20 = .ok (.iconst 1, 1) := by decide +kernel
theorem dX2_pass_21 : decode cX2_pass 21 = .ok (.ireturn, 1) := by decide +kernel
theorem dX2_readPart_0 : decode cX2_readPart 0 = .ok (.aload_n 0, 1) := by decide +kernel
theorem dX2_readPart_1 : decode cX2_readPart 1 = .ok (.bipush 6, 2) := by decide +kernel
theorem dX2_readPart_3 : decode cX2_readPart 3 = .ok (.iload_n 1, 1) := by decide +kernel
theorem dX2_readPart_4 : decode cX2_readPart 4 = .ok (.iadd, 1) := by decide +kernel
theorem dX2_readPart_5 : decode cX2_readPart 5 = .ok (.invokevirtual 100, 3) := by decide +kernel
theorem dX2_readPart_8 : decode cX2_readPart 8 = .ok (.ifCond .eq 24, 3) := by decide +kernel
theorem dX2_readPart_11 : decode cX2_readPart 11 = .ok (.aload_n 0, 1) := by decide +kernel
theorem dX2_readPart_12 : decode cX2_readPart 12 = .ok (.iconst 0, 1) := by decide +kernel
theorem dX2_readPart_13 : decode cX2_readPart 13 = .ok (.invokevirtual 103, 3) := by decide +kernel
theorem dX2_readPart_16 : decode cX2_readPart 16 = .ok (.ifCond .eq 16, 3) := by decide +kernel
theorem dX2_readPart_19 : decode cX2_readPart 19 = .ok (.aload_n 0, 1) := by decide +kernel
theorem dX2_readPart_20 : decode cX2_readPart 20 = .ok (.bipush 59, 2) := by decide +kernel
theorem dX2_readPart_22 : decode cX2_readPart 22 = .ok (.invokevirtual 100, 3) := by decide +kernel
theorem dX2_readPart_25 : decode cX2_readPart 25 = .ok (.ifCond .eq 7, 3) := by decide +kernel
theorem dX2_readPart_28 : decode cX2_readPart 28 = .ok (.iconst 1, 1) := by decide +kernel
theorem dX2_readPart_29 : decode cX2_readPart 29 = .ok (.goto 4, 3) := by decide +kernel
theorem dX2_readPart_32 : decode cX2_readPart 32 = .ok (.iconst 0, 1) := by decide +kernel
theorem dX2_readPart_33 : decode cX2_readPart 33 = .ok (.istore_n 2, 1) := by decide +kernel
theorem dX2_readPart_34 : decode cX2_readPart 34 = .ok (.aload_n 0, 1) := by decide +kernel
theorem dX2_readPart_35 : decode cX2_readPart 35 = .ok (.getfield 48, 3) := by decide +kernel
theorem dX2_readPart_38 : decode cX2_readPart 38 = .ok (.iload_n 1, 1) := by decide +kernel
theorem dX2_readPart_39 : decode cX2_readPart 39 = .ok (.invokevirtual 106, 3) := by decide +kernel
theorem dX2_readPart_42 : decode cX2_readPart 42 = .ok (.iload_n 2, 1) := by decide +kernel
theorem dX2_readPart_43 : decode cX2_readPart 43 = .ok (.ireturn, 1) := by decide +kernel
theorem dX2_readE_0 : decode cX2_readE 0 = .ok (.aload_n 0, 1) := by decide +kernel
theorem dX2_readE_1 : decode cX2_readE 1 = .ok (.iload_n 1, 1) := by decide +kernel
theorem dX2_readE_2 : decode cX2_readE 2 = .ok (.invokevirtual 110, 3) := by decide +kernel
theorem dX2_readE_5 : decode cX2_readE 5 = .ok (.ifCond .ne 5, 3) := by decide +kernel
theorem dX2_readE_8 : decode cX2_readE 8 = .ok (.iconst 0, 1) := by decide +kernel
theorem dX2_readE_9 : decode cX2_readE 9 = .ok (.ireturn, 1) := by decide +kernel
theorem dX2_readE_10 : decode cX2_readE 10 = .ok (.aload_n 0, 1) := by decide +kernel
theorem dX2_readE_11 : decode cX2_readE 11 = .ok (.getfield 66, 3) := by decide +kernel
theorem dX2_readE_14 : decode cX2_readE 14 = .ok (.istore_n 2, 1) := by decide +kernel
theorem dX2_readE_15 : decode cX2_readE 15 = .ok (.iload_n 2, 1) := by decide +kernel
theorem dX2_readE_16 : decode cX2_readE 16 = .ok (.ifCond .le 37, 3) := by decide +kernel
theorem dX2_readE_19 : decode cX2_readE 19 = .ok (.aload_n 0, 1) := by decide +kernel
theorem dX2_readE_20 : decode cX2_readE 20 = .ok (.bipush 9, 2) := by decide +kernel
theorem dX2_readE_22 : decode cX2_readE 22 = .ok (.invokevirtual 100, 3) := by decide +kernel
theorem dX2_readE_25 : decode cX2_readE 25 = .ok (.ifCond .eq 28, 3) := by decide +kernel
theorem dX2_readE_28 : decode cX2_readE 28 = .ok (.aload_n 0, 1) := by decide +kernel
theorem dX2_readE_29 : decode cX2_readE 29 = .ok (.iload_n 1, 1) := by decide +kernel
theorem dX2_readE_30 : decode cX2_readE 30 = .ok (.invokevirtual 110, 3) := by decide +kernel
theorem dX2_readE_33 : decode cX2_readE 33 = .ok (.ifCond .ne 5, 3) := by decide +kernel
theorem dX2_readE_36 : decode cX2_readE 36 = .ok (.iconst 0, 1) := by decide +kernel
theorem dX2_readE_37 : decode cX2_readE 37 = .ok (.ireturn, 1) := by decide +kernel
theorem dX2_readE_38 : decode cX2_readE 38 = .ok (.aload_n 0, 1) := by decide +kernel
theorem dX2_readE_39 : decode cX2_readE 39 = .ok (.getfield 48, 3) := by decide +kernel
theorem dX2_readE_42 : decode cX2_readE 42 = .ok (.bipush 9, 2) := by decide +kernel
theorem dX2_readE_44 : decode cX2_readE 44 = .ok (.invokevirtual 113, 3) := by decide +kernel
theorem dX2_readE_47 : decode cX2_readE 47 = .ok (.iinc 2 (-1), 3) := by decide +kernel
theorem dX2_readE_50 : decode cX2_readE 50 = .ok (.goto (-35), 3) := by decide +kernel
theorem dX2_readE_53 : decode cX2_readE 53 = .ok (.iconst 1, 1) := by decide +kernel
theorem dX2_readE_54 : decode cX2_readE 54 = .ok (.ireturn, 1) := by decide +kernel
theorem dX2_readAnd_0 : decode cX2_readAnd 0 = .ok (.aload_n 0, 1) := by decide +kernel
theorem dX2_readAnd_1 : decode cX2_readAnd 1 = .ok (.iload_n 1, 1) := by decide +kernel
theorem dX2_readAnd_2 : decode cX2_readAnd 2 = .ok (.invokevirtual 116, 3) := by decide +kernel
theorem dX2_readAnd_5 : decode cX2_readAnd 5 = .ok (.ifCond .ne 5, 3) := by decide +kernel
theorem dX2_readAnd_8 : decode cX2_readAnd 8 = .ok (.iconst 0, 1) := by decide +kernel
theorem dX2_readAnd_9 : decode cX2_readAnd 9 = .ok (.ireturn, 1) := by decide +kernel
theorem dX2_readAnd_10 : decode cX2_readAnd 10 = .ok (.aload_n 0, 1) := by decide +kernel
theorem dX2_readAnd_11 : decode cX2_readAnd 11 = .ok (.getfield 66, 3) := by decide +kernel
theorem dX2_readAnd_14 : decode cX2_readAnd 14 = .ok (.istore_n 2, 1) := by decide +kernel
theorem dX2_readAnd_15 : decode cX2_readAnd 15 = .ok (.iload_n 2, 1) := by decide +kernel
theorem dX2_readAnd_16 : decode cX2_readAnd 16 = .ok (.ifCond .le 37, 3) := by decide +kernel
theorem dX2_readAnd_19 : decode cX2_readAnd 19 = .ok (.aload_n 0, 1) := by decide +kernel
theorem dX2_readAnd_20 : decode cX2_readAnd 20 = .ok (.bipush 10, 2) := by decide +kernel
theorem dX2_readAnd_22 : decode cX2_readAnd 22 = .ok (.invokevirtual 100, 3) := by decide +kernel
theorem dX2_readAnd_25 : decode cX2_readAnd 25 = .ok (.ifCond .eq 28, 3) := by decide +kernel
theorem dX2_readAnd_28 : decode cX2_readAnd 28 = .ok (.aload_n 0, 1) := by decide +kernel
theorem dX2_readAnd_29 : decode cX2_readAnd 29 = .ok (.iload_n 1, 1) := by decide +kernel
theorem dX2_readAnd_30 : decode cX2_readAnd 30 = .ok (.invokevirtual 116, 3) := by decide +kernel
theorem dX2_readAnd_33 : decode cX2_readAnd 33 = .ok (.ifCond .ne 5, 3) := by decide +kernel
theorem dX2_readAnd_36 : decode cX2_readAnd 36 = .ok (.iconst 0, 1) := by decide +kernel
theorem dX2_readAnd_37 : decode cX2_readAnd 37 = .ok (.ireturn, 1) := by decide +kernel
theorem dX2_readAnd_38 : decode cX2_readAnd 38 = .ok (.aload_n 0, 1) := by decide +kernel
theorem dX2_readAnd_39 : decode cX2_readAnd 39 = .ok (.getfield 48, 3) := by decide +kernel
theorem dX2_readAnd_42 : decode cX2_readAnd 42 = .ok (.bipush 10, 2) := by decide +kernel
theorem dX2_readAnd_44 : decode cX2_readAnd 44 = .ok (.invokevirtual 113, 3) := by decide +kernel
theorem dX2_readAnd_47 : decode cX2_readAnd 47 = .ok (.iinc 2 (-1), 3) := by decide +kernel
theorem dX2_readAnd_50 : decode cX2_readAnd 50 = .ok (.goto (-35), 3) := by decide +kernel
theorem dX2_readAnd_53 : decode cX2_readAnd 53 = .ok (.iconst 1, 1) := by decide +kernel
theorem dX2_readAnd_54 : decode cX2_readAnd 54 = .ok (.ireturn, 1) := by decide +kernel
theorem dX2_readNot_0 : decode cX2_readNot 0 = .ok (.aload_n 0, 1) := by decide +kernel
theorem dX2_readNot_1 : decode cX2_readNot 1 = .ok (.invokevirtual 63, 3) := by decide +kernel
theorem dX2_readNot_4 : decode cX2_readNot 4 = .ok (.bipush 11, 2) := by decide +kernel
theorem dX2_readNot_6 : decode cX2_readNot 6 = .ok (.if_icmp .ne 39, 3) := by decide +kernel
theorem dX2_readNot_9 : decode cX2_readNot 9 = .ok (.iload_n 1, 1) := by decide +kernel
theorem dX2_readNot_10 : decode cX2_readNot 10 = .ok (.iconst 5, 1) := by decide +kernel
theorem dX2_readNot_11 : decode cX2_readNot 11 = .ok (.if_icmp .lt 5, 3) := by decide +kernel
theorem dX2_readNot_14 : decode cX2_readNot 14 = .ok (.iconst 0, 1) := by decide +kernel
theorem dX2_readNot_15 : decode cX2_readNot 15 = .ok (.ireturn, 1) := by decide +kernel
theorem dX2_readNot_16 : decode cX2_readNot 16 = .ok (.aload_n 0, 1) := by decide +kernel
theorem dX2_readNot_17 : decode cX2_readNot 17 = .ok (.dup, 1) := by decide +kernel
theorem dX2_readNot_18 : decode cX2_readNot 18 = .ok (.getfield 45, 3) := by decide +kernel
theorem dX2_readNot_21 : decode cX2_readNot 21 = .ok (.iconst 1, 1) := by decide +kernel
theorem dX2_readNot_22 : decode cX2_readNot 22 = .ok (.iadd, 1) := by decide +kernel
theorem dX2_readNot_23 : decode cX2_readNot 23 = .ok (.putfield 45, 3) := by decide +kernel
theorem dX2_readNot_26 : decode cX2_readNot 26 = .ok (.aload_n 0, 1) := by decide +kernel
theorem dX2_readNot_27 : decode cX2_readNot 27 = .ok (.iload_n 1, 1) := by decide +kernel
theorem dX2_readNot_28 : decode cX2_readNot 28 = .ok (.iconst 1, 1) := by decide +kernel
theorem dX2_readNot_29 : decode cX2_readNot 29 = .ok (.iadd, 1) := by decide +kernel
theorem dX2_readNot_30 : decode cX2_readNot 30 = .ok (.invokevirtual 116, 3) := by decide +kernel
theorem dX2_readNot_33 : decode cX2_readNot 33 = .ok (.istore_n 2, 1) := by decide +kernel
theorem dX2_readNot_34 : decode cX2_readNot 34 = .ok (.aload_n 0, 1) := by decide +kernel
theorem dX2_readNot_35 : decode cX2_readNot 35 = .ok (.getfield 48, 3) := by decide +kernel
theorem dX2_readNot_38 : decode cX2_readNot 38 = .ok (.bipush 11, 2) := by decide +kernel
theorem dX2_readNot_40 : decode cX2_readNot 40 = .ok (.invokevirtual 113, 3) := by decide +kernel
theorem dX2_readNot_43 : decode cX2_readNot 43 = .ok (.iload_n 2, 1) := by decide +kernel
theorem dX2_readNot_44 : decode cX2_readNot 44 = .ok (.ireturn, 1) := by decide +kernel
theorem dX2_readNot_45 : decode cX2_readNot 45 = .ok (.aload_n 0, 1) := by decide +kernel
theorem dX2_readNot_46 : decode cX2_readNot 46 = .ok (.iload_n 1, 1) := by decide +kernel
theorem dX2_readNot_47 : decode cX2_readNot 47 = .ok (.invokevirtual 119, 3) := by decide +kernel
theorem dX2_readNot_50 : decode cX2_readNot 50 = .ok (.ifCond .ne 5, 3) := by decide +kernel
theorem dX2_readNot_53 : decode cX2_readNot 53 = .ok (.iconst 0, 1) := by decide +kernel
theorem dX2_readNot_54 : decode cX2_readNot 54 = .ok (.ireturn, 1) := by decide +kernel
theorem dX2_readNot_55 : decode cX2_readNot 55 = .ok (.aload_n 0, 1) := by decide +kernel
theorem dX2_readNot_56 : decode cX2_readNot 56 = .ok (.invokevirtual 63, 3) := by decide +kernel
theorem dX2_readNot_59 : decode cX2_readNot 59 = .ok (.istore_n 2, 1) := by decide +kernel
theorem dX2_readNot_60 : decode cX2_readNot 60 = .ok (.iload_n 2, 1) := by decide +kernel
theorem dX2_readNot_61 : decode cX2_readNot 61 = .ok (.bipush 60, 2) := by decide +kernel
theorem dX2_readNot_63 : decode cX2_readNot 63 = .ok (.if_icmp .eq 9, 3) := by decide +kernel
theorem dX2_readNot_66 : decode cX2_readNot 66 = .ok (.iload_n 2, 1) := by decide +kernel
theorem dX2_readNot_67 : decode cX2_readNot 67 = .ok (.bipush 61, 2) := by decide +kernel
theorem dX2_readNot_69 : decode cX2_readNot 69 = .ok (.if_icmp .ne 29, 3) := by decide +kernel
theorem dX2_readNot_72 : decode cX2_readNot 72 = .ok (.aload_n 0, 1) := by decide +kernel
theorem dX2_readNot_73 : decode cX2_readNot 73 = .ok (.dup, 1) := by decide +kernel
theorem dX2_readNot_74 : decode cX2_readNot 74 = .ok (.getfield 45, 3) := by decide +kernel
theorem dX2_readNot_77 : decode cX2_readNot 77 = .ok (.iconst 1, 1) := by decide +kernel
theorem dX2_readNot_78 : decode cX2_readNot 78 = .ok (.iadd, 1) := by decide +kernel
theorem dX2_readNot_79 : decode cX2_readNot 79 = .ok (.putfield 45, 3) := by decide +kernel
theorem dX2_readNot_82 : decode cX2_readNot 82 = .ok (.aload_n 0, 1) := by decide +kernel
theorem dX2_readNot_83 : decode cX2_readNot 83 = .ok (.iload_n 1, 1) := by decide +kernel
theorem dX2_readNot_84 : decode cX2_readNot 84 = .ok (.invokevirtual 119, 3) := by decide +kernel
theorem dX2_readNot_87 : decode cX2_readNot 87 = .ok (.istore_n 3, 1) := by decide +kernel
theorem dX2_readNot_88 : decode cX2_readNot 88 = .ok (.aload_n 0, 1) := by decide +kernel
theorem dX2_readNot_89 : decode cX2_readNot 89 = .ok (.getfield 48, 3) := by decide +kernel
theorem dX2_readNot_92 : decode cX2_readNot 92 = .ok (.iload_n 2, 1) := by decide +kernel
theorem dX2_readNot_93 : decode cX2_readNot 93 = .ok (.invokevirtual 113, 3) := by decide +kernel
theorem dX2_readNot_96 : decode cX2_readNot 96 = .ok (.iload_n 3, 1) := by decide +kernel
theorem dX2_readNot_97 : decode cX2_readNot 97 = .ok (.ireturn, 1) := by decide +kernel
theorem dX2_readNot_98 : decode cX2_readNot 98 = .ok (.iconst 1, 1) := by decide +kernel
theorem dX2_readNot_99 : decode cX2_readNot 99 = .ok (.ireturn, 1) := by decide +kernel
theorem dX2_readSum_0 : decode cX2_readSum 0 = .ok (.aload_n 0, 1) := by decide +kernel
theorem dX2_readSum_1 : decode cX2_readSum 1 = .ok (.iload_n 1, 1) := by decide +kernel
theorem dX2_readSum_2 : decode cX2_readSum 2 = .ok (.invokevirtual 122, 3) := by decide +kernel
theorem dX2_readSum_5 : decode cX2_readSum 5 = .ok (.ifCond .ne 5, 3) := by decide +kernel
theorem dX2_readSum_8 : decode cX2_readSum 8 = .ok (.iconst 0, 1) := by decide +kernel
theorem dX2_readSum_9 : decode cX2_readSum 9 = .ok (.ireturn, 1) := by decide +kernel
theorem dX2_readSum_10 : decode cX2_readSum 10 = .ok (.aload_n 0, 1) := by decide +kernel
theorem dX2_readSum_11 : decode cX2_readSum 11 = .ok (.getfield 66, 3) := by decide +kernel
theorem dX2_readSum_14 : decode cX2_readSum 14 = .ok (.istore_n 2, 1) := by decide +kernel
theorem dX2_readSum_15 : decode cX2_readSum 15 = .ok (.iload_n 2, 1) := by decide +kernel
theorem dX2_readSum_16 : decode cX2_readSum 16 = .ok (.ifCond .le 60, 3) := by decide +kernel
theorem dX2_readSum_19 : decode cX2_readSum 19 = .ok (.aload_n 0, 1) := by decide +kernel
theorem dX2_readSum_20 : decode cX2_readSum 20 = .ok (.invokevirtual 63, 3) := by decide +kernel
theorem dX2_readSum_23 : decode cX2_readSum 23 = .ok (.bipush 43, 2) := by decide +kernel
theorem dX2_readSum_25 : decode cX2_readSum 25 = .ok (.if_icmp .eq 12, 3) := by decide +kernel
theorem dX2_readSum_28 : decode cX2_readSum 28 = .ok (.aload_n 0, 1) := by decide +kernel
theorem dX2_readSum_29 : decode cX2_readSum 29 = .ok (.invokevirtual 63, 3) := by decide +kernel
theorem dX2_readSum_32 : decode cX2_readSum 32 = .ok (.bipush 45, 2) := by decide +kernel
theorem dX2_readSum_34 : decode cX2_readSum 34 = .ok (.if_icmp .ne 42, 3) := by decide +kernel
theorem dX2_readSum_37 : decode cX2_readSum 37 = .ok (.aload_n 0, 1) := by decide +kernel
theorem dX2_readSum_38 : decode cX2_readSum 38 = .ok (.invokevirtual 63, 3) := by decide +kernel
theorem dX2_readSum_41 : decode cX2_readSum 41 = .ok (.istore_n 3, 1) := by decide +kernel
theorem dX2_readSum_42 : decode cX2_readSum 42 = .ok (.aload_n 0, 1) := by decide +kernel
theorem dX2_readSum_43 : decode cX2_readSum 43 = .ok (.dup, 1) := by decide +kernel
theorem dX2_readSum_44 : decode cX2_readSum 44 = .ok (.getfield 45, 3) := by decide +kernel
theorem dX2_readSum_47 : decode cX2_readSum 47 = .ok (.iconst 1, 1) := by decide +kernel
theorem dX2_readSum_48 : decode cX2_readSum 48 = .ok (.iadd, 1) := by decide +kernel
theorem dX2_readSum_49 : decode cX2_readSum 49 = .ok (.putfield 45, 3) := by decide +kernel
theorem dX2_readSum_52 : decode cX2_readSum 52 = .ok (.aload_n 0, 1) := by decide +kernel
theorem dX2_readSum_53 : decode cX2_readSum 53 = .ok (.iload_n 1, 1) := by decide +kernel
theorem dX2_readSum_54 : decode cX2_readSum 54 = .ok (.invokevirtual 122, 3) := by decide +kernel
theorem dX2_readSum_57 : decode cX2_readSum 57 = .ok (.ifCond .ne 5, 3) := by decide +kernel
theorem dX2_readSum_60 : decode cX2_readSum 60 = .ok (.iconst 0, 1) := by decide +kernel
theorem dX2_readSum_61 : decode cX2_readSum 61 = .ok (.ireturn, 1) := by decide +kernel
theorem dX2_readSum_62 : decode cX2_readSum 62 = .ok (.aload_n 0, 1) := by decide +kernel
theorem dX2_readSum_63 : decode cX2_readSum 63 = .ok (.getfield 48, 3) := by decide +kernel
theorem dX2_readSum_66 : decode cX2_readSum 66 = .ok (.iload_n 3, 1) := by decide +kernel
theorem dX2_readSum_67 : decode cX2_readSum 67 = .ok (.invokevirtual 113, 3) := by decide +kernel
theorem dX2_readSum_70 : decode cX2_readSum 70 = .ok (.iinc 2 (-1), 3) := by decide +kernel
theorem dX2_readSum_73 : decode cX2_readSum 73 = .ok (.goto (-58), 3) := by decide +kernel
theorem dX2_readSum_76 : decode cX2_readSum 76 = .ok (.iconst 1, 1) := by decide +kernel
theorem dX2_readSum_77 : decode cX2_readSum 77 = .ok (.ireturn, 1) := by decide +kernel
theorem dX2_readTerm_0 : decode cX2_readTerm 0 = .ok (.aload_n 0, 1) := by decide +kernel
theorem dX2_readTerm_1 : decode cX2_readTerm 1 = .ok (.iload_n 1, 1) := by decide +kernel
theorem dX2_readTerm_2 : decode cX2_readTerm 2 = .ok (.invokevirtual 125, 3) := by decide +kernel
theorem dX2_readTerm_5 : decode cX2_readTerm 5 = .ok (.ifCond .ne 5, 3) := by decide +kernel
theorem dX2_readTerm_8 : decode cX2_readTerm 8 = .ok (.iconst 0, 1) := by decide +kernel
theorem dX2_readTerm_9 : decode cX2_readTerm 9 = .ok (.ireturn, 1) := by decide +kernel
theorem dX2_readTerm_10 : decode cX2_readTerm 10 = .ok (.aload_n 0, 1) := by decide +kernel
theorem dX2_readTerm_11 : decode cX2_readTerm 11 = .ok (.getfield 66, 3) := by decide +kernel
theorem dX2_readTerm_14 : decode cX2_readTerm 14 = .ok (.istore_n 2, 1) := by decide +kernel
theorem dX2_readTerm_15 : decode cX2_readTerm 15 = .ok (.iload_n 2, 1) := by decide +kernel
theorem dX2_readTerm_16 : decode cX2_readTerm 16 = .ok (.ifCond .le 37, 3) := by decide +kernel
theorem dX2_readTerm_19 : decode cX2_readTerm 19 = .ok (.aload_n 0, 1) := by decide +kernel
theorem dX2_readTerm_20 : decode cX2_readTerm 20 = .ok (.bipush 42, 2) := by decide +kernel
theorem dX2_readTerm_22 : decode cX2_readTerm 22 = .ok (.invokevirtual 100, 3) := by decide +kernel
theorem dX2_readTerm_25 : decode cX2_readTerm 25 = .ok (.ifCond .eq 28, 3) := by decide +kernel
theorem dX2_readTerm_28 : decode cX2_readTerm 28 = .ok (.aload_n 0, 1) := by decide +kernel
theorem dX2_readTerm_29 : decode cX2_readTerm 29 = .ok (.iload_n 1, 1) := by decide +kernel
theorem dX2_readTerm_30 : decode cX2_readTerm 30 = .ok (.invokevirtual 125, 3) := by decide +kernel
theorem dX2_readTerm_33 : decode cX2_readTerm 33 = .ok (.ifCond .ne 5, 3) := by decide +kernel
theorem dX2_readTerm_36 : decode cX2_readTerm 36 = .ok (.iconst 0, 1) := by decide +kernel
theorem dX2_readTerm_37 : decode cX2_readTerm 37 = .ok (.ireturn, 1) := by decide +kernel
theorem dX2_readTerm_38 : decode cX2_readTerm 38 = .ok (.aload_n 0, 1) := by decide +kernel
theorem dX2_readTerm_39 : decode cX2_readTerm 39 = .ok (.getfield 48, 3) := by decide +kernel
theorem dX2_readTerm_42 : decode cX2_readTerm 42 = .ok (.bipush 42, 2) := by decide +kernel
theorem dX2_readTerm_44 : decode cX2_readTerm 44 = .ok (.invokevirtual 113, 3) := by decide +kernel
theorem dX2_readTerm_47 : decode cX2_readTerm 47 = .ok (.iinc 2 (-1), 3) := by decide +kernel
theorem dX2_readTerm_50 : decode cX2_readTerm 50 = .ok (.goto (-35), 3) := by decide +kernel
theorem dX2_readTerm_53 : decode cX2_readTerm 53 = .ok (.iconst 1, 1) := by decide +kernel
theorem dX2_readTerm_54 : decode cX2_readTerm 54 = .ok (.ireturn, 1) := by decide +kernel
theorem dX2_readOne_0 : decode cX2_readOne 0 = .ok (.aload_n 0, 1) := by decide +kernel
theorem dX2_readOne_1 : decode cX2_readOne 1 = .ok (.invokevirtual 63, 3) := by decide +kernel
theorem dX2_readOne_4 : decode cX2_readOne 4 = .ok (.istore_n 2, 1) := by decide +kernel
theorem dX2_readOne_5 : decode cX2_readOne 5 = .ok (.iload_n 2, 1) := by decide +kernel
theorem dX2_readOne_6 : decode cX2_readOne 6 = .ok (.sipush 300, 3) := by decide +kernel
theorem dX2_readOne_9 : decode cX2_readOne 9 = .ok (.if_icmp .ne 42, 3) := by decide +kernel
theorem dX2_readOne_12 : decode cX2_readOne 12 = .ok (.aload_n 0, 1) := by decide +kernel
theorem dX2_readOne_13 : decode cX2_readOne 13 = .ok (.getfield 45, 3) := by decide +kernel
theorem dX2_readOne_16 : decode cX2_readOne 16 = .ok (.aload_n 0, 1) := by decide +kernel
theorem dX2_readOne_17 : decode cX2_readOne 17 = .ok (.getfield 66, 3) := by decide +kernel
theorem dX2_readOne_20 : decode cX2_readOne 20 = .ok (.if_icmp .ge 31, 3) := by decide +kernel
theorem dX2_readOne_23 : decode cX2_readOne 23 = .ok (.aload_n 0, 1) := by decide +kernel
theorem dX2_readOne_24 : decode cX2_readOne 24 = .ok (.getfield 48, 3) := by decide +kernel
theorem dX2_readOne_27 : decode cX2_readOne 27 = .ok (.aload_n 0, 1) := by decide +kernel
theorem dX2_readOne_28 : decode cX2_readOne 28 = .ok (.getfield 21, 3) := by decide +kernel
theorem dX2_readOne_31 : decode cX2_readOne 31 = .ok (.aload_n 0, 1) := by decide +kernel
theorem dX2_readOne_32 : decode cX2_readOne 32 = .ok (.getfield 45, 3) := by decide +kernel
theorem dX2_readOne_35 : decode cX2_readOne 35 = .ok (.iaload, 1) := by decide +kernel
theorem dX2_readOne_36 : decode cX2_readOne 36 = .ok (.invokevirtual 128, 3) := by decide +kernel
theorem dX2_readOne_39 : decode cX2_readOne 39 = .ok (.aload_n 0, 1) := by decide +kernel
theorem dX2_readOne_40 : decode cX2_readOne 40 = .ok (.dup, 1) := by decide +kernel
theorem dX2_readOne_41 : decode cX2_readOne 41 = .ok (.getfield 45, 3) := by decide +kernel
theorem dX2_readOne_44 : decode cX2_readOne 44 = .ok (.iconst 1, 1) := by decide +kernel
theorem dX2_readOne_45 : decode cX2_readOne 45 = .ok (.iadd, 1) := by decide +kernel
theorem dX2_readOne_46 : decode cX2_readOne 46 = .ok (.putfield 45, 3) := by decide +kernel
theorem dX2_readOne_49 : decode cX2_readOne 49 = .ok (.iconst 1, 1) := by decide +kernel
theorem dX2_readOne_50 : decode cX2_readOne 50 = .ok (.ireturn, 1) := by decide +kernel
theorem dX2_readOne_51 : decode cX2_readOne 51 = .ok (.iload_n 2, 1) := by decide +kernel
theorem dX2_readOne_52 : decode cX2_readOne 52 = .ok (.ifCond .lt 29, 3) := by decide +kernel
theorem dX2_readOne_55 : decode cX2_readOne 55 = .ok (.iload_n 2, 1) := by decide +kernel
theorem dX2_readOne_56 : decode cX2_readOne 56 = .ok (.bipush 6, 2) := by decide +kernel
theorem dX2_readOne_58 : decode cX2_readOne 58 = .ok (.if_icmp .ge 23, 3) := by decide +kernel
theorem dX2_readOne_61 : decode cX2_readOne 61 = .ok (.aload_n 0, 1) := by decide +kernel
theorem dX2_readOne_62 : decode cX2_readOne 62 = .ok (.getfield 48, 3) := by decide +kernel
theorem dX2_readOne_65 : decode cX2_readOne 65 = .ok (.iload_n 2, 1) := by decide +kernel
theorem dX2_readOne_66 : decode cX2_readOne 66 = .ok (.invokevirtual 113, 3) := by decide +kernel
theorem dX2_readOne_69 : decode cX2_readOne 69 = .ok (.aload_n 0, 1) := by decide +kernel
theorem dX2_readOne_70 : decode cX2_readOne 70 = .ok (.dup, 1) := by decide +kernel
theorem dX2_readOne_71 : decode cX2_readOne 71 = .ok (.getfield 45, 3) := by decide +kernel
theorem dX2_readOne_74 : decode cX2_readOne 74 = .ok (.iconst 1, 1) := by decide +kernel
theorem dX2_readOne_75 : decode cX2_readOne 75 = .ok (.iadd, 1) := by decide +kernel
theorem dX2_readOne_76 : decode cX2_readOne 76 = .ok (.putfield 45, 3) := by decide +kernel
theorem dX2_readOne_79 : decode cX2_readOne 79 = .ok (.iconst 1, 1) := by decide +kernel
theorem dX2_readOne_80 : decode cX2_readOne 80 = .ok (.ireturn, 1) := by decide +kernel
theorem dX2_readOne_81 : decode cX2_readOne 81 = .ok (.iload_n 2, 1) := by decide +kernel
theorem dX2_readOne_82 : decode cX2_readOne 82 = .ok (.bipush 40, 2) := by decide +kernel
theorem dX2_readOne_84 : decode cX2_readOne 84 = .ok (.if_icmp .eq 9, 3) := by decide +kernel
theorem dX2_readOne_87 : decode cX2_readOne 87 = .ok (.iload_n 2, 1) := by decide +kernel
theorem dX2_readOne_88 : decode cX2_readOne 88 = .ok (.bipush 45, 2) := by decide +kernel
theorem dX2_readOne_90 : decode cX2_readOne 90 = .ok (.if_icmp .ne 8, 3) := by decide +kernel
theorem dX2_readOne_93 : decode cX2_readOne 93 = .ok (.iload_n 1, 1) := by decide +kernel
theorem dX2_readOne_94 : decode cX2_readOne 94 = .ok (.iconst 5, 1) := by decide +kernel
theorem dX2_readOne_95 : decode cX2_readOne 95 = .ok (.if_icmp .lt 5, 3) := by decide +kernel
theorem dX2_readOne_98 : decode cX2_readOne 98 = .ok (.iconst 0, 1) := by decide +kernel
theorem dX2_readOne_99 : decode cX2_readOne 99 = .ok (.ireturn, 1) := by decide +kernel
theorem dX2_readOne_100 : decode cX2_readOne 100 = .ok (.aload_n 0, 1) := by decide +kernel
theorem dX2_readOne_101 : decode cX2_readOne 101 = .ok (.dup, 1) := by decide +kernel
theorem dX2_readOne_102 : decode cX2_readOne 102 = .ok (.getfield 45, 3) := by decide +kernel
theorem dX2_readOne_105 : decode cX2_readOne 105 = .ok (.iconst 1, 1) := by decide +kernel
theorem dX2_readOne_106 : decode cX2_readOne 106 = .ok (.iadd, 1) := by decide +kernel
theorem dX2_readOne_107 : decode cX2_readOne 107 = .ok (.putfield 45, 3) := by decide +kernel
theorem dX2_readOne_110 : decode cX2_readOne 110 = .ok (.iload_n 2, 1) := by decide +kernel
theorem dX2_readOne_111 : decode cX2_readOne 111 = .ok (.bipush 40, 2) := by decide +kernel
theorem dX2_readOne_113 : decode cX2_readOne 113 = .ok (.if_icmp .ne 28, 3) := by decide +kernel
theorem dX2_readOne_116 : decode cX2_readOne 116 = .ok (.aload_n 0, 1) := by decide +kernel
theorem dX2_readOne_117 : decode cX2_readOne 117 = .ok (.iload_n 1, 1) := by decide +kernel
theorem dX2_readOne_118 : decode cX2_readOne 118 = .ok (.iconst 1, 1) := by decide +kernel
theorem dX2_readOne_119 : decode cX2_readOne 119 = .ok (.iadd, 1) := by decide +kernel
theorem dX2_readOne_120 : decode cX2_readOne 120 = .ok (.invokevirtual 103, 3) := by decide +kernel
theorem dX2_readOne_123 : decode cX2_readOne 123 = .ok (.ifCond .eq 16, 3) := by decide +kernel
