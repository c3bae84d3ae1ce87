theorem dX1_init_0 : decode cX1_init 0 = .ok (.aload_n 0, 1) := by decide +kernel
theorem dX1_init_1 : decode cX1_init 1 = .ok (.invokespecial 3, 3) := by decide +kernel
theorem dX1_init_4 : decode cX1_init 4 = .ok (.aload_n 0, 1) := by decide +kernel
theorem dX1_init_5 : decode cX1_init 5 = .ok (.iconst 5, 1) := by decide +kernel
theorem dX1_init_6 : decode cX1_init 6 = .ok (.newarray .int, 2) := by decide +kernel
theorem dX1_init_8 : decode cX1_init 8 = .ok (.putfield 9, 3) := by decide +kernel
theorem dX1_init_11 : decode cX1_init 11 = .ok (.aload_n 0, 1) := by decide +kernel
theorem dX1_init_12 : decode cX1_init 12 = .ok (.iconst 5, 1) := by decide +kernel
theorem dX1_init_13 : decode cX1_init 13 = .ok (.newarray .int, 2) := by decide +kernel
theorem dX1_init_15 : decode cX1_init 15 = .ok (.putfield 15, 3) := by decide +kernel
theorem dX1_init_18 : decode cX1_init 18 = .ok (.aload_n 0, 1) := by decide +kernel
theorem dX1_init_19 : decode cX1_init 19 = .ok (.iconst 5, 1) := by decide +kernel
theorem dX1_init_20 : decode cX1_init 20 = .ok (.newarray .int, 2) := by decide +kernel
theorem dX1_init_22 : decode cX1_init 22 = .ok (.putfield 18, 3) := by decide +kernel
theorem dX1_init_25 : decode cX1_init 25 = .ok (.aload_n 0, 1) := by decide +kernel
theorem dX1_init_26 : decode cX1_init 26 = .ok (.iconst 5, 1) := by decide +kernel
theorem dX1_init_27 : decode cX1_init 27 = .ok (.newarray .int, 2) := by decide +kernel
theorem dX1_init_29 : decode cX1_init 29 = .ok (.putfield 21, 3) := by decide +kernel
theorem dX1_init_32 : decode cX1_init 32 = .ok (.aload_n 0, 1) := by decide +kernel
theorem dX1_init_33 : decode cX1_init 33 = .ok (.iconst 5, 1) := by decide +kernel
theorem dX1_init_34 : decode cX1_init 34 = .ok (.newarray .int, 2) := by decide +kernel
theorem dX1_init_36 : decode cX1_init 36 = .ok (.putfield 24, 3) := by decide +kernel
theorem dX1_init_39 : decode cX1_init 39 = .ok (.aload_n 0, 1) := by decide +kernel
theorem dX1_init_40 : decode cX1_init 40 = .ok (.iconst 5, 1) := by decide +kernel
theorem dX1_init_41 : decode cX1_init 41 = .ok (.newarray .int, 2) := by decide +kernel
theorem dX1_init_43 : decode cX1_init 43 = .ok (.putfield 27, 3) := by decide +kernel
theorem dX1_init_46 : decode cX1_init 46 = .ok (.aload_n 0, 1) := by decide +kernel
theorem dX1_init_47 : decode cX1_init 47 = .ok (.bipush 25, 2) := by decide +kernel
theorem dX1_init_49 : decode cX1_init 49 = .ok (.newarray .int, 2) := by decide +kernel
theorem dX1_init_51 : decode cX1_init 51 = .ok (.putfield 30, 3) := by decide +kernel
theorem dX1_init_54 : decode cX1_init 54 = .ok (.return_, 1) := by decide +kernel
theorem dX1_copyFrom_0 : decode cX1_copyFrom 0 = .ok (.aload_n 1, 1) := by decide +kernel
theorem dX1_copyFrom_1 : decode cX1_copyFrom 1 = .ok (.getfield 9, 3) := by decide +kernel
theorem dX1_copyFrom_4 : decode cX1_copyFrom 4 = .ok (.iconst 0, 1) := by decide +kernel
theorem dX1_copyFrom_5 : decode cX1_copyFrom 5 = .ok (.aload_n 0, 1) := by decide +kernel
theorem dX1_copyFrom_6 : decode cX1_copyFrom 6 = .ok (.getfield 9, 3) := by decide +kernel
theorem dX1_copyFrom_9 : decode cX1_copyFrom 9 = .ok (.iconst 0, 1) := by decide +kernel
theorem dX1_copyFrom_10 : decode cX1_copyFrom 10 = .ok (.iconst 5, 1) := by decide +kernel
theorem dX1_copyFrom_11 : decode cX1_copyFrom 11 = .ok (.invokestatic 33, 3) := by decide +kernel
theorem dX1_copyFrom_14 : decode cX1_copyFrom 14 = .ok (.aload_n 1, 1) := by decide +kernel
theorem dX1_copyFrom_15 : decode cX1_copyFrom 15 = .ok (.getfield 15, 3) := by decide +kernel
theorem dX1_copyFrom_18 : decode cX1_copyFrom 18 = .ok (.iconst 0, 1) := by decide +kernel
theorem dX1_copyFrom_19 : decode cX1_copyFrom 19 = .ok (.aload_n 0, 1) := by decide +kernel
theorem dX1_copyFrom_20 : decode cX1_copyFrom 20 = .ok (.getfield 15, 3) := by decide +kernel
theorem dX1_copyFrom_23 : decode cX1_copyFrom 23 = .ok (.iconst 0, 1) := by decide +kernel
theorem dX1_copyFrom_24 : decode cX1_copyFrom 24 = .ok (.iconst 5, 1) := by decide +kernel
theorem dX1_copyFrom_25 : decode cX1_copyFrom 25 = .ok (.invokestatic 33, 3) := by decide +kernel
theorem dX1_copyFrom_28 : decode cX1_copyFrom 28 = .ok (.aload_n 1, 1) := by decide +kernel
theorem dX1_copyFrom_29 : decode cX1_copyFrom 29 = .ok (.getfield 18, 3) := by decide +kernel
theorem dX1_copyFrom_32 : decode cX1_copyFrom 32 = .ok (.iconst 0, 1) := by decide +kernel
theorem dX1_copyFrom_33 : decode cX1_copyFrom 33 = .ok (.aload_n 0, 1) := by decide +kernel
theorem dX1_copyFrom_34 : decode cX1_copyFrom 34 = .ok (.getfield 18, 3) := by decide +kernel
theorem dX1_copyFrom_37 : decode cX1_copyFrom 37 = .ok (.iconst 0, 1) := by decide +kernel
theorem dX1_copyFrom_38 : decode cX1_copyFrom 38 = .ok (.iconst 5, 1) := by decide +kernel
theorem dX1_copyFrom_39 : decode cX1_copyFrom 39 = .ok (.invokestatic 33, 3) := by decide +kernel
theorem dX1_copyFrom_42 : decode cX1_copyFrom 42 = .ok (.aload_n 1, 1) := by decide +kernel
theorem dX1_copyFrom_43 : decode cX1_copyFrom 43 = .ok (.getfield 21, 3) := by decide +kernel
theorem dX1_copyFrom_46 : decode cX1_copyFrom 46 = .ok (.iconst 0, 1) := by decide +kernel
theorem dX1_copyFrom_47 : decode cX1_copyFrom 47 = .ok (.aload_n 0, 1) := by decide +kernel
theorem dX1_copyFrom_48 : decode cX1_copyFrom 48 = .ok (.getfield 21, 3) := by decide +kernel
theorem dX1_copyFrom_51 : decode cX1_copyFrom 51 = .ok (.iconst 0, 1) := by decide +kernel
theorem dX1_copyFrom_52 : decode cX1_copyFrom 52 = .ok (.iconst 5, 1) := by decide +kernel
theorem dX1_copyFrom_53 : decode cX1_copyFrom 53 = .ok (.invokestatic 33, 3) := by decide +kernel
theorem dX1_copyFrom_56 : decode cX1_copyFrom 56 = .ok (.aload_n 1, 1) := by decide +kernel
theorem dX1_copyFrom_57 : decode cX1_copyFrom 57 = .ok (.getfield 24, 3) := by decide +kernel
theorem dX1_copyFrom_60 : decode cX1_copyFrom 60 = .ok (.iconst 0, 1) := by decide +kernel
theorem dX1_copyFrom_61 : decode cX1_copyFrom 61 = .ok (.aload_n 0, 1) := by decide +kernel
theorem dX1_copyFrom_62 : decode cX1_copyFrom 62 = .ok (.getfield 24, 3) := by decide +kernel
theorem dX1_copyFrom_65 : decode cX1_copyFrom 65 = .ok (.iconst 0, 1) := by decide +kernel
theorem dX1_copyFrom_66 : decode cX1_copyFrom 66 = .ok (.iconst 5, 1) := by decide +kernel
theorem dX1_copyFrom_67 : decode cX1_copyFrom 67 = .ok (.invokestatic 33, 3) := by decide +kernel
theorem dX1_copyFrom_70 : decode cX1_copyFrom 70 = .ok (.aload_n 1, 1) := by decide +kernel
theorem dX1_copyFrom_71 : decode cX1_copyFrom 71 = .ok (.getfield 27, 3) := by decide +kernel
theorem dX1_copyFrom_74 : decode cX1_copyFrom 74 = .ok (.iconst 0, 1) := by decide +kernel
theorem dX1_copyFrom_75 : decode cX1_copyFrom 75 = .ok (.aload_n 0, 1) := by decide +kernel
theorem dX1_copyFrom_76 : decode cX1_copyFrom 76 = .ok (.getfield 27, 3) := by decide +kernel
theorem dX1_copyFrom_79 : decode cX1_copyFrom 79 = .ok (.iconst 0, 1) := by decide +kernel
theorem dX1_copyFrom_80 : decode cX1_copyFrom 80 = .ok (.iconst 5, 1) := by decide +kernel
theorem dX1_copyFrom_81 : decode cX1_copyFrom 81 = .ok (.invokestatic 33, 3) := by decide +kernel
theorem dX1_copyFrom_84 : decode cX1_copyFrom 84 = .ok (.aload_n 1, 1) := by decide +kernel
theorem dX1_copyFrom_85 : decode cX1_copyFrom 85 = .ok (.getfield 30, 3) := by decide +kernel
theorem dX1_copyFrom_88 : decode cX1_copyFrom 88 = .ok (.iconst 0, 1) := by decide +kernel
theorem dX1_copyFrom_89 : decode cX1_copyFrom 89 = .ok (.aload_n 0, 1) := by decide +kernel
theorem dX1_copyFrom_90 : decode cX1_copyFrom 90 = .ok (.getfield 30, 3) := by decide +kernel
theorem dX1_copyFrom_93 : decode cX1_copyFrom 93 = .ok (.iconst 0, 1) := by decide +kernel
theorem dX1_copyFrom_94 : decode cX1_copyFrom 94 = .ok (.bipush 25, 2) := by decide +kernel
theorem dX1_copyFrom_96 : decode cX1_copyFrom 96 = .ok (.invokestatic 33, 3) := by decide +kernel
theorem dX1_copyFrom_99 : decode cX1_copyFrom 99 = .ok (.aload_n 0, 1) := by decide +kernel
theorem dX1_copyFrom_100 : decode cX1_copyFrom 100 = .ok (.aload_n 1, 1) := by decide +kernel
theorem dX1_copyFrom_101 : decode cX1_copyFrom 101 = .ok (.getfield 39, 3) := by decide +kernel
theorem dX1_copyFrom_104 : decode cX1_copyFrom 104 = .ok (.putfield 39, 3) := by decide +kernel
theorem dX1_copyFrom_107 : decode cX1_copyFrom 107 = .ok (.aload_n 0, 1) := by decide +kernel
theorem dX1_copyFrom_108 : decode cX1_copyFrom 108 = .ok (.aload_n 1, 1) := by decide +kernel
theorem dX1_copyFrom_109 : decode cX1_copyFrom 109 = .ok (.getfield 43, 3) := by decide +kernel
theorem dX1_copyFrom_112 : decode cX1_copyFrom 112 = .ok (.putfield 43, 3) := by decide +kernel
theorem dX1_copyFrom_115 : decode cX1_copyFrom 115 = .ok (.aload_n 0, 1) := by decide +kernel
theorem dX1_copyFrom_116 : decode cX1_copyFrom 116 = .ok (.aload_n 1, 1) := by decide +kernel
theorem dX1_copyFrom_117 : decode cX1_copyFrom 117 = .ok (.getfield 46, 3) := by decide +kernel
theorem dX1_copyFrom_120 : decode cX1_copyFrom 120 = .ok (.putfield 46, 3) := by decide +kernel
theorem dX1_copyFrom_123 : decode cX1_copyFrom 123 = .ok (.return_, 1) := by decide +kernel
theorem dX1_many_0 : decode cX1_many 0 = .ok (.aload_n 0, 1) := by decide +kernel
theorem dX1_many_1 : decode cX1_many 1 = .ok (.getfield 39, 3) := by decide +kernel
theorem dX1_many_4 : decode cX1_many 4 = .ok (.ireturn, 1) := by decide +kernel
theorem dX1_today_0 : decode cX1_today 0 = .ok (.aload_n 0, 1) := by decide +kernel
theorem dX1_today_1 : decode cX1_today 1 = .ok (.getfield 43, 3) := by decide +kernel
theorem dX1_today_4 : decode cX1_today 4 = .ok (.ireturn, 1) := by decide +kernel
theorem dX1_rule_0 : decode cX1_rule 0 = .ok (.aload_n 0, 1) := by decide +kernel
theorem dX1_rule_1 : decode cX1_rule 1 = .ok (.getfield 46, 3) := by decide +kernel
theorem dX1_rule_4 : decode cX1_rule 4 = .ok (.ireturn, 1) := by decide +kernel
theorem dX1_has_0 : decode cX1_has 0 = .ok (.iload_n 1, 1) := by decide +kernel
theorem dX1_has_1 : decode cX1_has 1 = .ok (.ifCond .lt 15, 3) := by decide +kernel
theorem dX1_has_4 : decode cX1_has 4 = .ok (.iload_n 1, 1) := by decide +kernel
theorem dX1_has_5 : decode cX1_has 5 = .ok (.aload_n 0, 1) := by decide +kernel
theorem dX1_has_6 : decode cX1_has 6 = .ok (.getfield 39, 3) := by decide +kernel
theorem dX1_has_9 : decode cX1_has 9 = .ok (.if_icmp .ge 7, 3) := by decide +kernel
theorem dX1_has_12 : decode cX1_has 12 = .ok (.iconst 1, 1) := by decide +kernel
theorem dX1_has_13 : decode cX1_has 13 = .ok (.goto 4, 3) := by decide +kernel
theorem dX1_has_16 : decode cX1_has 16 = .ok (.iconst 0, 1) := by decide +kernel
theorem dX1_has_17 : decode cX1_has 17 = .ok (.ireturn, 1) := by decide +kernel
theorem dX1_hasTwo_0 : decode cX1_hasTwo 0 = .ok (.aload_n 0, 1) := by decide +kernel
theorem dX1_hasTwo_1 : decode cX1_hasTwo 1 = .ok (.iload_n 1, 1) := by decide +kernel
theorem dX1_hasTwo_2 : decode cX1_hasTwo 2 = .ok (.invokevirtual 49, 3) := by decide +kernel
theorem dX1_hasTwo_5 : decode cX1_hasTwo 5 = .ok (.ifCond .eq 20, 3) := by decide +kernel
theorem dX1_hasTwo_8 : decode cX1_hasTwo 8 = .ok (.aload_n 0, 1) := by decide +kernel
theorem dX1_hasTwo_9 : decode cX1_hasTwo 9 = .ok (.iload_n 2, 1) := by decide +kernel
theorem dX1_hasTwo_10 : decode cX1_hasTwo 10 = .ok (.invokevirtual 49, 3) := by decide +kernel
theorem dX1_hasTwo_13 : decode cX1_hasTwo 13 = .ok (.ifCond .eq 12, 3) := by decide +kernel
theorem dX1_hasTwo_16 : decode cX1_hasTwo 16 = .ok (.iload_n 1, 1) := by decide +kernel
theorem dX1_hasTwo_17 : decode cX1_hasTwo 17 = .ok (.iload_n 2, 1) := by decide +kernel
theorem dX1_hasTwo_18 : decode cX1_hasTwo 18 = .ok (.if_icmp .eq 7, 3) := by decide +kernel
theorem dX1_hasTwo_21 : decode cX1_hasTwo 21 = .ok (.iconst 1, 1) := by decide +kernel
theorem dX1_hasTwo_22 : decode cX1_hasTwo 22 = .ok (.goto 4, 3) := by decide +kernel
theorem dX1_hasTwo_25 : decode cX1_hasTwo 25 = .ok (.iconst 0, 1) := by decide +kernel
theorem dX1_hasTwo_26 : decode cX1_hasTwo 26 = .ok (.ireturn, 1) := by decide +kernel
theorem dX1_hasPlace_0 : decode cX1_hasPlace 0 = .ok (.iload_n 1, 1) := by decide +kernel
theorem dX1_hasPlace_1 : decode cX1_hasPlace 1 = .ok (.ifCond .ne 5, 3) := by decide +kernel
theorem dX1_hasPlace_4 : decode cX1_hasPlace 4 = .ok (.iconst 1, 1) := by decide +kernel
theorem dX1_hasPlace_5 : decode cX1_hasPlace 5 = .ok (.ireturn, 1) := by decide +kernel
theorem dX1_hasPlace_6 : decode cX1_hasPlace 6 = .ok (.iload_n 1, 1) := by decide +kernel
theorem dX1_hasPlace_7 : decode cX1_hasPlace 7 = .ok (.bipush 6, 2) := by decide +kernel
theorem dX1_hasPlace_9 : decode cX1_hasPlace 9 = .ok (.if_icmp .ne 46, 3) := by decide +kernel
theorem dX1_hasPlace_12 : decode cX1_hasPlace 12 = .ok (.iload_n 2, 1) := by decide +kernel
theorem dX1_hasPlace_13 : decode cX1_hasPlace 13 = .ok (.ifCond .lt 40, 3) := by decide +kernel
theorem dX1_hasPlace_16 : decode cX1_hasPlace 16 = .ok (.iload_n 2, 1) := by decide +kernel
theorem dX1_hasPlace_17 : decode cX1_hasPlace 17 = .ok (.bipush 10, 2) := by decide +kernel
theorem dX1_hasPlace_19 : decode cX1_hasPlace 19 = .ok (.idiv, 1) := by decide +kernel
theorem dX1_hasPlace_20 : decode cX1_hasPlace 20 = .ok (.aload_n 0, 1) := by decide +kernel
theorem dX1_hasPlace_21 : decode cX1_hasPlace 21 = .ok (.getfield 39, 3) := by decide +kernel
theorem dX1_hasPlace_24 : decode cX1_hasPlace 24 = .ok (.if_icmp .ge 29, 3) := by decide +kernel
theorem dX1_hasPlace_27 : decode cX1_hasPlace 27 = .ok (.iload_n 2, 1) := by decide +kernel
theorem dX1_hasPlace_28 : decode cX1_hasPlace 28 = .ok (.bipush 10, 2) := by decide +kernel
theorem dX1_hasPlace_30 : decode cX1_hasPlace 30 = .ok (.irem, 1) := by decide +kernel
theorem dX1_hasPlace_31 : decode cX1_hasPlace 31 = .ok (.aload_n 0, 1) := by decide +kernel
theorem dX1_hasPlace_32 : decode cX1_hasPlace 32 = .ok (.getfield 39, 3) := by decide +kernel
theorem dX1_hasPlace_35 : decode cX1_hasPlace 35 = .ok (.if_icmp .ge 18, 3) := by decide +kernel
theorem dX1_hasPlace_38 : decode cX1_hasPlace 38 = .ok (.iload_n 2, 1) := by decide +kernel
theorem dX1_hasPlace_39 : decode cX1_hasPlace 39 = .ok (.bipush 10, 2) := by decide +kernel
theorem dX1_hasPlace_41 : decode cX1_hasPlace 41 = .ok (.idiv, 1) := by decide +kernel
theorem dX1_hasPlace_42 : decode cX1_hasPlace 42 = .ok (.iload_n 2, 1) := by decide +kernel
theorem dX1_hasPlace_43 : decode cX1_hasPlace 43 = .ok (.bipush 10, 2) := by decide +kernel
theorem dX1_hasPlace_45 : decode cX1_hasPlace 45 = .ok (.irem, 1) := by decide +kernel
theorem dX1_hasPlace_46 : decode cX1_hasPlace 46 = .ok (.if_icmp .eq 7, 3) := by decide +kernel
theorem dX1_hasPlace_49 : decode cX1_hasPlace 49 = .ok (.iconst 1, 1) := by decide +kernel
theorem dX1_hasPlace_50 : decode cX1_hasPlace 50 = .ok (.goto 4, 3) := by decide +kernel
theorem dX1_hasPlace_53 : decode cX1_hasPlace 53 = .ok (.iconst 0, 1) := by decide +kernel
theorem dX1_hasPlace_54 : decode cX1_hasPlace 54 = .ok (.ireturn, 1) := by decide +kernel
theorem dX1_hasPlace_55 : decode cX1_hasPlace 55 = .ok (.aload_n 0, 1) := by decide +kernel
theorem dX1_hasPlace_56 : decode cX1_hasPlace 56 = .ok (.iload_n 2, 1) := by decide +kernel
theorem dX1_hasPlace_57 : decode cX1_hasPlace 57 = .ok (.invokevirtual 49, 3) := by decide +kernel
theorem dX1_hasPlace_60 : decode cX1_hasPlace 60 = .ok (.ireturn, 1) := by decide +kernel
theorem dX1_get_0 : decode cX1_get 0 = .ok (.iload_n 1, 1) := by decide +kernel
theorem dX1_get_1 : decode cX1_get 1 = .ok (.ifCond .ne 8, 3) := by decide +kernel
theorem dX1_get_4 : decode cX1_get 4 = .ok (.aload_n 0, 1) := by decide +kernel
theorem dX1_get_5 : decode cX1_get 5 = .ok (.getfield 43, 3) := by decide +kernel
theorem dX1_get_8 : decode cX1_get 8 = .ok (.ireturn, 1) := by decide +kernel
theorem dX1_get_9 : decode cX1_get 9 = .ok (.aload_n 0, 1) := by decide +kernel
theorem dX1_get_10 : decode cX1_get 10 = .ok (.iload_n 1, 1) := by decide +kernel
theorem dX1_get_11 : decode cX1_get 11 = .ok (.iload_n 2, 1) := by decide +kernel
theorem dX1_get_12 : decode cX1_get 12 = .ok (.invokevirtual 53, 3) := by decide +kernel
theorem dX1_get_15 : decode cX1_get 15 = .ok (.ifCond .eq 17, 3) := by decide +kernel
theorem dX1_get_18 : decode cX1_get 18 = .ok (.aload_n 0, 1) := by decide +kernel
theorem dX1_get_19 : decode cX1_get 19 = .ok (.iload_n 1, 1) := by decide +kernel
theorem dX1_get_20 : decode cX1_get 20 = .ok (.invokevirtual 57, 3) := by decide +kernel
theorem dX1_get_23 : decode cX1_get 23 = .ok (.iload_n 1, 1) := by decide +kernel
theorem dX1_get_24 : decode cX1_get 24 = .ok (.iload_n 2, 1) := by decide +kernel
theorem dX1_get_25 : decode cX1_get 25 = .ok (.invokestatic 61, 3) := by decide +kernel
theorem dX1_get_28 : decode cX1_get 28 = .ok (.iaload, 1) := by decide +kernel
theorem dX1_get_29 : decode cX1_get 29 = .ok (.goto 4, 3) := by decide +kernel
theorem dX1_get_32 : decode cX1_get 32 = .ok (.iconst (-1), 1) := by decide +kernel
theorem dX1_get_33 : decode cX1_get 33 = .ok (.ireturn, 1) := by decide +kernel
theorem dX1_put_0 : decode cX1_put 0 = .ok (.iload_n 1, 1) := by decide +kernel
theorem dX1_put_1 : decode cX1_put 1 = .ok (.ifCond .ne 11, 3) := by decide +kernel
theorem dX1_put_4 : decode cX1_put 4 = .ok (.aload_n 0, 1) := by decide +kernel
theorem dX1_put_5 : decode cX1_put 5 = .ok (.iload_n 3, 1) := by decide +kernel
theorem dX1_put_6 : decode cX1_put 6 = .ok (.putfield 43, 3) := by decide +kernel
theorem dX1_put_9 : decode cX1_put 9 = .ok (.goto 44, 3) := by decide +kernel
theorem dX1_put_12 : decode cX1_put 12 = .ok (.iload_n 1, 1) := by decide +kernel
theorem dX1_put_13 : decode cX1_put 13 = .ok (.bipush 8, 2) := by decide +kernel
theorem dX1_put_15 : decode cX1_put 15 = .ok (.if_icmp .ne 11, 3) := by decide +kernel
theorem dX1_put_18 : decode cX1_put 18 = .ok (.aload_n 0, 1) := by decide +kernel
theorem dX1_put_19 : decode cX1_put 19 = .ok (.iload_n 3, 1) := by decide +kernel
theorem dX1_put_20 : decode cX1_put 20 = .ok (.putfield 46, 3) := by decide +kernel
theorem dX1_put_23 : decode cX1_put 23 = .ok (.goto 30, 3) := by decide +kernel
theorem dX1_put_26 : decode cX1_put 26 = .ok (.iload_n 1, 1) := by decide +kernel
theorem dX1_put_27 : decode cX1_put 27 = .ok (.bipush 9, 2) := by decide +kernel
theorem dX1_put_29 : decode cX1_put 29 = .ok (.if_icmp .eq 24, 3) := by decide +kernel
theorem dX1_put_32 : decode cX1_put 32 = .ok (.aload_n 0, 1) := by decide +kernel
theorem dX1_put_33 : decode cX1_put 33 = .ok (.iload_n 1, 1) := by decide +kernel
theorem dX1_put_34 : decode cX1_put 34 = .ok (.iload_n 2, 1) := by decide +kernel
theorem dX1_put_35 : decode cX1_put 35 = .ok (.invokevirtual 53, 3) := by decide +kernel
theorem dX1_put_38 : decode cX1_put 38 = .ok (.ifCond .eq 15, 3) := by decide +kernel
theorem dX1_put_41 : decode cX1_put 41 = .ok (.aload_n 0, 1) := by decide +kernel
theorem dX1_put_42 : decode cX1_put 42 = .ok (.iload_n 1, 1) := by decide +kernel
theorem dX1_put_43 : decode cX1_put 43 = .ok (.invokevirtual 57, 3) := by decide +kernel
theorem dX1_put_46 : decode cX1_put 46 = .ok (.iload_n 1, 1) := by decide +kernel
theorem dX1_put_47 : decode cX1_put 47 = .ok (.iload_n 2, 1) := by decide +kernel
theorem dX1_put_48 : decode cX1_put 48 = .ok (.invokestatic 61, 3) := by decide +kernel
theorem dX1_put_51 : decode cX1_put 51 = .ok (.iload_n 3, 1) := by decide +kernel
theorem dX1_put_52 : decode cX1_put 52 = .ok (.iastore, 1) := by decide +kernel
theorem dX1_put_53 : decode cX1_put 53 = .ok (.return_, 1) := by decide +kernel
theorem dX1_placeIn_0 : decode cX1_placeIn 0 = .ok (.iload_n 0, 1) := by decide +kernel
theorem dX1_placeIn_1 : decode cX1_placeIn 1 = .ok (.bipush 6, 2) := by decide +kernel
theorem dX1_placeIn_3 : decode cX1_placeIn 3 = .ok (.if_icmp .ne 17, 3) := by decide +kernel
theorem dX1_placeIn_6 : decode cX1_placeIn 6 = .ok (.iload_n 1, 1) := by decide +kernel
theorem dX1_placeIn_7 : decode cX1_placeIn 7 = .ok (.bipush 10, 2) := by decide +kernel
theorem dX1_placeIn_9 : decode cX1_placeIn 9 = .ok (.idiv, 1) := by decide +kernel
theorem dX1_placeIn_10 : decode cX1_placeIn 10 = .ok (.iconst 5, 1) := by decide +kernel
theorem dX1_placeIn_11 : decode cX1_placeIn 11 = .ok (.imul, 1) := by decide +kernel
theorem dX1_placeIn_12 : decode cX1_placeIn 12 = .ok (.iload_n 1, 1) := by decide +kernel
theorem dX1_placeIn_13 : decode cX1_placeIn 13 = .ok (.bipush 10, 2) := by decide +kernel
theorem dX1_placeIn_15 : decode cX1_placeIn 15 = .ok (.irem, 1) := by decide +kernel
theorem dX1_placeIn_16 : decode cX1_placeIn 16 = .ok (.iadd, 1) := by decide +kernel
theorem dX1_placeIn_17 : decode cX1_placeIn 17 = .ok (.goto 4, 3) := by decide +kernel
theorem dX1_placeIn_20 : decode cX1_placeIn 20 = .ok (.iload_n 1, 1) := by decide +kernel
theorem dX1_placeIn_21 : decode cX1_placeIn 21 = .ok (.ireturn, 1) := by decide +kernel
theorem dX1_rowOf_0 : decode cX1_rowOf 0 = .ok (.iload_n 1, 1) := by decide +kernel
theorem dX1_rowOf_1 : decode cX1_rowOf 1 = .ok (.tableswitch 69 1 6 #[39, 44, 49, 54, 59, 64], 39) := by decide +kernel
theorem dX1_rowOf_40 : decode cX1_rowOf 40 = .ok (.aload_n 0, 1) := by decide +kernel
theorem dX1_rowOf_41 : decode cX1_rowOf 41 = .ok (.getfield 15, 3) := by decide +kernel
theorem dX1_rowOf_44 : decode cX1_rowOf 44 = .ok (.areturn, 1) := by decide +kernel
theorem dX1_rowOf_45 : decode cX1_rowOf 45 = .ok (.aload_n 0, 1) := by decide +kernel
theorem dX1_rowOf_46 : decode cX1_rowOf 46 = .ok (.getfield 18, 3) := by decide +kernel
theorem dX1_rowOf_49 : decode cX1_rowOf 49 = .ok (.areturn, 1) := by decide +kernel
theorem dX1_rowOf_50 : decode cX1_rowOf 50 = .ok (.aload_n 0, 1) := by decide +kernel
theorem dX1_rowOf_51 : decode cX1_rowOf 51 = .ok (.getfield 21, 3) := by decide +kernel
theorem dX1_rowOf_54 : decode cX1_rowOf 54 = .ok (.areturn, 1) := by decide +kernel
theorem dX1_rowOf_55 : decode cX1_rowOf 55 = .ok (.aload_n 0, 1) := by decide +kernel
theorem dX1_rowOf_56 : decode cX1_rowOf 56 = .ok (.getfield 24, 3) := by decide +kernel
theorem dX1_rowOf_59 : decode cX1_rowOf 59 = .ok (.areturn, 1) := by decide +kernel
theorem dX1_rowOf_60 : decode cX1_rowOf 60 = .ok (.aload_n 0, 1) := by decide +kernel
theorem dX1_rowOf_61 : decode cX1_rowOf 61 = .ok (.getfield 27, 3) := by decide +kernel
theorem dX1_rowOf_64 : decode cX1_rowOf 64 = .ok (.areturn, 1) := by decide +kernel
theorem dX1_rowOf_65 : decode cX1_rowOf 65 = .ok (.aload_n 0, 1) := by decide +kernel
theorem dX1_rowOf_66 : decode cX1_rowOf 66 = .ok (.getfield 30, 3) := by decide +kernel
theorem dX1_rowOf_69 : decode cX1_rowOf 69 = .ok (.areturn, 1) := by decide +kernel
theorem dX1_rowOf_70 : decode cX1_rowOf 70 = .ok (.aload_n 0, 1) := by decide +kernel
theorem dX1_rowOf_71 : decode cX1_rowOf 71 = .ok (.getfield 9, 3) := by decide +kernel
theorem dX1_rowOf_74 : decode cX1_rowOf 74 = .ok (.areturn, 1) := by decide +kernel
theorem dX1_come_0 : decode cX1_come 0 = .ok (.iload_n 1, 1) := by decide +kernel
theorem dX1_come_1 : decode cX1_come 1 = .ok (.ifCond .lt 32, 3) := by decide +kernel
theorem dX1_come_4 : decode cX1_come 4 = .ok (.iload_n 1, 1) := by decide +kernel
theorem dX1_come_5 : decode cX1_come 5 = .ok (.bipush 6, 2) := by decide +kernel
theorem dX1_come_7 : decode cX1_come 7 = .ok (.if_icmp .ge 26, 3) := by decide +kernel
theorem dX1_come_10 : decode cX1_come 10 = .ok (.iload_n 2, 1) := by decide +kernel
theorem dX1_come_11 : decode cX1_come 11 = .ok (.ifCond .lt 22, 3) := by decide +kernel
theorem dX1_come_14 : decode cX1_come 14 = .ok (.iload_n 2, 1) := by decide +kernel
theorem dX1_come_15 : decode cX1_come 15 = .ok (.getstatic 65, 3) := by decide +kernel
theorem dX1_come_18 : decode cX1_come 18 = .ok (.iconst 1, 1) := by decide +kernel
theorem dX1_come_19 : decode cX1_come 19 = .ok (.iaload, 1) := by decide +kernel
theorem dX1_come_20 : decode cX1_come 20 = .ok (.if_icmp .gt 13, 3) := by decide +kernel
theorem dX1_come_23 : decode cX1_come 23 = .ok (.iload_n 3, 1) := by decide +kernel
theorem dX1_come_24 : decode cX1_come 24 = .ok (.ifCond .lt 9, 3) := by decide +kernel
theorem dX1_come_27 : decode cX1_come 27 = .ok (.iload_n 3, 1) := by decide +kernel
theorem dX1_come_28 : decode cX1_come 28 = .ok (.bipush 24, 2) := by decide +kernel
theorem dX1_come_30 : decode cX1_come 30 = .ok (.if_icmp .lt 6, 3) := by decide +kernel
theorem dX1_come_33 : decode cX1_come 33 = .ok (.bipush (-2), 2) := by decide +kernel
theorem dX1_come_35 : decode cX1_come 35 = .ok (.ireturn, 1) := by decide +kernel
theorem dX1_come_36 : decode cX1_come 36 = .ok (.aload_n 0, 1) := by decide +kernel
theorem dX1_come_37 : decode cX1_come 37 = .ok (.getfield 39, 3) := by decide +kernel
theorem dX1_come_40 : decode cX1_come 40 = .ok (.iconst 5, 1) := by decide +kernel
theorem dX1_come_41 : decode cX1_come 41 = .ok (.if_icmp .lt 6, 3) := by decide +kernel
theorem dX1_come_44 : decode cX1_come 44 = .ok (.bipush (-4), 2) := by decide +kernel
theorem dX1_come_46 : decode cX1_come 46 = .ok (.ireturn, 1) := by decide +kernel
theorem dX1_come_47 : decode cX1_come 47 = .ok (.aload_n 0, 1) := by decide +kernel
theorem dX1_come_48 : decode cX1_come 48 = .ok (.getfield 39, 3) := by decide +kernel
theorem dX1_come_51 : decode cX1_come 51 = .ok (.istore 4, 2) := by decide +kernel
theorem dX1_come_53 : decode cX1_come 53 = .ok (.aload_n 0, 1) := by decide +kernel
theorem dX1_come_54 : decode cX1_come 54 = .ok (.dup, 1) := by decide +kernel
theorem dX1_come_55 : decode cX1_come 55 = .ok (.getfield 39, 3) := by decide +kernel
theorem dX1_come_58 : decode cX1_come 58 = .ok (.iconst 1, 1) := by decide +kernel
theorem dX1_come_59 : decode cX1_come 59 = .ok (.iadd, 1) := by decide +kernel
theorem dX1_come_60 : decode cX1_come 60 = .ok (.putfield 39, 3) := by decide +kernel
theorem dX1_come_63 : decode cX1_come 63 = .ok (.aload_n 0, 1) := by decide +kernel
theorem dX1_come_64 : decode cX1_come 64 = .ok (.getfield 9, 3) := by decide +kernel
theorem dX1_come_67 : decode cX1_come 67 = .ok (.iload 4, 2) := by decide +kernel
theorem dX1_come_69 : decode cX1_come 69 = .ok (.iload_n 1, 1) := by decide +kernel
theorem dX1_come_70 : decode cX1_come 70 = .ok (.iastore, 1) := by decide +kernel
theorem dX1_come_71 : decode cX1_come 71 = .ok (.aload_n 0, 1) := by decide +kernel
theorem dX1_come_72 : decode cX1_come 72 = .ok (.getfield 15, 3) := by decide +kernel
theorem dX1_come_75 : decode cX1_come 75 = .ok (.iload 4, 2) := by decide +kernel
theorem dX1_come_77 : decode cX1_come 77 = .ok (.iload_n 2, 1) := by decide +kernel
theorem dX1_come_78 : decode cX1_come 78 = .ok (.iastore, 1) := by decide +kernel
theorem dX1_come_79 : decode cX1_come 79 = .ok (.aload_n 0, 1) := by decide +kernel
theorem dX1_come_80 : decode cX1_come 80 = .ok (.getfield 18, 3) := by decide +kernel
theorem dX1_come_83 : decode cX1_come 83 = .ok (.iload 4, 2) := by decide +kernel
theorem dX1_come_85 : decode cX1_come 85 = .ok (.iload_n 3, 1) := by decide +kernel
theorem dX1_come_86 : decode cX1_come 86 = .ok (.iastore, 1) := by decide +kernel
theorem dX1_come_87 : decode cX1_come 87 = .ok (.aload_n 0, 1) := by decide +kernel
theorem dX1_come_88 : decode cX1_come 88 = .ok (.getfield 21, 3) := by decide +kernel
theorem dX1_come_91 : decode cX1_come 91 = .ok (.iload 4, 2) := by decide +kernel
theorem dX1_come_93 : decode cX1_come 93 = .ok (.iconst 0, 1) := by decide +kernel
theorem dX1_come_94 : decode cX1_come 94 = .ok (.iastore, 1) := by decide +kernel
theorem dX1_come_95 : decode cX1_come 95 = .ok (.aload_n 0, 1) := by decide +kernel
theorem dX1_come_96 : decode cX1_come 96 = .ok (.getfield 24, 3) := by decide +kernel
theorem dX1_come_99 : decode cX1_come 99 = .ok (.iload 4, 2) := by decide +kernel
theorem dX1_come_101 : decode cX1_come 101 = .ok (.iconst 0, 1) := by decide +kernel
theorem dX1_come_102 : decode cX1_come 102 = .ok (.iastore, 1) := by decide +kernel
theorem dX1_come_103 : decode cX1_come 103 = .ok (.aload_n 0, 1) := by decide +kernel
theorem dX1_come_104 : decode cX1_come 104 = .ok (.getfield 27, 3) := by decide +kernel
theorem dX1_come_107 : decode cX1_come 107 = .ok (.iload 4, 2) := by decide +kernel
theorem dX1_come_109 : decode cX1_come 109 = .ok (.iconst 0, 1) := by decide +kernel
theorem dX1_come_110 : decode cX1_come 110 = .ok (.iastore, 1) := by decide +kernel
theorem dX1_come_111 : decode cX1_come 111 = .ok (.iconst 0, 1) := by decide +kernel
theorem dX1_come_112 : decode cX1_come 112 = .ok (.istore 5, 2) := by decide +kernel
theorem dX1_come_114 : decode cX1_come 114 = .ok (.iload 5, 2) := by decide +kernel
theorem dX1_come_116 : decode cX1_come 116 = .ok (.iload 4, 2) := by decide +kernel
theorem dX1_come_118 : decode cX1_come 118 = .ok (.if_icmp .ge 35, 3) := by decide +kernel
theorem dX1_come_121 : decode cX1_come 121 = .ok (.aload_n 0, 1) := by decide +kernel
theorem dX1_come_122 : decode cX1_come 122 = .ok (.getfield 30, 3) := by decide +kernel
theorem dX1_come_125 : decode cX1_come 125 = .ok (.iload 4, 2) := by decide +kernel
theorem dX1_come_127 : decode cX1_come 127 = .ok (.iconst 5, 1) := by decide +kernel
theorem dX1_come_128 : decode cX1_come 128 = .ok (.imul, 1) := by decide +kernel
theorem dX1_come_129 : decode cX1_come 129 = .ok (.iload 5, 2) := by decide +kernel
theorem dX1_come_131 : decode cX1_come 131 = .ok (.iadd, 1) := by decide +kernel
theorem dX1_come_132 : decode cX1_come 132 = .ok (.iconst 1, 1) := by decide +kernel
theorem dX1_come_133 : decode cX1_come 133 = .ok (.iastore, 1) := by decide +kernel
theorem dX1_come_134 : decode cX1_come 134 = .ok (.aload_n 0, 1) := by decide +kernel
theorem dX1_come_135 : decode cX1_come 135 = .ok (.getfield 30, 3) := by decide +kernel
theorem dX1_come_138 : decode cX1_come 138 = .ok (.iload 5, 2) := by decide +kernel
theorem dX1_come_140 : decode cX1_come 140 = .ok (.iconst 5, 1) := by decide +kernel
theorem dX1_come_141 : decode cX1_come 141 = .ok (.imul, 1) := by decide +kernel
theorem dX1_come_142 : decode cX1_come 142 = .ok (.iload 4, 2) := by decide +kernel
theorem dX1_come_144 : decode cX1_come 144 = .ok (.iadd, 1) := by decide +kernel
theorem dX1_come_145 : decode cX1_come 145 = .ok (.iconst 1, 1) := by decide +kernel
theorem dX1_come_146 : decode cX1_come 146 = .ok (.iastore, 1) := by decide +kernel
theorem dX1_come_147 : decode cX1_come 147 = .ok (.iinc 5 1, 3) := by decide +kernel
theorem dX1_come_150 : decode cX1_come 150 = .ok (.goto (-36), 3) := by decide +kernel
theorem dX1_come_153 : decode cX1_come 153 = .ok (.iload 4, 2) := by decide +kernel
theorem dX1_come_155 : decode cX1_come 155 = .ok (.ireturn, 1) := by decide +kernel
theorem dX1_quarrel_0 : decode cX1_quarrel 0 = .ok (.aload_n 0, 1) := by decide +kernel
theorem dX1_quarrel_1 : decode cX1_quarrel 1 = .ok (.iload_n 1, 1) := by decide +kernel
theorem dX1_quarrel_2 : decode cX1_quarrel 2 = .ok (.iload_n 2, 1) := by decide +kernel
theorem dX1_quarrel_3 : decode cX1_quarrel 3 = .ok (.invokevirtual 68, 3) := by decide +kernel
theorem dX1_quarrel_6 : decode cX1_quarrel 6 = .ok (.ifCond .eq 14, 3) := by decide +kernel
theorem dX1_quarrel_9 : decode cX1_quarrel 9 = .ok (.aload_n 0, 1) := by decide +kernel
theorem dX1_quarrel_10 : decode cX1_quarrel 10 = .ok (.getfield 30, 3) := by decide +kernel
theorem dX1_quarrel_13 : decode cX1_quarrel 13 = .ok (.iload_n 1, 1) := by decide +kernel
theorem dX1_quarrel_14 : decode cX1_quarrel 14 = .ok (.iconst 5, 1) := by decide +kernel
theorem dX1_quarrel_15 : decode cX1_quarrel 15 = .ok (.imul, 1) := by decide +kernel
theorem dX1_quarrel_16 : decode cX1_quarrel 16 = .ok (.iload_n 2, 1) := by decide +kernel
theorem dX1_quarrel_17 : decode cX1_quarrel 17 = .ok (.iadd, 1) := by decide +kernel
theorem dX1_quarrel_18 : decode cX1_quarrel 18 = .ok (.iconst 0, 1) := by decide +kernel
theorem dX1_quarrel_19 : decode cX1_quarrel 19 = .ok (.iastore, 1) := by decide +kernel
theorem dX1_quarrel_20 : decode cX1_quarrel 20 = .ok (.return_, 1) := by decide +kernel
theorem dX1_setterOf_0 : decode cX1_setterOf 0 = .ok (.aload_n 0, 1) := by decide +kernel
theorem dX1_setterOf_1 : decode cX1_setterOf 1 = .ok (.iload_n 1, 1) := by decide +kernel
theorem dX1_setterOf_2 : decode cX1_setterOf 2 = .ok (.invokevirtual 49, 3) := by decide +kernel
theorem dX1_setterOf_5 : decode cX1_setterOf 5 = .ok (.ifCond .ne 5, 3) := by decide +kernel
theorem dX1_setterOf_8 : decode cX1_setterOf 8 = .ok (.iconst (-1), 1) := by decide +kernel
theorem dX1_setterOf_9 : decode cX1_setterOf 9 = .ok (.ireturn, 1) := by decide +kernel
theorem dX1_setterOf_10 : decode cX1_setterOf 10 = .ok (.iconst (-1), 1) := by decide +kernel
theorem dX1_setterOf_11 : decode cX1_setterOf 11 = .ok (.istore_n 2, 1) := by decide +kernel
theorem dX1_setterOf_12 : decode cX1_setterOf 12 = .ok (.iconst 0, 1) := by decide +kernel
theorem dX1_setterOf_13 : decode cX1_setterOf 13 = .ok (.istore_n 3, 1) := by decide +kernel
theorem dX1_setterOf_14 : decode cX1_setterOf 14 = .ok (.iconst 0, 1) := by decide +kernel
theorem dX1_setterOf_15 : decode cX1_setterOf 15 = .ok (.istore 4, 2) := by decide +kernel
theorem dX1_setterOf_17 : decode cX1_setterOf 17 = .ok (.iload 4, 2) := by decide +kernel
theorem dX1_setterOf_19 : decode cX1_setterOf 19 = .ok (.aload_n 0, 1) := by decide +kernel
theorem dX1_setterOf_20 : decode cX1_setterOf 20 = .ok (.getfield 39, 3) := by decide +kernel
theorem dX1_setterOf_23 : decode cX1_setterOf 23 = .ok (.if_icmp .ge 34, 3) := by decide +kernel
theorem dX1_setterOf_26 : decode cX1_setterOf 26 = .ok (.aload_n 0, 1) := by decide +kernel
theorem dX1_setterOf_27 : decode cX1_setterOf 27 = .ok (.getfield 30, 3) := by decide +kernel
theorem dX1_setterOf_30 : decode cX1_setterOf 30 = .ok (.iload 4, 2) := by decide +kernel
theorem dX1_setterOf_32 : decode cX1_setterOf 32 = .ok (.iconst 5, 1) := by decide +kernel
theorem dX1_setterOf_33 : decode cX1_setterOf 33 = .ok (.imul, 1) := by decide +kernel
theorem dX1_setterOf_34 : decode cX1_setterOf 34 = .ok (.iload_n 1, 1) := by decide +kernel
theorem dX1_setterOf_35 : decode cX1_setterOf 35 = .ok (.iadd, 1) := by decide +kernel
theorem dX1_setterOf_36 : decode cX1_setterOf 36 = .ok (.iaload, 1) := by decide +kernel
theorem dX1_setterOf_37 : decode cX1_setterOf 37 = .ok (.istore 5, 2) := by decide +kernel
theorem dX1_setterOf_39 : decode cX1_setterOf 39 = .ok (.iload 5, 2) := by decide +kernel
theorem dX1_setterOf_41 : decode cX1_setterOf 41 = .ok (.iload_n 3, 1) := by decide +kernel
theorem dX1_setterOf_42 : decode cX1_setterOf 42 = .ok (.if_icmp .le 9, 3) := by decide +kernel
theorem dX1_setterOf_45 : decode cX1_setterOf 45 = .ok (.iload 5, 2) := by decide +kernel
theorem dX1_setterOf_47 : decode cX1_setterOf 47 = .ok (.istore_n 3, 1) := by decide +kernel
theorem dX1_setterOf_48 : decode cX1_setterOf 48 = .ok (.iload 4, 2) := by decide +kernel
theorem dX1_setterOf_50 : decode cX1_setterOf 50 = .ok (.istore_n 2, 1) := by decide +kernel
theorem dX1_setterOf_51 : decode cX1_setterOf 51 = .ok (.iinc 4 1, 3) := by decide +kernel
theorem dX1_setterOf_54 : decode cX1_setterOf 54 = .ok (.goto (-37), 3) := by decide +kernel
theorem dX1_setterOf_57 : decode cX1_setterOf 57 = .ok (.iload_n 2, 1) := by decide +kernel
theorem dX1_setterOf_58 : decode cX1_setterOf 58 = .ok (.ireturn, 1) := by decide +kernel
theorem dX1_whoseClocks_0 : decode cX1_whoseClocks 0 = .ok (.iconst 0, 1) := by decide +kernel
theorem dX1_whoseClocks_1 : decode cX1_whoseClocks 1 = .ok (.istore_n 2, 1) := by decide +kernel
theorem dX1_whoseClocks_2 : decode cX1_whoseClocks 2 = .ok (.iconst 0, 1) := by decide +kernel
theorem dX1_whoseClocks_3 : decode cX1_whoseClocks 3 = .ok (.istore_n 3, 1) := by decide +kernel
theorem dX1_whoseClocks_4 : decode cX1_whoseClocks 4 = .ok (.iload_n 3, 1) := by decide +kernel
theorem dX1_whoseClocks_5 : decode cX1_whoseClocks 5 = .ok (.aload_n 0, 1) := by decide +kernel
theorem dX1_whoseClocks_6 : decode cX1_whoseClocks 6 = .ok (.getfield 39, 3) := by decide +kernel
theorem dX1_whoseClocks_9 : decode cX1_whoseClocks 9 = .ok (.if_icmp .ge 24, 3) := by decide +kernel
theorem dX1_whoseClocks_12 : decode cX1_whoseClocks 12 = .ok (.aload_n 0, 1) := by decide +kernel
theorem dX1_whoseClocks_13 : decode cX1_whoseClocks 13 = .ok (.iload_n 3, 1) := by decide +kernel
theorem dX1_whoseClocks_14 : decode cX1_whoseClocks 14 = .ok (.invokevirtual 71, 3) := by decide +kernel
theorem dX1_whoseClocks_17 : decode cX1_whoseClocks 17 = .ok (.iload_n 1, 1) := by decide +kernel
theorem dX1_whoseClocks_18 : decode cX1_whoseClocks 18 = .ok (.if_icmp .ne 9, 3) := by decide +kernel
theorem dX1_whoseClocks_21 : decode cX1_whoseClocks 21 = .ok (.iload_n 2, 1) := by decide +kernel
theorem dX1_whoseClocks_22 : decode cX1_whoseClocks 22 = .ok (.iconst 1, 1) := by decide +kernel
theorem dX1_whoseClocks_23 : decode cX1_whoseClocks 23 = .ok (.iload_n 3, 1) := by decide +kernel
theorem dX1_whoseClocks_24 : decode cX1_whoseClocks 24 = .ok (.ishl, 1) := by decide +kernel
theorem dX1_whoseClocks_25 : decode cX1_whoseClocks 25 = .ok (.ior, 1) := by decide +kernel
theorem dX1_whoseClocks_26 : decode cX1_whoseClocks 26 = .ok (.istore_n 2, 1) := by decide +kernel
theorem dX1_whoseClocks_27 : decode cX1_whoseClocks 27 = .ok (.iinc 3 1, 3) := by decide +kernel
theorem dX1_whoseClocks_30 : decode cX1_whoseClocks 30 = .ok (.goto (-26), 3) := by decide +kernel
theorem dX1_whoseClocks_33 : decode cX1_whoseClocks 33 = .ok (.iload_n 2, 1) := by decide +kernel
theorem dX1_whoseClocks_34 : decode cX1_whoseClocks 34 = .ok (.ireturn, 1) := by decide +kernel
theorem dX1_manyWithoutSetter_0 : decode cX1_manyWithoutSetter 0 = .ok (.aload_n 0, 1) := by decide +kernel
theorem dX1_manyWithoutSetter_1 : decode cX1_manyWithoutSetter 1 = .ok (.iconst (-1), 1) := by decide +kernel
theorem dX1_manyWithoutSetter_2 : decode cX1_manyWithoutSetter 2 = .ok (.invokevirtual 75, 3) := by decide +kernel
theorem dX1_manyWithoutSetter_5 : decode cX1_manyWithoutSetter 5 = .ok (.invokestatic 78, 3) := by decide +kernel
theorem dX1_manyWithoutSetter_8 : decode cX1_manyWithoutSetter 8 = .ok (.ireturn, 1) := by decide +kernel
theorem dX1_sum_0 : decode cX1_sum 0 = .ok (.iconst 0, 1) := by decide +kernel
theorem dX1_sum_1 : decode cX1_sum 1 = .ok (.istore_n 2, 1) := by decide +kernel
theorem dX1_sum_2 : decode cX1_sum 2 = .ok (.iconst 0, 1) := by decide +kernel
theorem dX1_sum_3 : decode cX1_sum 3 = .ok (.istore_n 3, 1) := by decide +kernel
theorem dX1_sum_4 : decode cX1_sum 4 = .ok (.iload_n 3, 1) := by decide +kernel
theorem dX1_sum_5 : decode cX1_sum 5 = .ok (.aload_n 0, 1) := by decide +kernel
theorem dX1_sum_6 : decode cX1_sum 6 = .ok (.getfield 39, 3) := by decide +kernel
theorem dX1_sum_9 : decode cX1_sum 9 = .ok (.if_icmp .ge 18, 3) := by decide +kernel
theorem dX1_sum_12 : decode cX1_sum 12 = .ok (.iload_n 2, 1) := by decide +kernel
theorem dX1_sum_13 : decode cX1_sum 13 = .ok (.aload_n 0, 1) := by decide +kernel
theorem dX1_sum_14 : decode cX1_sum 14 = .ok (.iload_n 1, 1) := by decide +kernel
theorem dX1_sum_15 : decode cX1_sum 15 = .ok (.iload_n 3, 1) := by decide +kernel
theorem dX1_sum_16 : decode cX1_sum 16 = .ok (.invokevirtual 83, 3) := by decide +kernel
theorem dX1_sum_19 : decode cX1_sum 19 = .ok (.iadd, 1) := by decide +kernel
theorem dX1_sum_20 : decode cX1_sum 20 = .ok (.istore_n 2, 1) := by decide +kernel
theorem dX1_sum_21 : decode cX1_sum 21 = .ok (.iinc 3 1, 3) := by decide +kernel
theorem dX1_sum_24 : decode cX1_sum 24 = .ok (.goto (-20), 3) := by decide +kernel
theorem dX1_sum_27 : decode cX1_sum 27 = .ok (.iload_n 2, 1) := by decide +kernel
theorem dX1_sum_28 : decode cX1_sum 28 = .ok (.ireturn, 1) := by decide +kernel
theorem dX1_tellNames_0 : decode cX1_tellNames 0 = .ok (.aload_n 0, 1) := by decide +kernel
theorem dX1_tellNames_1 : decode cX1_tellNames 1 = .ok (.iload_n 1, 1) := by decide +kernel
theorem dX1_tellNames_2 : decode cX1_tellNames 2 = .ok (.invokevirtual 49, 3) := by decide +kernel
theorem dX1_tellNames_5 : decode cX1_tellNames 5 = .ok (.ifCond .eq 74, 3) := by decide +kernel
theorem dX1_tellNames_8 : decode cX1_tellNames 8 = .ok (.aload_n 0, 1) := by decide +kernel
theorem dX1_tellNames_9 : decode cX1_tellNames 9 = .ok (.iload_n 2, 1) := by decide +kernel
theorem dX1_tellNames_10 : decode cX1_tellNames 10 = .ok (.invokevirtual 49, 3) := by decide +kernel
theorem dX1_tellNames_13 : decode cX1_tellNames 13 = .ok (.ifCond .eq 66, 3) := by decide +kernel
theorem dX1_tellNames_16 : decode cX1_tellNames 16 = .ok (.aload_n 3, 1) := by decide +kernel
theorem dX1_tellNames_17 : decode cX1_tellNames 17 = .ok (.arraylength, 1) := by decide +kernel
theorem dX1_tellNames_18 : decode cX1_tellNames 18 = .ok (.bipush 6, 2) := by decide +kernel
theorem dX1_tellNames_20 : decode cX1_tellNames 20 = .ok (.if_icmp .lt 59, 3) := by decide +kernel
theorem dX1_tellNames_23 : decode cX1_tellNames 23 = .ok (.aload_n 3, 1) := by decide +kernel
theorem dX1_tellNames_24 : decode cX1_tellNames 24 = .ok (.iconst 0, 1) := by decide +kernel
theorem dX1_tellNames_25 : decode cX1_tellNames 25 = .ok (.aload_n 0, 1) := by decide +kernel
theorem dX1_tellNames_26 : decode cX1_tellNames 26 = .ok (.getfield 30, 3) := by decide +kernel
theorem dX1_tellNames_29 : decode cX1_tellNames 29 = .ok (.iload_n 1, 1) := by decide +kernel
theorem dX1_tellNames_30 : decode cX1_tellNames 30 = .ok (.iconst 5, 1) := by decide +kernel
theorem dX1_tellNames_31 : decode cX1_tellNames 31 = .ok (.imul, 1) := by decide +kernel
theorem dX1_tellNames_32 : decode cX1_tellNames 32 = .ok (.iload_n 2, 1) := by decide +kernel
theorem dX1_tellNames_33 : decode cX1_tellNames 33 = .ok (.iadd, 1) := by decide +kernel
theorem dX1_tellNames_34 : decode cX1_tellNames 34 = .ok (.iaload, 1) := by decide +kernel
theorem dX1_tellNames_35 : decode cX1_tellNames 35 = .ok (.iastore, 1) := by decide +kernel
theorem dX1_tellNames_36 : decode cX1_tellNames 36 = .ok (.aload_n 3, 1) := by decide +kernel
theorem dX1_tellNames_37 : decode cX1_tellNames 37 = .ok (.iconst 1, 1) := by decide +kernel
theorem dX1_tellNames_38 : decode cX1_tellNames 38 = .ok (.aload_n 0, 1) := by decide +kernel
theorem dX1_tellNames_39 : decode cX1_tellNames 39 = .ok (.getfield 18, 3) := by decide +kernel
theorem dX1_tellNames_42 : decode cX1_tellNames 42 = .ok (.iload_n 2, 1) := by decide +kernel
theorem dX1_tellNames_43 : decode cX1_tellNames 43 = .ok (.iaload, 1) := by decide +kernel
theorem dX1_tellNames_44 : decode cX1_tellNames 44 = .ok (.iastore, 1) := by decide +kernel
theorem dX1_tellNames_45 : decode cX1_tellNames 45 = .ok (.aload_n 3, 1) := by decide +kernel
theorem dX1_tellNames_46 : decode cX1_tellNames 46 = .ok (.iconst 2, 1) := by decide +kernel
theorem dX1_tellNames_47 : decode cX1_tellNames 47 = .ok (.aload_n 0, 1) := by decide +kernel
theorem dX1_tellNames_48 : decode cX1_tellNames 48 = .ok (.getfield 15, 3) := by decide +kernel
theorem dX1_tellNames_51 : decode cX1_tellNames 51 = .ok (.iload_n 1, 1) := by decide +kernel
theorem dX1_tellNames_52 : decode cX1_tellNames 52 = .ok (.iaload, 1) := by decide +kernel
theorem dX1_tellNames_53 : decode cX1_tellNames 53 = .ok (.iastore, 1) := by decide +kernel
theorem dX1_tellNames_54 : decode cX1_tellNames 54 = .ok (.aload_n 3, 1) := by decide +kernel
theorem dX1_tellNames_55 : decode cX1_tellNames 55 = .ok (.iconst 3, 1) := by decide +kernel
theorem dX1_tellNames_56 : decode cX1_tellNames 56 = .ok (.aload_n 0, 1) := by decide +kernel
theorem dX1_tellNames_57 : decode cX1_tellNames 57 = .ok (.getfield 43, 3) := by decide +kernel
theorem dX1_tellNames_60 : decode cX1_tellNames 60 = .ok (.iastore, 1) := by decide +kernel
theorem dX1_tellNames_61 : decode cX1_tellNames 61 = .ok (.aload_n 3, 1) := by decide +kernel
theorem dX1_tellNames_62 : decode cX1_tellNames 62 = .ok (.iconst 4, 1) := by decide +kernel
theorem dX1_tellNames_63 : decode cX1_tellNames 63 = .ok (.aload_n 0, 1) := by decide +kernel
theorem dX1_tellNames_64 : decode cX1_tellNames 64 = .ok (.getfield 21, 3) := by decide +kernel
theorem dX1_tellNames_67 : decode cX1_tellNames 67 = .ok (.iload_n 1, 1) := by decide +kernel
theorem dX1_tellNames_68 : decode cX1_tellNames 68 = .ok (.iaload, 1) := by decide +kernel
theorem dX1_tellNames_69 : decode cX1_tellNames 69 = .ok (.iastore, 1) := by decide +kernel
theorem dX1_tellNames_70 : decode cX1_tellNames 70 = .ok (.aload_n 3, 1) := by decide +kernel
theorem dX1_tellNames_71 : decode cX1_tellNames 71 = .ok (.iconst 5, 1) := by decide +kernel
theorem dX1_tellNames_72 : decode cX1_tellNames 72 = .ok (.aload_n 0, 1) := by decide +kernel
theorem dX1_tellNames_73 : decode cX1_tellNames 73 = .ok (.getfield 24, 3) := by decide +kernel
theorem dX1_tellNames_76 : decode cX1_tellNames 76 = .ok (.iload_n 2, 1) := by decide +kernel
theorem dX1_tellNames_77 : decode cX1_tellNames 77 = .ok (.iaload, 1) := by decide +kernel
theorem dX1_tellNames_78 : decode cX1_tellNames 78 = .ok (.iastore, 1) := by decide +kernel
theorem dX1_tellNames_79 : decode cX1_tellNames 79 = .ok (.return_, 1) := by decide +kernel
theorem dX1_wake_0 : decode cX1_wake 0 = .ok (.aload_n 0, 1) := by decide +kernel
theorem dX1_wake_1 : decode cX1_wake 1 = .ok (.iload_n 1, 1) := by decide +kernel
theorem dX1_wake_2 : decode cX1_wake 2 = .ok (.invokevirtual 49, 3) := by decide +kernel
theorem dX1_wake_5 : decode cX1_wake 5 = .ok (.ifCond .eq 48, 3) := by decide +kernel
theorem dX1_wake_8 : decode cX1_wake 8 = .ok (.aload_n 0, 1) := by decide +kernel
theorem dX1_wake_9 : decode cX1_wake 9 = .ok (.getfield 21, 3) := by decide +kernel
theorem dX1_wake_12 : decode cX1_wake 12 = .ok (.iload_n 1, 1) := by decide +kernel
theorem dX1_wake_13 : decode cX1_wake 13 = .ok (.aload_n 0, 1) := by decide +kernel
theorem dX1_wake_14 : decode cX1_wake 14 = .ok (.getfield 21, 3) := by decide +kernel
theorem dX1_wake_17 : decode cX1_wake 17 = .ok (.iload_n 1, 1) := by decide +kernel
theorem dX1_wake_18 : decode cX1_wake 18 = .ok (.iaload, 1) := by decide +kernel
theorem dX1_wake_19 : decode cX1_wake 19 = .ok (.iload_n 2, 1) := by decide +kernel
theorem dX1_wake_20 : decode cX1_wake 20 = .ok (.iadd, 1) := by decide +kernel
theorem dX1_wake_21 : decode cX1_wake 21 = .ok (.iconst 0, 1) := by decide +kernel
theorem dX1_wake_22 : decode cX1_wake 22 = .ok (.getstatic 65, 3) := by decide +kernel
theorem dX1_wake_25 : decode cX1_wake 25 = .ok (.iconst 3, 1) := by decide +kernel
theorem dX1_wake_26 : decode cX1_wake 26 = .ok (.iaload, 1) := by decide +kernel
theorem dX1_wake_27 : decode cX1_wake 27 = .ok (.invokestatic 88, 3) := by decide +kernel
theorem dX1_wake_30 : decode cX1_wake 30 = .ok (.iastore, 1) := by decide +kernel
theorem dX1_wake_31 : decode cX1_wake 31 = .ok (.aload_n 0, 1) := by decide +kernel
theorem dX1_wake_32 : decode cX1_wake 32 = .ok (.getfield 27, 3) := by decide +kernel
theorem dX1_wake_35 : decode cX1_wake 35 = .ok (.iload_n 1, 1) := by decide +kernel
theorem dX1_wake_36 : decode cX1_wake 36 = .ok (.aload_n 0, 1) := by decide +kernel
theorem dX1_wake_37 : decode cX1_wake 37 = .ok (.getfield 27, 3) := by decide +kernel
theorem dX1_wake_40 : decode cX1_wake 40 = .ok (.iload_n 1, 1) := by decide +kernel
theorem dX1_wake_41 : decode cX1_wake 41 = .ok (.iaload, 1) := by decide +kernel
theorem dX1_wake_42 : decode cX1_wake 42 = .ok (.iload_n 3, 1) := by decide +kernel
theorem dX1_wake_43 : decode cX1_wake 43 = .ok (.iadd, 1) := by decide +kernel
theorem dX1_wake_44 : decode cX1_wake 44 = .ok (.getstatic 65, 3) := by decide +kernel
theorem dX1_wake_47 : decode cX1_wake 47 = .ok (.iconst 5, 1) := by decide +kernel
theorem dX1_wake_48 : decode cX1_wake 48 = .ok (.iaload, 1) := by decide +kernel
theorem dX1_wake_49 : decode cX1_wake 49 = .ok (.invokestatic 92, 3) := by decide +kernel
theorem dX1_wake_52 : decode cX1_wake 52 = .ok (.iastore, 1) := by decide +kernel
theorem dX1_wake_53 : decode cX1_wake 53 = .ok (.return_, 1) := by decide +kernel
theorem dX1_growFonder_0 : decode cX1_growFonder 0 = .ok (.aload_n 0, 1) := by decide +kernel
theorem dX1_growFonder_1 : decode cX1_growFonder 1 = .ok (.iload_n 1, 1) := by decide +kernel
theorem dX1_growFonder_2 : decode cX1_growFonder 2 = .ok (.iload_n 2, 1) := by decide +kernel
theorem dX1_growFonder_3 : decode cX1_growFonder 3 = .ok (.invokevirtual 68, 3) := by decide +kernel
theorem dX1_growFonder_6 : decode cX1_growFonder 6 = .ok (.ifCond .eq 36, 3) := by decide +kernel
theorem dX1_growFonder_9 : decode cX1_growFonder 9 = .ok (.iload_n 1, 1) := by decide +kernel
theorem dX1_growFonder_10 : decode cX1_growFonder 10 = .ok (.iconst 5, 1) := by decide +kernel
theorem dX1_growFonder_11 : decode cX1_growFonder 11 = .ok (.imul, 1) := by decide +kernel
theorem dX1_growFonder_12 : decode cX1_growFonder 12 = .ok (.iload_n 2, 1) := by decide +kernel
theorem dX1_growFonder_13 : decode cX1_growFonder 13 = .ok (.iadd, 1) := by decide +kernel
theorem dX1_growFonder_14 : decode cX1_growFonder 14 = .ok (.istore 4, 2) := by decide +kernel
theorem dX1_growFonder_16 : decode cX1_growFonder 16 = .ok (.aload_n 0, 1) := by decide +kernel
theorem dX1_growFonder_17 : decode cX1_growFonder 17 = .ok (.getfield 30, 3) := by decide +kernel
theorem dX1_growFonder_20 : decode cX1_growFonder 20 = .ok (.iload 4, 2) := by decide +kernel
theorem dX1_growFonder_22 : decode cX1_growFonder 22 = .ok (.aload_n 0, 1) := by decide +kernel
theorem dX1_growFonder_23 : decode cX1_growFonder 23 = .ok (.getfield 30, 3) := by decide +kernel
theorem dX1_growFonder_26 : decode cX1_growFonder 26 = .ok (.iload 4, 2) := by decide +kernel
theorem dX1_growFonder_28 : decode cX1_growFonder 28 = .ok (.iaload, 1) := by decide +kernel
theorem dX1_growFonder_29 : decode cX1_growFonder 29 = .ok (.iload_n 3, 1) := by decide +kernel
theorem dX1_growFonder_30 : decode cX1_growFonder 30 = .ok (.iadd, 1) := by decide +kernel
theorem dX1_growFonder_31 : decode cX1_growFonder 31 = .ok (.iconst 0, 1) := by decide +kernel
theorem dX1_growFonder_32 : decode cX1_growFonder 32 = .ok (.getstatic 65, 3) := by decide +kernel
theorem dX1_growFonder_35 : decode cX1_growFonder 35 = .ok (.bipush 6, 2) := by decide +kernel
theorem dX1_growFonder_37 : decode cX1_growFonder 37 = .ok (.iaload, 1) := by decide +kernel
theorem dX1_growFonder_38 : decode cX1_growFonder 38 = .ok (.invokestatic 88, 3) := by decide +kernel
theorem dX1_growFonder_41 : decode cX1_growFonder 41 = .ok (.iastore, 1) := by decide +kernel
theorem dX1_growFonder_42 : decode cX1_growFonder 42 = .ok (.return_, 1) := by decide +kernel
theorem dX1_miss_0 : decode cX1_miss 0 = .ok (.aload_n 0, 1) := by decide +kernel
theorem dX1_miss_1 : decode cX1_miss 1 = .ok (.iload_n 1, 1) := by decide +kernel
theorem dX1_miss_2 : decode cX1_miss 2 = .ok (.invokevirtual 49, 3) := by decide +kernel
theorem dX1_miss_5 : decode cX1_miss 5 = .ok (.ifCond .eq 44, 3) := by decide +kernel
theorem dX1_miss_8 : decode cX1_miss 8 = .ok (.aload_n 0, 1) := by decide +kernel
theorem dX1_miss_9 : decode cX1_miss 9 = .ok (.getfield 21, 3) := by decide +kernel
theorem dX1_miss_12 : decode cX1_miss 12 = .ok (.iload_n 1, 1) := by decide +kernel
theorem dX1_miss_13 : decode cX1_miss 13 = .ok (.aload_n 0, 1) := by decide +kernel
theorem dX1_miss_14 : decode cX1_miss 14 = .ok (.getfield 21, 3) := by decide +kernel
theorem dX1_miss_17 : decode cX1_miss 17 = .ok (.iload_n 1, 1) := by decide +kernel
theorem dX1_miss_18 : decode cX1_miss 18 = .ok (.iaload, 1) := by decide +kernel
theorem dX1_miss_19 : decode cX1_miss 19 = .ok (.bipush 10, 2) := by decide +kernel
theorem dX1_miss_21 : decode cX1_miss 21 = .ok (.isub, 1) := by decide +kernel
theorem dX1_miss_22 : decode cX1_miss 22 = .ok (.iconst 0, 1) := by decide +kernel
theorem dX1_miss_23 : decode cX1_miss 23 = .ok (.invokestatic 97, 3) := by decide +kernel
theorem dX1_miss_26 : decode cX1_miss 26 = .ok (.iastore, 1) := by decide +kernel
theorem dX1_miss_27 : decode cX1_miss 27 = .ok (.aload_n 0, 1) := by decide +kernel
theorem dX1_miss_28 : decode cX1_miss 28 = .ok (.getfield 24, 3) := by decide +kernel
theorem dX1_miss_31 : decode cX1_miss 31 = .ok (.iload_n 1, 1) := by decide +kernel
theorem dX1_miss_32 : decode cX1_miss 32 = .ok (.aload_n 0, 1) := by decide +kernel
theorem dX1_miss_33 : decode cX1_miss 33 = .ok (.getfield 24, 3) := by decide +kernel
theorem dX1_miss_36 : decode cX1_miss 36 = .ok (.iload_n 1, 1) := by decide +kernel
theorem dX1_miss_37 : decode cX1_miss 37 = .ok (.iaload, 1) := by decide +kernel
theorem dX1_miss_38 : decode cX1_miss 38 = .ok (.iconst 1, 1) := by decide +kernel
theorem dX1_miss_39 : decode cX1_miss 39 = .ok (.iadd, 1) := by decide +kernel
theorem dX1_miss_40 : decode cX1_miss 40 = .ok (.getstatic 65, 3) := by decide +kernel
theorem dX1_miss_43 : decode cX1_miss 43 = .ok (.iconst 4, 1) := by decide +kernel
theorem dX1_miss_44 : decode cX1_miss 44 = .ok (.iaload, 1) := by decide +kernel
theorem dX1_miss_45 : decode cX1_miss 45 = .ok (.invokestatic 92, 3) := by decide +kernel
theorem dX1_miss_48 : decode cX1_miss 48 = .ok (.iastore, 1) := by decide +kernel
theorem dX1_miss_49 : decode cX1_miss 49 = .ok (.return_, 1) := by decide +kernel
theorem dX1_endDay_0 : decode cX1_endDay 0 = .ok (.aload_n 0, 1) := by decide +kernel
theorem dX1_endDay_1 : decode cX1_endDay 1 = .ok (.dup, 1) := by decide +kernel
theorem dX1_endDay_2 : decode cX1_endDay 2 = .ok (.getfield 43, 3) := by decide +kernel
theorem dX1_endDay_5 : decode cX1_endDay 5 = .ok (.iconst 1, 1) := by decide +kernel
theorem dX1_endDay_6 : decode cX1_endDay 6 = .ok (.iadd, 1) := by decide +kernel
theorem dX1_endDay_7 : decode cX1_endDay 7 = .ok (.putfield 43, 3) := by decide +kernel
theorem dX1_endDay_10 : decode cX1_endDay 10 = .ok (.return_, 1) := by decide +kernel
