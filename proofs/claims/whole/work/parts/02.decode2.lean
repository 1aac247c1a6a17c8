theorem dX8_from_1 : decode cX8_from 1 = .ok (.getfield 10, 3) := by decide +kernel
theorem dX8_from_4 : decode cX8_from 4 = .ok (.iload_n 1, 1) := by decide +kernel
theorem dX8_from_5 : decode cX8_from 5 = .ok (.invokevirtual 87, 3) := by decide +kernel
theorem dX8_from_8 : decode cX8_from 8 = .ok (.ifCond .ne 9, 3) := by decide +kernel
theorem dX8_from_11 : decode cX8_from 11 = .ok (.aload_n 0, 1) := by decide +kernel
theorem dX8_from_12 : decode cX8_from 12 = .ok (.iconst (-1), 1) := by decide +kernel
theorem dX8_from_13 : decode cX8_from 13 = .ok (.invokevirtual 52, 3) := by decide +kernel
theorem dX8_from_16 : decode cX8_from 16 = .ok (.ireturn, 1) := by decide +kernel
theorem dX8_from_17 : decode cX8_from 17 = .ok (.iload_n 2, 1) := by decide +kernel
theorem dX8_from_18 : decode cX8_from 18 = .ok (.invokestatic 115, 3) := by decide +kernel
theorem dX8_from_21 : decode cX8_from 21 = .ok (.ifCond .ne 10, 3) := by decide +kernel
theorem dX8_from_24 : decode cX8_from 24 = .ok (.aload_n 0, 1) := by decide +kernel
theorem dX8_from_25 : decode cX8_from 25 = .ok (.bipush (-2), 2) := by decide +kernel
theorem dX8_from_27 : decode cX8_from 27 = .ok (.invokevirtual 52, 3) := by decide +kernel
theorem dX8_from_30 : decode cX8_from 30 = .ok (.ireturn, 1) := by decide +kernel
theorem dX8_from_31 : decode cX8_from 31 = .ok (.aload_n 0, 1) := by decide +kernel
theorem dX8_from_32 : decode cX8_from 32 = .ok (.getfield 10, 3) := by decide +kernel
theorem dX8_from_35 : decode cX8_from 35 = .ok (.iload_n 1, 1) := by decide +kernel
theorem dX8_from_36 : decode cX8_from 36 = .ok (.invokevirtual 106, 3) := by decide +kernel
theorem dX8_from_39 : decode cX8_from 39 = .ok (.astore_n 3, 1) := by decide +kernel
theorem dX8_from_40 : decode cX8_from 40 = .ok (.aload_n 3, 1) := by decide +kernel
theorem dX8_from_41 : decode cX8_from 41 = .ok (.aload_n 0, 1) := by decide +kernel
theorem dX8_from_42 : decode cX8_from 42 = .ok (.getfield 10, 3) := by decide +kernel
theorem dX8_from_45 : decode cX8_from 45 = .ok (.iload_n 1, 1) := by decide +kernel
theorem dX8_from_46 : decode cX8_from 46 = .ok (.invokevirtual 118, 3) := by decide +kernel
theorem dX8_from_49 : decode cX8_from 49 = .ok (.istore 4, 2) := by decide +kernel
theorem dX8_from_51 : decode cX8_from 51 = .ok (.iload 4, 2) := by decide +kernel
theorem dX8_from_53 : decode cX8_from 53 = .ok (.bipush (-9), 2) := by decide +kernel
theorem dX8_from_55 : decode cX8_from 55 = .ok (.if_icmp .eq 7, 3) := by decide +kernel
theorem dX8_from_58 : decode cX8_from 58 = .ok (.iload_n 2, 1) := by decide +kernel
theorem dX8_from_59 : decode cX8_from 59 = .ok (.ifCond .ne 6, 3) := by decide +kernel
theorem dX8_from_62 : decode cX8_from 62 = .ok (.iload 4, 2) := by decide +kernel
theorem dX8_from_64 : decode cX8_from 64 = .ok (.ireturn, 1) := by decide +kernel
theorem dX8_from_65 : decode cX8_from 65 = .ok (.aload_n 3, 1) := by decide +kernel
theorem dX8_from_66 : decode cX8_from 66 = .ok (.aload_n 0, 1) := by decide +kernel
theorem dX8_from_67 : decode cX8_from 67 = .ok (.getfield 10, 3) := by decide +kernel
theorem dX8_from_70 : decode cX8_from 70 = .ok (.iload 4, 2) := by decide +kernel
theorem dX8_from_72 : decode cX8_from 72 = .ok (.iload_n 1, 1) := by decide +kernel
theorem dX8_from_73 : decode cX8_from 73 = .ok (.invokevirtual 122, 3) := by decide +kernel
theorem dX8_from_76 : decode cX8_from 76 = .ok (.invokevirtual 126, 3) := by decide +kernel
theorem dX8_from_79 : decode cX8_from 79 = .ok (.ireturn, 1) := by decide +kernel
theorem dX8_frees_0 : decode cX8_frees 0 = .ok (.aload_n 0, 1) := by decide +kernel
theorem dX8_frees_1 : decode cX8_frees 1 = .ok (.getfield 10, 3) := by decide +kernel
theorem dX8_frees_4 : decode cX8_frees 4 = .ok (.iload_n 1, 1) := by decide +kernel
theorem dX8_frees_5 : decode cX8_frees 5 = .ok (.invokevirtual 87, 3) := by decide +kernel
theorem dX8_frees_8 : decode cX8_frees 8 = .ok (.ifCond .eq 10, 3) := by decide +kernel
theorem dX8_frees_11 : decode cX8_frees 11 = .ok (.iload_n 2, 1) := by decide +kernel
theorem dX8_frees_12 : decode cX8_frees 12 = .ok (.invokestatic 129, 3) := by decide +kernel
theorem dX8_frees_15 : decode cX8_frees 15 = .ok (.ifCond .ne 9, 3) := by decide +kernel
theorem dX8_frees_18 : decode cX8_frees 18 = .ok (.aload_n 0, 1) := by decide +kernel
theorem dX8_frees_19 : decode cX8_frees 19 = .ok (.iconst (-1), 1) := by decide +kernel
theorem dX8_frees_20 : decode cX8_frees 20 = .ok (.invokevirtual 52, 3) := by decide +kernel
theorem dX8_frees_23 : decode cX8_frees 23 = .ok (.ireturn, 1) := by decide +kernel
theorem dX8_frees_24 : decode cX8_frees 24 = .ok (.aload_n 0, 1) := by decide +kernel
theorem dX8_frees_25 : decode cX8_frees 25 = .ok (.getfield 10, 3) := by decide +kernel
theorem dX8_frees_28 : decode cX8_frees 28 = .ok (.iload_n 1, 1) := by decide +kernel
theorem dX8_frees_29 : decode cX8_frees 29 = .ok (.iload_n 2, 1) := by decide +kernel
theorem dX8_frees_30 : decode cX8_frees 30 = .ok (.invokevirtual 132, 3) := by decide +kernel
theorem dX8_frees_33 : decode cX8_frees 33 = .ok (.aload_n 0, 1) := by decide +kernel
theorem dX8_frees_34 : decode cX8_frees 34 = .ok (.getfield 10, 3) := by decide +kernel
theorem dX8_frees_37 : decode cX8_frees 37 = .ok (.getfield 97, 3) := by decide +kernel
theorem dX8_frees_40 : decode cX8_frees 40 = .ok (.iload_n 1, 1) := by decide +kernel
theorem dX8_frees_41 : decode cX8_frees 41 = .ok (.iaload, 1) := by decide +kernel
theorem dX8_frees_42 : decode cX8_frees 42 = .ok (.ireturn, 1) := by decide +kernel
theorem dX8_gives_0 : decode cX8_gives 0 = .ok (.aload_n 0, 1) := by decide +kernel
theorem dX8_gives_1 : decode cX8_gives 1 = .ok (.iload_n 1, 1) := by decide +kernel
theorem dX8_gives_2 : decode cX8_gives 2 = .ok (.iload_n 2, 1) := by decide +kernel
theorem dX8_gives_3 : decode cX8_gives 3 = .ok (.invokevirtual 136, 3) := by decide +kernel
theorem dX8_gives_6 : decode cX8_gives 6 = .ok (.ifCond .eq 10, 3) := by decide +kernel
theorem dX8_gives_9 : decode cX8_gives 9 = .ok (.iload_n 3, 1) := by decide +kernel
theorem dX8_gives_10 : decode cX8_gives 10 = .ok (.invokestatic 129, 3) := by decide +kernel
theorem dX8_gives_13 : decode cX8_gives 13 = .ok (.ifCond .ne 9, 3) := by decide +kernel
theorem dX8_gives_16 : decode cX8_gives 16 = .ok (.aload_n 0, 1) := by decide +kernel
theorem dX8_gives_17 : decode cX8_gives 17 = .ok (.iconst (-1), 1) := by decide +kernel
theorem dX8_gives_18 : decode cX8_gives 18 = .ok (.invokevirtual 52, 3) := by decide +kernel
theorem dX8_gives_21 : decode cX8_gives 21 = .ok (.ireturn, 1) := by decide +kernel
theorem dX8_gives_22 : decode cX8_gives 22 = .ok (.aload_n 0, 1) := by decide +kernel
theorem dX8_gives_23 : decode cX8_gives 23 = .ok (.getfield 10, 3) := by decide +kernel
theorem dX8_gives_26 : decode cX8_gives 26 = .ok (.iload_n 1, 1) := by decide +kernel
theorem dX8_gives_27 : decode cX8_gives 27 = .ok (.iload_n 2, 1) := by decide +kernel
theorem dX8_gives_28 : decode cX8_gives 28 = .ok (.iload_n 3, 1) := by decide +kernel
theorem dX8_gives_29 : decode cX8_gives 29 = .ok (.invokevirtual 140, 3) := by decide +kernel
theorem dX8_gives_32 : decode cX8_gives 32 = .ok (.ifCond .ne 10, 3) := by decide +kernel
theorem dX8_gives_35 : decode cX8_gives 35 = .ok (.aload_n 0, 1) := by decide +kernel
theorem dX8_gives_36 : decode cX8_gives 36 = .ok (.bipush (-3), 2) := by decide +kernel
theorem dX8_gives_38 : decode cX8_gives 38 = .ok (.invokevirtual 52, 3) := by decide +kernel
theorem dX8_gives_41 : decode cX8_gives 41 = .ok (.ireturn, 1) := by decide +kernel
theorem dX8_gives_42 : decode cX8_gives 42 = .ok (.aload_n 0, 1) := by decide +kernel
theorem dX8_gives_43 : decode cX8_gives 43 = .ok (.getfield 10, 3) := by decide +kernel
theorem dX8_gives_46 : decode cX8_gives 46 = .ok (.iload_n 1, 1) := by decide +kernel
theorem dX8_gives_47 : decode cX8_gives 47 = .ok (.iload_n 2, 1) := by decide +kernel
theorem dX8_gives_48 : decode cX8_gives 48 = .ok (.iload_n 3, 1) := by decide +kernel
theorem dX8_gives_49 : decode cX8_gives 49 = .ok (.invokevirtual 144, 3) := by decide +kernel
theorem dX8_gives_52 : decode cX8_gives 52 = .ok (.aload_n 0, 1) := by decide +kernel
theorem dX8_gives_53 : decode cX8_gives 53 = .ok (.getfield 10, 3) := by decide +kernel
theorem dX8_gives_56 : decode cX8_gives 56 = .ok (.getfield 97, 3) := by decide +kernel
theorem dX8_gives_59 : decode cX8_gives 59 = .ok (.iload_n 2, 1) := by decide +kernel
theorem dX8_gives_60 : decode cX8_gives 60 = .ok (.iaload, 1) := by decide +kernel
theorem dX8_gives_61 : decode cX8_gives 61 = .ok (.ireturn, 1) := by decide +kernel
theorem dX8_rests_0 : decode cX8_rests 0 = .ok (.aload_n 0, 1) := by decide +kernel
theorem dX8_rests_1 : decode cX8_rests 1 = .ok (.getfield 10, 3) := by decide +kernel
theorem dX8_rests_4 : decode cX8_rests 4 = .ok (.iload_n 1, 1) := by decide +kernel
theorem dX8_rests_5 : decode cX8_rests 5 = .ok (.invokevirtual 87, 3) := by decide +kernel
theorem dX8_rests_8 : decode cX8_rests 8 = .ok (.ifCond .ne 9, 3) := by decide +kernel
theorem dX8_rests_11 : decode cX8_rests 11 = .ok (.aload_n 0, 1) := by decide +kernel
theorem dX8_rests_12 : decode cX8_rests 12 = .ok (.iconst (-1), 1) := by decide +kernel
theorem dX8_rests_13 : decode cX8_rests 13 = .ok (.invokevirtual 52, 3) := by decide +kernel
theorem dX8_rests_16 : decode cX8_rests 16 = .ok (.ireturn, 1) := by decide +kernel
theorem dX8_rests_17 : decode cX8_rests 17 = .ok (.iload_n 2, 1) := by decide +kernel
theorem dX8_rests_18 : decode cX8_rests 18 = .ok (.iconst 0, 1) := by decide +kernel
theorem dX8_rests_19 : decode cX8_rests 19 = .ok (.bipush 30, 2) := by decide +kernel
theorem dX8_rests_21 : decode cX8_rests 21 = .ok (.invokestatic 44, 3) := by decide +kernel
theorem dX8_rests_24 : decode cX8_rests 24 = .ok (.istore_n 3, 1) := by decide +kernel
theorem dX8_rests_25 : decode cX8_rests 25 = .ok (.iload_n 3, 1) := by decide +kernel
theorem dX8_rests_26 : decode cX8_rests 26 = .ok (.ifCond .eq 9, 3) := by decide +kernel
theorem dX8_rests_29 : decode cX8_rests 29 = .ok (.aload_n 0, 1) := by decide +kernel
theorem dX8_rests_30 : decode cX8_rests 30 = .ok (.iload_n 3, 1) := by decide +kernel
theorem dX8_rests_31 : decode cX8_rests 31 = .ok (.invokevirtual 52, 3) := by decide +kernel
theorem dX8_rests_34 : decode cX8_rests 34 = .ok (.ireturn, 1) := by decide +kernel
theorem dX8_rests_35 : decode cX8_rests 35 = .ok (.aload_n 0, 1) := by decide +kernel
theorem dX8_rests_36 : decode cX8_rests 36 = .ok (.getfield 10, 3) := by decide +kernel
theorem dX8_rests_39 : decode cX8_rests 39 = .ok (.getfield 100, 3) := by decide +kernel
theorem dX8_rests_42 : decode cX8_rests 42 = .ok (.iload_n 1, 1) := by decide +kernel
theorem dX8_rests_43 : decode cX8_rests 43 = .ok (.iaload, 1) := by decide +kernel
theorem dX8_rests_44 : decode cX8_rests 44 = .ok (.istore 4, 2) := by decide +kernel
theorem dX8_rests_46 : decode cX8_rests 46 = .ok (.aload_n 0, 1) := by decide +kernel
theorem dX8_rests_47 : decode cX8_rests 47 = .ok (.getfield 10, 3) := by decide +kernel
theorem dX8_rests_50 : decode cX8_rests 50 = .ok (.getfield 100, 3) := by decide +kernel
theorem dX8_rests_53 : decode cX8_rests 53 = .ok (.iload_n 1, 1) := by decide +kernel
theorem dX8_rests_54 : decode cX8_rests 54 = .ok (.iload_n 2, 1) := by decide +kernel
theorem dX8_rests_55 : decode cX8_rests 55 = .ok (.iastore, 1) := by decide +kernel
theorem dX8_rests_56 : decode cX8_rests 56 = .ok (.iload 4, 2) := by decide +kernel
theorem dX8_rests_58 : decode cX8_rests 58 = .ok (.ireturn, 1) := by decide +kernel
theorem dX8_turn_0 : decode cX8_turn 0 = .ok (.aload_n 0, 1) := by decide +kernel
theorem dX8_turn_1 : decode cX8_turn 1 = .ok (.getfield 10, 3) := by decide +kernel
theorem dX8_turn_4 : decode cX8_turn 4 = .ok (.iload_n 1, 1) := by decide +kernel
theorem dX8_turn_5 : decode cX8_turn 5 = .ok (.invokevirtual 87, 3) := by decide +kernel
theorem dX8_turn_8 : decode cX8_turn 8 = .ok (.ifCond .ne 9, 3) := by decide +kernel
theorem dX8_turn_11 : decode cX8_turn 11 = .ok (.aload_n 0, 1) := by decide +kernel
theorem dX8_turn_12 : decode cX8_turn 12 = .ok (.iconst (-1), 1) := by decide +kernel
theorem dX8_turn_13 : decode cX8_turn 13 = .ok (.invokevirtual 52, 3) := by decide +kernel
theorem dX8_turn_16 : decode cX8_turn 16 = .ok (.ireturn, 1) := by decide +kernel
theorem dX8_turn_17 : decode cX8_turn 17 = .ok (.iload_n 2, 1) := by decide +kernel
theorem dX8_turn_18 : decode cX8_turn 18 = .ok (.ifCond .lt 9, 3) := by decide +kernel
theorem dX8_turn_21 : decode cX8_turn 21 = .ok (.iload_n 2, 1) := by decide +kernel
theorem dX8_turn_22 : decode cX8_turn 22 = .ok (.bipush 6, 2) := by decide +kernel
theorem dX8_turn_24 : decode cX8_turn 24 = .ok (.if_icmp .lt 10, 3) := by decide +kernel
theorem dX8_turn_27 : decode cX8_turn 27 = .ok (.aload_n 0, 1) := by decide +kernel
theorem dX8_turn_28 : decode cX8_turn 28 = .ok (.bipush (-2), 2) := by decide +kernel
theorem dX8_turn_30 : decode cX8_turn 30 = .ok (.invokevirtual 52, 3) := by decide +kernel
theorem dX8_turn_33 : decode cX8_turn 33 = .ok (.ireturn, 1) := by decide +kernel
theorem dX8_turn_34 : decode cX8_turn 34 = .ok (.iload_n 3, 1) := by decide +kernel
theorem dX8_turn_35 : decode cX8_turn 35 = .ok (.iconst 0, 1) := by decide +kernel
theorem dX8_turn_36 : decode cX8_turn 36 = .ok (.bipush 9, 2) := by decide +kernel
theorem dX8_turn_38 : decode cX8_turn 38 = .ok (.invokestatic 44, 3) := by decide +kernel
theorem dX8_turn_41 : decode cX8_turn 41 = .ok (.istore 4, 2) := by decide +kernel
theorem dX8_turn_43 : decode cX8_turn 43 = .ok (.iload 4, 2) := by decide +kernel
theorem dX8_turn_45 : decode cX8_turn 45 = .ok (.ifCond .eq 10, 3) := by decide +kernel
theorem dX8_turn_48 : decode cX8_turn 48 = .ok (.aload_n 0, 1) := by decide +kernel
theorem dX8_turn_49 : decode cX8_turn 49 = .ok (.iload 4, 2) := by decide +kernel
theorem dX8_turn_51 : decode cX8_turn 51 = .ok (.invokevirtual 52, 3) := by decide +kernel
theorem dX8_turn_54 : decode cX8_turn 54 = .ok (.ireturn, 1) := by decide +kernel
theorem dX8_turn_55 : decode cX8_turn 55 = .ok (.bipush 10, 2) := by decide +kernel
theorem dX8_turn_57 : decode cX8_turn 57 = .ok (.aload_n 0, 1) := by decide +kernel
theorem dX8_turn_58 : decode cX8_turn 58 = .ok (.getfield 10, 3) := by decide +kernel
theorem dX8_turn_61 : decode cX8_turn 61 = .ok (.getfield 91, 3) := by decide +kernel
theorem dX8_turn_64 : decode cX8_turn 64 = .ok (.iload_n 1, 1) := by decide +kernel
theorem dX8_turn_65 : decode cX8_turn 65 = .ok (.iaload, 1) := by decide +kernel
theorem dX8_turn_66 : decode cX8_turn 66 = .ok (.imul, 1) := by decide +kernel
theorem dX8_turn_67 : decode cX8_turn 67 = .ok (.aload_n 0, 1) := by decide +kernel
theorem dX8_turn_68 : decode cX8_turn 68 = .ok (.getfield 10, 3) := by decide +kernel
theorem dX8_turn_71 : decode cX8_turn 71 = .ok (.getfield 94, 3) := by decide +kernel
theorem dX8_turn_74 : decode cX8_turn 74 = .ok (.iload_n 1, 1) := by decide +kernel
theorem dX8_turn_75 : decode cX8_turn 75 = .ok (.iaload, 1) := by decide +kernel
theorem dX8_turn_76 : decode cX8_turn 76 = .ok (.iadd, 1) := by decide +kernel
theorem dX8_turn_77 : decode cX8_turn 77 = .ok (.istore 5, 2) := by decide +kernel
theorem dX8_turn_79 : decode cX8_turn 79 = .ok (.aload_n 0, 1) := by decide +kernel
theorem dX8_turn_80 : decode cX8_turn 80 = .ok (.getfield 10, 3) := by decide +kernel
theorem dX8_turn_83 : decode cX8_turn 83 = .ok (.getfield 91, 3) := by decide +kernel
theorem dX8_turn_86 : decode cX8_turn 86 = .ok (.iload_n 1, 1) := by decide +kernel
theorem dX8_turn_87 : decode cX8_turn 87 = .ok (.iload_n 2, 1) := by decide +kernel
theorem dX8_turn_88 : decode cX8_turn 88 = .ok (.iastore, 1) := by decide +kernel
theorem dX8_turn_89 : decode cX8_turn 89 = .ok (.aload_n 0, 1) := by decide +kernel
theorem dX8_turn_90 : decode cX8_turn 90 = .ok (.getfield 10, 3) := by decide +kernel
theorem dX8_turn_93 : decode cX8_turn 93 = .ok (.getfield 94, 3) := by decide +kernel
theorem dX8_turn_96 : decode cX8_turn 96 = .ok (.iload_n 1, 1) := by decide +kernel
theorem dX8_turn_97 : decode cX8_turn 97 = .ok (.iload_n 3, 1) := by decide +kernel
theorem dX8_turn_98 : decode cX8_turn 98 = .ok (.iastore, 1) := by decide +kernel
theorem dX8_turn_99 : decode cX8_turn 99 = .ok (.iload 5, 2) := by decide +kernel
theorem dX8_turn_101 : decode cX8_turn 101 = .ok (.ireturn, 1) := by decide +kernel
theorem dX8_days_0 : decode cX8_days 0 = .ok (.iload_n 1, 1) := by decide +kernel
theorem dX8_days_1 : decode cX8_days 1 = .ok (.iconst 1, 1) := by decide +kernel
theorem dX8_days_2 : decode cX8_days 2 = .ok (.bipush 60, 2) := by decide +kernel
theorem dX8_days_4 : decode cX8_days 4 = .ok (.invokestatic 44, 3) := by decide +kernel
theorem dX8_days_7 : decode cX8_days 7 = .ok (.istore_n 2, 1) := by decide +kernel
theorem dX8_days_8 : decode cX8_days 8 = .ok (.iload_n 2, 1) := by decide +kernel
theorem dX8_days_9 : decode cX8_days 9 = .ok (.ifCond .ne 21, 3) := by decide +kernel
theorem dX8_days_12 : decode cX8_days 12 = .ok (.aload_n 0, 1) := by decide +kernel
theorem dX8_days_13 : decode cX8_days 13 = .ok (.getfield 10, 3) := by decide +kernel
theorem dX8_days_16 : decode cX8_days 16 = .ok (.getfield 148, 3) := by decide +kernel
theorem dX8_days_19 : decode cX8_days 19 = .ok (.iload_n 1, 1) := by decide +kernel
theorem dX8_days_20 : decode cX8_days 20 = .ok (.iadd, 1) := by decide +kernel
theorem dX8_days_21 : decode cX8_days 21 = .ok (.sipush 999, 3) := by decide +kernel
theorem dX8_days_24 : decode cX8_days 24 = .ok (.if_icmp .le 6, 3) := by decide +kernel
theorem dX8_days_27 : decode cX8_days 27 = .ok (.bipush (-6), 2) := by decide +kernel
theorem dX8_days_29 : decode cX8_days 29 = .ok (.istore_n 2, 1) := by decide +kernel
theorem dX8_days_30 : decode cX8_days 30 = .ok (.iload_n 2, 1) := by decide +kernel
theorem dX8_days_31 : decode cX8_days 31 = .ok (.ifCond .eq 9, 3) := by decide +kernel
theorem dX8_days_34 : decode cX8_days 34 = .ok (.aload_n 0, 1) := by decide +kernel
theorem dX8_days_35 : decode cX8_days 35 = .ok (.iload_n 2, 1) := by decide +kernel
theorem dX8_days_36 : decode cX8_days 36 = .ok (.invokevirtual 52, 3) := by decide +kernel
theorem dX8_days_39 : decode cX8_days 39 = .ok (.ireturn, 1) := by decide +kernel
theorem dX8_days_40 : decode cX8_days 40 = .ok (.aload_n 0, 1) := by decide +kernel
theorem dX8_days_41 : decode cX8_days 41 = .ok (.getfield 10, 3) := by decide +kernel
theorem dX8_days_44 : decode cX8_days 44 = .ok (.iload_n 1, 1) := by decide +kernel
theorem dX8_days_45 : decode cX8_days 45 = .ok (.iconst 0, 1) := by decide +kernel
theorem dX8_days_46 : decode cX8_days 46 = .ok (.invokevirtual 151, 3) := by decide +kernel
theorem dX8_days_49 : decode cX8_days 49 = .ok (.pop, 1) := by decide +kernel
theorem dX8_days_50 : decode cX8_days 50 = .ok (.aload_n 0, 1) := by decide +kernel
theorem dX8_days_51 : decode cX8_days 51 = .ok (.getfield 10, 3) := by decide +kernel
theorem dX8_days_54 : decode cX8_days 54 = .ok (.getfield 154, 3) := by decide +kernel
theorem dX8_days_57 : decode cX8_days 57 = .ok (.ireturn, 1) := by decide +kernel
theorem dX8_workerThen_0 : decode cX8_workerThen 0 = .ok (.aload_n 0, 1) := by decide +kernel
theorem dX8_workerThen_1 : decode cX8_workerThen 1 = .ok (.getfield 10, 3) := by decide +kernel
theorem dX8_workerThen_4 : decode cX8_workerThen 4 = .ok (.iload_n 1, 1) := by decide +kernel
theorem dX8_workerThen_5 : decode cX8_workerThen 5 = .ok (.invokevirtual 87, 3) := by decide +kernel
theorem dX8_workerThen_8 : decode cX8_workerThen 8 = .ok (.ifCond .ne 9, 3) := by decide +kernel
theorem dX8_workerThen_11 : decode cX8_workerThen 11 = .ok (.aload_n 0, 1) := by decide +kernel
theorem dX8_workerThen_12 : decode cX8_workerThen 12 = .ok (.iconst (-1), 1) := by decide +kernel
theorem dX8_workerThen_13 : decode cX8_workerThen 13 = .ok (.invokevirtual 52, 3) := by decide +kernel
theorem dX8_workerThen_16 : decode cX8_workerThen 16 = .ok (.ireturn, 1) := by decide +kernel
theorem dX8_workerThen_17 : decode cX8_workerThen 17 = .ok (.iload_n 2, 1) := by decide +kernel
theorem dX8_workerThen_18 : decode cX8_workerThen 18 = .ok (.iconst 0, 1) := by decide +kernel
theorem dX8_workerThen_19 : decode cX8_workerThen 19 = .ok (.bipush 60, 2) := by decide +kernel
theorem dX8_workerThen_21 : decode cX8_workerThen 21 = .ok (.invokestatic 44, 3) := by decide +kernel
theorem dX8_workerThen_24 : decode cX8_workerThen 24 = .ok (.istore 4, 2) := by decide +kernel
theorem dX8_workerThen_26 : decode cX8_workerThen 26 = .ok (.iload 4, 2) := by decide +kernel
theorem dX8_workerThen_28 : decode cX8_workerThen 28 = .ok (.ifCond .eq 10, 3) := by decide +kernel
theorem dX8_workerThen_31 : decode cX8_workerThen 31 = .ok (.aload_n 0, 1) := by decide +kernel
theorem dX8_workerThen_32 : decode cX8_workerThen 32 = .ok (.iload 4, 2) := by decide +kernel
theorem dX8_workerThen_34 : decode cX8_workerThen 34 = .ok (.invokevirtual 52, 3) := by decide +kernel
theorem dX8_workerThen_37 : decode cX8_workerThen 37 = .ok (.ireturn, 1) := by decide +kernel
theorem dX8_workerThen_38 : decode cX8_workerThen 38 = .ok (.iload_n 3, 1) := by decide +kernel
theorem dX8_workerThen_39 : decode cX8_workerThen 39 = .ok (.ifCond .lt 8, 3) := by decide +kernel
theorem dX8_workerThen_42 : decode cX8_workerThen 42 = .ok (.iload_n 3, 1) := by decide +kernel
theorem dX8_workerThen_43 : decode cX8_workerThen 43 = .ok (.iconst 2, 1) := by decide +kernel
theorem dX8_workerThen_44 : decode cX8_workerThen 44 = .ok (.if_icmp .le 10, 3) := by decide +kernel
theorem dX8_workerThen_47 : decode cX8_workerThen 47 = .ok (.aload_n 0, 1) := by decide +kernel
theorem dX8_workerThen_48 : decode cX8_workerThen 48 = .ok (.bipush (-2), 2) := by decide +kernel
theorem dX8_workerThen_50 : decode cX8_workerThen 50 = .ok (.invokevirtual 52, 3) := by decide +kernel
theorem dX8_workerThen_53 : decode cX8_workerThen 53 = .ok (.ireturn, 1) := by decide +kernel
theorem dX8_workerThen_54 : decode cX8_workerThen 54 = .ok (.aload_n 0, 1) := by decide +kernel
theorem dX8_workerThen_55 : decode cX8_workerThen 55 = .ok (.getfield 16, 3) := by decide +kernel
theorem dX8_workerThen_58 : decode cX8_workerThen 58 = .ok (.aload_n 0, 1) := by decide +kernel
theorem dX8_workerThen_59 : decode cX8_workerThen 59 = .ok (.getfield 10, 3) := by decide +kernel
theorem dX8_workerThen_62 : decode cX8_workerThen 62 = .ok (.invokevirtual 63, 3) := by decide +kernel
theorem dX8_workerThen_65 : decode cX8_workerThen 65 = .ok (.aload_n 0, 1) := by decide +kernel
theorem dX8_workerThen_66 : decode cX8_workerThen 66 = .ok (.getfield 16, 3) := by decide +kernel
theorem dX8_workerThen_69 : decode cX8_workerThen 69 = .ok (.iload_n 2, 1) := by decide +kernel
theorem dX8_workerThen_70 : decode cX8_workerThen 70 = .ok (.iconst 0, 1) := by decide +kernel
theorem dX8_workerThen_71 : decode cX8_workerThen 71 = .ok (.invokevirtual 151, 3) := by decide +kernel
theorem dX8_workerThen_74 : decode cX8_workerThen 74 = .ok (.pop, 1) := by decide +kernel
theorem dX8_workerThen_75 : decode cX8_workerThen 75 = .ok (.iload_n 3, 1) := by decide +kernel
theorem dX8_workerThen_76 : decode cX8_workerThen 76 = .ok (.ifCond .ne 13, 3) := by decide +kernel
theorem dX8_workerThen_79 : decode cX8_workerThen 79 = .ok (.aload_n 0, 1) := by decide +kernel
theorem dX8_workerThen_80 : decode cX8_workerThen 80 = .ok (.getfield 16, 3) := by decide +kernel
theorem dX8_workerThen_83 : decode cX8_workerThen 83 = .ok (.getfield 97, 3) := by decide +kernel
theorem dX8_workerThen_86 : decode cX8_workerThen 86 = .ok (.iload_n 1, 1) := by decide +kernel
theorem dX8_workerThen_87 : decode cX8_workerThen 87 = .ok (.iaload, 1) := by decide +kernel
theorem dX8_workerThen_88 : decode cX8_workerThen 88 = .ok (.ireturn, 1) := by decide +kernel
theorem dX8_workerThen_89 : decode cX8_workerThen 89 = .ok (.iload_n 3, 1) := by decide +kernel
theorem dX8_workerThen_90 : decode cX8_workerThen 90 = .ok (.iconst 1, 1) := by decide +kernel
theorem dX8_workerThen_91 : decode cX8_workerThen 91 = .ok (.if_icmp .ne 15, 3) := by decide +kernel
theorem dX8_workerThen_94 : decode cX8_workerThen 94 = .ok (.aload_n 0, 1) := by decide +kernel
theorem dX8_workerThen_95 : decode cX8_workerThen 95 = .ok (.getfield 16, 3) := by decide +kernel
theorem dX8_workerThen_98 : decode cX8_workerThen 98 = .ok (.getfield 100, 3) := by decide +kernel
theorem dX8_workerThen_101 : decode cX8_workerThen 101 = .ok (.iload_n 1, 1) := by decide +kernel
theorem dX8_workerThen_102 : decode cX8_workerThen 102 = .ok (.iaload, 1) := by decide +kernel
theorem dX8_workerThen_103 : decode cX8_workerThen 103 = .ok (.goto 12, 3) := by decide +kernel
theorem dX8_workerThen_106 : decode cX8_workerThen 106 = .ok (.aload_n 0, 1) := by decide +kernel
theorem dX8_workerThen_107 : decode cX8_workerThen 107 = .ok (.getfield 16, 3) := by decide +kernel
theorem dX8_workerThen_110 : decode cX8_workerThen 110 = .ok (.getfield 103, 3) := by decide +kernel
theorem dX8_workerThen_113 : decode cX8_workerThen 113 = .ok (.iload_n 1, 1) := by decide +kernel
theorem dX8_workerThen_114 : decode cX8_workerThen 114 = .ok (.iaload, 1) := by decide +kernel
theorem dX8_workerThen_115 : decode cX8_workerThen 115 = .ok (.ireturn, 1) := by decide +kernel
theorem dX8_then_0 : decode cX8_then 0 = .ok (.iload_n 1, 1) := by decide +kernel
theorem dX8_then_1 : decode cX8_then 1 = .ok (.iconst 0, 1) := by decide +kernel
theorem dX8_then_2 : decode cX8_then 2 = .ok (.bipush 60, 2) := by decide +kernel
theorem dX8_then_4 : decode cX8_then 4 = .ok (.invokestatic 44, 3) := by decide +kernel
theorem dX8_then_7 : decode cX8_then 7 = .ok (.istore_n 3, 1) := by decide +kernel
theorem dX8_then_8 : decode cX8_then 8 = .ok (.iload_n 3, 1) := by decide +kernel
theorem dX8_then_9 : decode cX8_then 9 = .ok (.ifCond .eq 9, 3) := by decide +kernel
theorem dX8_then_12 : decode cX8_then 12 = .ok (.aload_n 0, 1) := by decide +kernel
theorem dX8_then_13 : decode cX8_then 13 = .ok (.iload_n 3, 1) := by decide +kernel
theorem dX8_then_14 : decode cX8_then 14 = .ok (.invokevirtual 52, 3) := by decide +kernel
theorem dX8_then_17 : decode cX8_then 17 = .ok (.ireturn, 1) := by decide +kernel
theorem dX8_then_18 : decode cX8_then 18 = .ok (.iload_n 2, 1) := by decide +kernel
theorem dX8_then_19 : decode cX8_then 19 = .ok (.invokestatic 115, 3) := by decide +kernel
theorem dX8_then_22 : decode cX8_then 22 = .ok (.ifCond .ne 10, 3) := by decide +kernel
theorem dX8_then_25 : decode cX8_then 25 = .ok (.aload_n 0, 1) := by decide +kernel
theorem dX8_then_26 : decode cX8_then 26 = .ok (.bipush (-2), 2) := by decide +kernel
theorem dX8_then_28 : decode cX8_then 28 = .ok (.invokevirtual 52, 3) := by decide +kernel
theorem dX8_then_31 : decode cX8_then 31 = .ok (.ireturn, 1) := by decide +kernel
theorem dX8_then_32 : decode cX8_then 32 = .ok (.aload_n 0, 1) := by decide +kernel
theorem dX8_then_33 : decode cX8_then 33 = .ok (.getfield 16, 3) := by decide +kernel
theorem dX8_then_36 : decode cX8_then 36 = .ok (.aload_n 0, 1) := by decide +kernel
theorem dX8_then_37 : decode cX8_then 37 = .ok (.getfield 10, 3) := by decide +kernel
theorem dX8_then_40 : decode cX8_then 40 = .ok (.invokevirtual 63, 3) := by decide +kernel
theorem dX8_then_43 : decode cX8_then 43 = .ok (.aload_n 0, 1) := by decide +kernel
theorem dX8_then_44 : decode cX8_then 44 = .ok (.getfield 16, 3) := by decide +kernel
theorem dX8_then_47 : decode cX8_then 47 = .ok (.iload_n 1, 1) := by decide +kernel
theorem dX8_then_48 : decode cX8_then 48 = .ok (.iconst 0, 1) := by decide +kernel
theorem dX8_then_49 : decode cX8_then 49 = .ok (.invokevirtual 151, 3) := by decide +kernel
theorem dX8_then_52 : decode cX8_then 52 = .ok (.pop, 1) := by decide +kernel
theorem dX8_then_53 : decode cX8_then 53 = .ok (.iload_n 2, 1) := by decide +kernel
theorem dX8_then_54 : decode cX8_then 54 = .ok (.ifCond .ne 13, 3) := by decide +kernel
theorem dX8_then_57 : decode cX8_then 57 = .ok (.aload_n 0, 1) := by decide +kernel
theorem dX8_then_58 : decode cX8_then 58 = .ok (.getfield 16, 3) := by decide +kernel
theorem dX8_then_61 : decode cX8_then 61 = .ok (.getfield 154, 3) := by decide +kernel
theorem dX8_then_64 : decode cX8_then 64 = .ok (.goto 17, 3) := by decide +kernel
theorem dX8_then_67 : decode cX8_then 67 = .ok (.aload_n 0, 1) := by decide +kernel
theorem dX8_then_68 : decode cX8_then 68 = .ok (.getfield 16, 3) := by decide +kernel
theorem dX8_then_71 : decode cX8_then 71 = .ok (.aload_n 0, 1) := by decide +kernel
theorem dX8_then_72 : decode cX8_then 72 = .ok (.getfield 16, 3) := by decide +kernel
theorem dX8_then_75 : decode cX8_then 75 = .ok (.invokevirtual 157, 3) := by decide +kernel
theorem dX8_then_78 : decode cX8_then 78 = .ok (.invokevirtual 160, 3) := by decide +kernel
theorem dX8_then_81 : decode cX8_then 81 = .ok (.ireturn, 1) := by decide +kernel
theorem dX8_falls_0 : decode cX8_falls 0 = .ok (.iload_n 1, 1) := by decide +kernel
theorem dX8_falls_1 : decode cX8_falls 1 = .ok (.iconst (-1), 1) := by decide +kernel
theorem dX8_falls_2 : decode cX8_falls 2 = .ok (.if_icmp .eq 20, 3) := by decide +kernel
theorem dX8_falls_5 : decode cX8_falls 5 = .ok (.aload_n 0, 1) := by decide +kernel
theorem dX8_falls_6 : decode cX8_falls 6 = .ok (.getfield 10, 3) := by decide +kernel
theorem dX8_falls_9 : decode cX8_falls 9 = .ok (.iload_n 1, 1) := by decide +kernel
theorem dX8_falls_10 : decode cX8_falls 10 = .ok (.invokevirtual 87, 3) := by decide +kernel
theorem dX8_falls_13 : decode cX8_falls 13 = .ok (.ifCond .ne 9, 3) := by decide +kernel
theorem dX8_falls_16 : decode cX8_falls 16 = .ok (.aload_n 0, 1) := by decide +kernel
theorem dX8_falls_17 : decode cX8_falls 17 = .ok (.iconst (-1), 1) := by decide +kernel
theorem dX8_falls_18 : decode cX8_falls 18 = .ok (.invokevirtual 52, 3) := by decide +kernel
theorem dX8_falls_21 : decode cX8_falls 21 = .ok (.ireturn, 1) := by decide +kernel
theorem dX8_falls_22 : decode cX8_falls 22 = .ok (.iload_n 1, 1) := by decide +kernel
theorem dX8_falls_23 : decode cX8_falls 23 = .ok (.iconst (-1), 1) := by decide +kernel
theorem dX8_falls_24 : decode cX8_falls 24 = .ok (.if_icmp .ne 8, 3) := by decide +kernel
theorem dX8_falls_27 : decode cX8_falls 27 = .ok (.bipush 63, 2) := by decide +kernel
theorem dX8_falls_29 : decode cX8_falls 29 = .ok (.goto 6, 3) := by decide +kernel
theorem dX8_falls_32 : decode cX8_falls 32 = .ok (.iconst 1, 1) := by decide +kernel
theorem dX8_falls_33 : decode cX8_falls 33 = .ok (.iload_n 1, 1) := by decide +kernel
theorem dX8_falls_34 : decode cX8_falls 34 = .ok (.ishl, 1) := by decide +kernel
theorem dX8_falls_35 : decode cX8_falls 35 = .ok (.istore_n 2, 1) := by decide +kernel
theorem dX8_falls_36 : decode cX8_falls 36 = .ok (.aload_n 0, 1) := by decide +kernel
theorem dX8_falls_37 : decode cX8_falls 37 = .ok (.getfield 16, 3) := by decide +kernel
theorem dX8_falls_40 : decode cX8_falls 40 = .ok (.aload_n 0, 1) := by decide +kernel
theorem dX8_falls_41 : decode cX8_falls 41 = .ok (.getfield 10, 3) := by decide +kernel
theorem dX8_falls_44 : decode cX8_falls 44 = .ok (.invokevirtual 63, 3) := by decide +kernel
theorem dX8_falls_47 : decode cX8_falls 47 = .ok (.aload_n 0, 1) := by decide +kernel
theorem dX8_falls_48 : decode cX8_falls 48 = .ok (.iload_n 2, 1) := by decide +kernel
theorem dX8_falls_49 : decode cX8_falls 49 = .ok (.bipush 60, 2) := by decide +kernel
theorem dX8_falls_51 : decode cX8_falls 51 = .ok (.invokevirtual 163, 3) := by decide +kernel
theorem dX8_falls_54 : decode cX8_falls 54 = .ok (.istore_n 3, 1) := by decide +kernel
theorem dX8_falls_55 : decode cX8_falls 55 = .ok (.iload_n 3, 1) := by decide +kernel
theorem dX8_falls_56 : decode cX8_falls 56 = .ok (.bipush (-9), 2) := by decide +kernel
theorem dX8_falls_58 : decode cX8_falls 58 = .ok (.if_icmp .eq 8, 3) := by decide +kernel
theorem dX8_falls_61 : decode cX8_falls 61 = .ok (.iload_n 1, 1) := by decide +kernel
theorem dX8_falls_62 : decode cX8_falls 62 = .ok (.iconst (-1), 1) := by decide +kernel
theorem dX8_falls_63 : decode cX8_falls 63 = .ok (.if_icmp .eq 5, 3) := by decide +kernel
theorem dX8_falls_66 : decode cX8_falls 66 = .ok (.iload_n 3, 1) := by decide +kernel
theorem dX8_falls_67 : decode cX8_falls 67 = .ok (.ireturn, 1) := by decide +kernel
theorem dX8_falls_68 : decode cX8_falls 68 = .ok (.aload_n 0, 1) := by decide +kernel
theorem dX8_falls_69 : decode cX8_falls 69 = .ok (.getfield 16, 3) := by decide +kernel
theorem dX8_falls_72 : decode cX8_falls 72 = .ok (.invokevirtual 166, 3) := by decide +kernel
theorem dX8_falls_75 : decode cX8_falls 75 = .ok (.invokestatic 169, 3) := by decide +kernel
theorem dX8_falls_78 : decode cX8_falls 78 = .ok (.ireturn, 1) := by decide +kernel
theorem dX8_still_0 : decode cX8_still 0 = .ok (.aload_n 0, 1) := by decide +kernel
theorem dX8_still_1 : decode cX8_still 1 = .ok (.getfield 16, 3) := by decide +kernel
theorem dX8_still_4 : decode cX8_still 4 = .ok (.aload_n 0, 1) := by decide +kernel
theorem dX8_still_5 : decode cX8_still 5 = .ok (.getfield 10, 3) := by decide +kernel
theorem dX8_still_8 : decode cX8_still 8 = .ok (.invokevirtual 63, 3) := by decide +kernel
theorem dX8_still_11 : decode cX8_still 11 = .ok (.iconst 0, 1) := by decide +kernel
theorem dX8_still_12 : decode cX8_still 12 = .ok (.istore_n 1, 1) := by decide +kernel
theorem dX8_still_13 : decode cX8_still 13 = .ok (.iconst 1, 1) := by decide +kernel
theorem dX8_still_14 : decode cX8_still 14 = .ok (.istore_n 2, 1) := by decide +kernel
theorem dX8_still_15 : decode cX8_still 15 = .ok (.iload_n 2, 1) := by decide +kernel
theorem dX8_still_16 : decode cX8_still 16 = .ok (.bipush 74, 2) := by decide +kernel
theorem dX8_still_18 : decode cX8_still 18 = .ok (.if_icmp .gt 40, 3) := by decide +kernel
theorem dX8_still_21 : decode cX8_still 21 = .ok (.aload_n 0, 1) := by decide +kernel
theorem dX8_still_22 : decode cX8_still 22 = .ok (.getfield 16, 3) := by decide +kernel
theorem dX8_still_25 : decode cX8_still 25 = .ok (.iconst 1, 1) := by decide +kernel
theorem dX8_still_26 : decode cX8_still 26 = .ok (.iconst 0, 1) := by decide +kernel
theorem dX8_still_27 : decode cX8_still 27 = .ok (.invokevirtual 151, 3) := by decide +kernel
theorem dX8_still_30 : decode cX8_still 30 = .ok (.ifCond .ne 9, 3) := by decide +kernel
theorem dX8_still_33 : decode cX8_still 33 = .ok (.iload_n 1, 1) := by decide +kernel
theorem dX8_still_34 : decode cX8_still 34 = .ok (.iconst 1, 1) := by decide +kernel
theorem dX8_still_35 : decode cX8_still 35 = .ok (.iadd, 1) := by decide +kernel
theorem dX8_still_36 : decode cX8_still 36 = .ok (.goto 4, 3) := by decide +kernel
theorem dX8_still_39 : decode cX8_still 39 = .ok (.iconst 0, 1) := by decide +kernel
theorem dX8_still_40 : decode cX8_still 40 = .ok (.istore_n 1, 1) := by decide +kernel
theorem dX8_still_41 : decode cX8_still 41 = .ok (.iload_n 1, 1) := by decide +kernel
theorem dX8_still_42 : decode cX8_still 42 = .ok (.bipush 14, 2) := by decide +kernel
theorem dX8_still_44 : decode cX8_still 44 = .ok (.if_icmp .ne 8, 3) := by decide +kernel
theorem dX8_still_47 : decode cX8_still 47 = .ok (.iload_n 2, 1) := by decide +kernel
theorem dX8_still_48 : decode cX8_still 48 = .ok (.bipush 14, 2) := by decide +kernel
theorem dX8_still_50 : decode cX8_still 50 = .ok (.isub, 1) := by decide +kernel
theorem dX8_still_51 : decode cX8_still 51 = .ok (.ireturn, 1) := by decide +kernel
theorem dX8_still_52 : decode cX8_still 52 = .ok (.iinc 2 1, 3) := by decide +kernel
theorem dX8_still_55 : decode cX8_still 55 = .ok (.goto (-40), 3) := by decide +kernel
theorem dX8_still_58 : decode cX8_still 58 = .ok (.bipush (-9), 2) := by decide +kernel
theorem dX8_still_60 : decode cX8_still 60 = .ok (.ireturn, 1) := by decide +kernel
theorem dX8_strike_0 : decode cX8_strike 0 = .ok (.iload_n 1, 1) := by decide +kernel
theorem dX8_strike_1 : decode cX8_strike 1 = .ok (.tableswitch 70 0 3 #[31, 39, 54, 62], 31) := by decide +kernel
theorem dX8_strike_32 : decode cX8_strike 32 = .ok (.aload_n 0, 1) := by decide +kernel
theorem dX8_strike_33 : decode cX8_strike 33 = .ok (.getfield 10, 3) := by decide +kernel
theorem dX8_strike_36 : decode cX8_strike 36 = .ok (.invokevirtual 174, 3) := by decide +kernel
theorem dX8_strike_39 : decode cX8_strike 39 = .ok (.ireturn, 1) := by decide +kernel
theorem dX8_strike_40 : decode cX8_strike 40 = .ok (.aload_n 0, 1) := by decide +kernel
theorem dX8_strike_41 : decode cX8_strike 41 = .ok (.getfield 10, 3) := by decide +kernel
theorem dX8_strike_44 : decode cX8_strike 44 = .ok (.aload_n 0, 1) := by decide +kernel
theorem dX8_strike_45 : decode cX8_strike 45 = .ok (.getfield 10, 3) := by decide +kernel
theorem dX8_strike_48 : decode cX8_strike 48 = .ok (.invokevirtual 174, 3) := by decide +kernel
theorem dX8_strike_51 : decode cX8_strike 51 = .ok (.invokevirtual 177, 3) := by decide +kernel
theorem dX8_strike_54 : decode cX8_strike 54 = .ok (.ireturn, 1) := by decide +kernel
theorem dX8_strike_55 : decode cX8_strike 55 = .ok (.aload_n 0, 1) := by decide +kernel
theorem dX8_strike_56 : decode cX8_strike 56 = .ok (.getfield 10, 3) := by decide +kernel
theorem dX8_strike_59 : decode cX8_strike 59 = .ok (.invokevirtual 180, 3) := by decide +kernel
theorem dX8_strike_62 : decode cX8_strike 62 = .ok (.ireturn, 1) := by decide +kernel
theorem dX8_strike_63 : decode cX8_strike 63 = .ok (.aload_n 0, 1) := by decide +kernel
theorem dX8_strike_64 : decode cX8_strike 64 = .ok (.getfield 10, 3) := by decide +kernel
theorem dX8_strike_67 : decode cX8_strike 67 = .ok (.invokevirtual 183, 3) := by decide +kernel
theorem dX8_strike_70 : decode cX8_strike 70 = .ok (.ireturn, 1) := by decide +kernel
theorem dX8_strike_71 : decode cX8_strike 71 = .ok (.aload_n 0, 1) := by decide +kernel
theorem dX8_strike_72 : decode cX8_strike 72 = .ok (.bipush (-2), 2) := by decide +kernel
theorem dX8_strike_74 : decode cX8_strike 74 = .ok (.invokevirtual 52, 3) := by decide +kernel
theorem dX8_strike_77 : decode cX8_strike 77 = .ok (.ireturn, 1) := by decide +kernel
theorem dX8_meet_0 : decode cX8_meet 0 = .ok (.aload_n 0, 1) := by decide +kernel
theorem dX8_meet_1 : decode cX8_meet 1 = .ok (.iload_n 1, 1) := by decide +kernel
theorem dX8_meet_2 : decode cX8_meet 2 = .ok (.iload_n 2, 1) := by decide +kernel
theorem dX8_meet_3 : decode cX8_meet 3 = .ok (.invokevirtual 136, 3) := by decide +kernel
theorem dX8_meet_6 : decode cX8_meet 6 = .ok (.ifCond .ne 9, 3) := by decide +kernel
theorem dX8_meet_9 : decode cX8_meet 9 = .ok (.aload_n 0, 1) := by decide +kernel
theorem dX8_meet_10 : decode cX8_meet 10 = .ok (.iconst (-1), 1) := by decide +kernel
theorem dX8_meet_11 : decode cX8_meet 11 = .ok (.invokevirtual 52, 3) := by decide +kernel
theorem dX8_meet_14 : decode cX8_meet 14 = .ok (.ireturn, 1) := by decide +kernel
theorem dX8_meet_15 : decode cX8_meet 15 = .ok (.aload_n 0, 1) := by decide +kernel
theorem dX8_meet_16 : decode cX8_meet 16 = .ok (.getfield 10, 3) := by decide +kernel
theorem dX8_meet_19 : decode cX8_meet 19 = .ok (.iload_n 1, 1) := by decide +kernel
theorem dX8_meet_20 : decode cX8_meet 20 = .ok (.iload_n 2, 1) := by decide +kernel
theorem dX8_meet_21 : decode cX8_meet 21 = .ok (.invokevirtual 186, 3) := by decide +kernel
theorem dX8_meet_24 : decode cX8_meet 24 = .ok (.ireturn, 1) := by decide +kernel
theorem dX8_never_0 : decode cX8_never 0 = .ok (.iload_n 1, 1) := by decide +kernel
theorem dX8_never_1 : decode cX8_never 1 = .ok (.invokestatic 115, 3) := by decide +kernel
theorem dX8_never_4 : decode cX8_never 4 = .ok (.ifCond .ne 10, 3) := by decide +kernel
theorem dX8_never_7 : decode cX8_never 7 = .ok (.aload_n 0, 1) := by decide +kernel
theorem dX8_never_8 : decode cX8_never 8 = .ok (.bipush (-2), 2) := by decide +kernel
theorem dX8_never_10 : decode cX8_never 10 = .ok (.invokevirtual 52, 3) := by decide +kernel
theorem dX8_never_13 : decode cX8_never 13 = .ok (.ireturn, 1) := by decide +kernel
theorem dX8_never_14 : decode cX8_never 14 = .ok (.iconst 0, 1) := by decide +kernel
theorem dX8_never_15 : decode cX8_never 15 = .ok (.istore_n 2, 1) := by decide +kernel
theorem dX8_never_16 : decode cX8_never 16 = .ok (.bipush (-9), 2) := by decide +kernel
theorem dX8_never_18 : decode cX8_never 18 = .ok (.istore_n 3, 1) := by decide +kernel
theorem dX8_never_19 : decode cX8_never 19 = .ok (.iconst 0, 1) := by decide +kernel
theorem dX8_never_20 : decode cX8_never 20 = .ok (.istore 4, 2) := by decide +kernel
theorem dX8_never_22 : decode cX8_never 22 = .ok (.iload 4, 2) := by decide +kernel
theorem dX8_never_24 : decode cX8_never 24 = .ok (.aload_n 0, 1) := by decide +kernel
theorem dX8_never_25 : decode cX8_never 25 = .ok (.getfield 10, 3) := by decide +kernel
theorem dX8_never_28 : decode cX8_never 28 = .ok (.getfield 189, 3) := by decide +kernel
theorem dX8_never_31 : decode cX8_never 31 = .ok (.if_icmp .ge 69, 3) := by decide +kernel
theorem dX8_never_34 : decode cX8_never 34 = .ok (.iload 4, 2) := by decide +kernel
theorem dX8_never_36 : decode cX8_never 36 = .ok (.iconst 1, 1) := by decide +kernel
theorem dX8_never_37 : decode cX8_never 37 = .ok (.iadd, 1) := by decide +kernel
theorem dX8_never_38 : decode cX8_never 38 = .ok (.istore 5, 2) := by decide +kernel
theorem dX8_never_40 : decode cX8_never 40 = .ok (.iload 5, 2) := by decide +kernel
theorem dX8_never_42 : decode cX8_never 42 = .ok (.aload_n 0, 1) := by decide +kernel
theorem dX8_never_43 : decode cX8_never 43 = .ok (.getfield 10, 3) := by decide +kernel
theorem dX8_never_46 : decode cX8_never 46 = .ok (.getfield 189, 3) := by decide +kernel
theorem dX8_never_49 : decode cX8_never 49 = .ok (.if_icmp .ge 45, 3) := by decide +kernel
theorem dX8_never_52 : decode cX8_never 52 = .ok (.aload_n 0, 1) := by decide +kernel
theorem dX8_never_53 : decode cX8_never 53 = .ok (.getfield 10, 3) := by decide +kernel
theorem dX8_never_56 : decode cX8_never 56 = .ok (.iload 4, 2) := by decide +kernel
theorem dX8_never_58 : decode cX8_never 58 = .ok (.iload 5, 2) := by decide +kernel
theorem dX8_never_60 : decode cX8_never 60 = .ok (.invokevirtual 186, 3) := by decide +kernel
theorem dX8_never_63 : decode cX8_never 63 = .ok (.ifCond .ne 25, 3) := by decide +kernel
theorem dX8_never_66 : decode cX8_never 66 = .ok (.iinc 2 1, 3) := by decide +kernel
theorem dX8_never_69 : decode cX8_never 69 = .ok (.iload_n 3, 1) := by decide +kernel
theorem dX8_never_70 : decode cX8_never 70 = .ok (.bipush (-9), 2) := by decide +kernel
theorem dX8_never_72 : decode cX8_never 72 = .ok (.if_icmp .ne 14, 3) := by decide +kernel
theorem dX8_never_75 : decode cX8_never 75 = .ok (.bipush 10, 2) := by decide +kernel
theorem dX8_never_77 : decode cX8_never 77 = .ok (.iload 4, 2) := by decide +kernel
theorem dX8_never_79 : decode cX8_never 79 = .ok (.imul, 1) := by decide +kernel
theorem dX8_never_80 : decode cX8_never 80 = .ok (.iload 5, 2) := by decide +kernel
theorem dX8_never_82 : decode cX8_never 82 = .ok (.iadd, 1) := by decide +kernel
theorem dX8_never_83 : decode cX8_never 83 = .ok (.goto 4, 3) := by decide +kernel
theorem dX8_never_86 : decode cX8_never 86 = .ok (.iload_n 3, 1) := by decide +kernel
theorem dX8_never_87 : decode cX8_never 87 = .ok (.istore_n 3, 1) := by decide +kernel
theorem dX8_never_88 : decode cX8_never 88 = .ok (.iinc 5 1, 3) := by decide +kernel
theorem dX8_never_91 : decode cX8_never 91 = .ok (.goto (-51), 3) := by decide +kernel
theorem dX8_never_94 : decode cX8_never 94 = .ok (.iinc 4 1, 3) := by decide +kernel
theorem dX8_never_97 : decode cX8_never 97 = .ok (.goto (-75), 3) := by decide +kernel
theorem dX8_never_100 : decode cX8_never 100 = .ok (.iload_n 1, 1) := by decide +kernel
theorem dX8_never_101 : decode cX8_never 101 = .ok (.ifCond .ne 7, 3) := by decide +kernel
theorem dX8_never_104 : decode cX8_never 104 = .ok (.iload_n 2, 1) := by decide +kernel
theorem dX8_never_105 : decode cX8_never 105 = .ok (.goto 4, 3) := by decide +kernel
theorem dX8_never_108 : decode cX8_never 108 = .ok (.iload_n 3, 1) := by decide +kernel
theorem dX8_never_109 : decode cX8_never 109 = .ok (.ireturn, 1) := by decide +kernel
theorem dX8_rest_0 : decode cX8_rest 0 = .ok (.aload_n 0, 1) := by decide +kernel
theorem dX8_rest_1 : decode cX8_rest 1 = .ok (.getfield 10, 3) := by decide +kernel
theorem dX8_rest_4 : decode cX8_rest 4 = .ok (.iload_n 1, 1) := by decide +kernel
theorem dX8_rest_5 : decode cX8_rest 5 = .ok (.invokevirtual 87, 3) := by decide +kernel
theorem dX8_rest_8 : decode cX8_rest 8 = .ok (.ifCond .ne 9, 3) := by decide +kernel
theorem dX8_rest_11 : decode cX8_rest 11 = .ok (.aload_n 0, 1) := by decide +kernel
theorem dX8_rest_12 : decode cX8_rest 12 = .ok (.iconst (-1), 1) := by decide +kernel
theorem dX8_rest_13 : decode cX8_rest 13 = .ok (.invokevirtual 52, 3) := by decide +kernel
theorem dX8_rest_16 : decode cX8_rest 16 = .ok (.ireturn, 1) := by decide +kernel
theorem dX8_rest_17 : decode cX8_rest 17 = .ok (.iconst 0, 1) := by decide +kernel
theorem dX8_rest_18 : decode cX8_rest 18 = .ok (.istore_n 2, 1) := by decide +kernel
theorem dX8_rest_19 : decode cX8_rest 19 = .ok (.iconst 0, 1) := by decide +kernel
theorem dX8_rest_20 : decode cX8_rest 20 = .ok (.istore_n 3, 1) := by decide +kernel
theorem dX8_rest_21 : decode cX8_rest 21 = .ok (.iconst 0, 1) := by decide +kernel
theorem dX8_rest_22 : decode cX8_rest 22 = .ok (.istore 4, 2) := by decide +kernel
theorem dX8_rest_24 : decode cX8_rest 24 = .ok (.iload 4, 2) := by decide +kernel
theorem dX8_rest_26 : decode cX8_rest 26 = .ok (.bipush 14, 2) := by decide +kernel
theorem dX8_rest_28 : decode cX8_rest 28 = .ok (.if_icmp .ge 39, 3) := by decide +kernel
theorem dX8_rest_31 : decode cX8_rest 31 = .ok (.aload_n 0, 1) := by decide +kernel
theorem dX8_rest_32 : decode cX8_rest 32 = .ok (.getfield 10, 3) := by decide +kernel
theorem dX8_rest_35 : decode cX8_rest 35 = .ok (.iload_n 1, 1) := by decide +kernel
theorem dX8_rest_36 : decode cX8_rest 36 = .ok (.iload 4, 2) := by decide +kernel
theorem dX8_rest_38 : decode cX8_rest 38 = .ok (.bipush 7, 2) := by decide +kernel
theorem dX8_rest_40 : decode cX8_rest 40 = .ok (.irem, 1) := by decide +kernel
theorem dX8_rest_41 : decode cX8_rest 41 = .ok (.invokevirtual 190, 3) := by decide +kernel
theorem dX8_rest_44 : decode cX8_rest 44 = .ok (.ifCond .eq 9, 3) := by decide +kernel
theorem dX8_rest_47 : decode cX8_rest 47 = .ok (.iload_n 3, 1) := by decide +kernel
theorem dX8_rest_48 : decode cX8_rest 48 = .ok (.iconst 1, 1) := by decide +kernel
theorem dX8_rest_49 : decode cX8_rest 49 = .ok (.iadd, 1) := by decide +kernel
theorem dX8_rest_50 : decode cX8_rest 50 = .ok (.goto 4, 3) := by decide +kernel
theorem dX8_rest_53 : decode cX8_rest 53 = .ok (.iconst 0, 1) := by decide +kernel
theorem dX8_rest_54 : decode cX8_rest 54 = .ok (.istore_n 3, 1) := by decide +kernel
theorem dX8_rest_55 : decode cX8_rest 55 = .ok (.iload_n 2, 1) := by decide +kernel
theorem dX8_rest_56 : decode cX8_rest 56 = .ok (.iload_n 3, 1) := by decide +kernel
theorem dX8_rest_57 : decode cX8_rest 57 = .ok (.invokestatic 193, 3) := by decide +kernel
theorem dX8_rest_60 : decode cX8_rest 60 = .ok (.istore_n 2, 1) := by decide +kernel
theorem dX8_rest_61 : decode cX8_rest 61 = .ok (.iinc 4 1, 3) := by decide +kernel
theorem dX8_rest_64 : decode cX8_rest 64 = .ok (.goto (-40), 3) := by decide +kernel
theorem dX8_rest_67 : decode cX8_rest 67 = .ok (.iload_n 2, 1) := by decide +kernel
theorem dX8_rest_68 : decode cX8_rest 68 = .ok (.bipush 7, 2) := by decide +kernel
theorem dX8_rest_70 : decode cX8_rest 70 = .ok (.invokestatic 198, 3) := by decide +kernel
theorem dX8_rest_73 : decode cX8_rest 73 = .ok (.ireturn, 1) := by decide +kernel
theorem dX8_gift_0 : decode cX8_gift 0 = .ok (.aload_n 0, 1) := by decide +kernel
theorem dX8_gift_1 : decode cX8_gift 1 = .ok (.getfield 10, 3) := by decide +kernel
theorem dX8_gift_4 : decode cX8_gift 4 = .ok (.iload_n 1, 1) := by decide +kernel
theorem dX8_gift_5 : decode cX8_gift 5 = .ok (.invokevirtual 87, 3) := by decide +kernel
theorem dX8_gift_8 : decode cX8_gift 8 = .ok (.ifCond .eq 10, 3) := by decide +kernel
theorem dX8_gift_11 : decode cX8_gift 11 = .ok (.iload_n 2, 1) := by decide +kernel
theorem dX8_gift_12 : decode cX8_gift 12 = .ok (.invokestatic 129, 3) := by decide +kernel
theorem dX8_gift_15 : decode cX8_gift 15 = .ok (.ifCond .ne 9, 3) := by decide +kernel
theorem dX8_gift_18 : decode cX8_gift 18 = .ok (.aload_n 0, 1) := by decide +kernel
theorem dX8_gift_19 : decode cX8_gift 19 = .ok (.iconst (-1), 1) := by decide +kernel
theorem dX8_gift_20 : decode cX8_gift 20 = .ok (.invokevirtual 52, 3) := by decide +kernel
theorem dX8_gift_23 : decode cX8_gift 23 = .ok (.ireturn, 1) := by decide +kernel
theorem dX8_gift_24 : decode cX8_gift 24 = .ok (.iload_n 3, 1) := by decide +kernel
theorem dX8_gift_25 : decode cX8_gift 25 = .ok (.iconst 0, 1) := by decide +kernel
theorem dX8_gift_26 : decode cX8_gift 26 = .ok (.bipush 30, 2) := by decide +kernel
theorem dX8_gift_28 : decode cX8_gift 28 = .ok (.invokestatic 44, 3) := by decide +kernel
theorem dX8_gift_31 : decode cX8_gift 31 = .ok (.istore 4, 2) := by decide +kernel
theorem dX8_gift_33 : decode cX8_gift 33 = .ok (.iload 4, 2) := by decide +kernel
theorem dX8_gift_35 : decode cX8_gift 35 = .ok (.ifCond .eq 10, 3) := by decide +kernel
theorem dX8_gift_38 : decode cX8_gift 38 = .ok (.aload_n 0, 1) := by decide +kernel
theorem dX8_gift_39 : decode cX8_gift 39 = .ok (.iload 4, 2) := by decide +kernel
theorem dX8_gift_41 : decode cX8_gift 41 = .ok (.invokevirtual 52, 3) := by decide +kernel
theorem dX8_gift_44 : decode cX8_gift 44 = .ok (.ireturn, 1) := by decide +kernel
theorem dX8_gift_45 : decode cX8_gift 45 = .ok (.aload_n 0, 1) := by decide +kernel
theorem dX8_gift_46 : decode cX8_gift 46 = .ok (.getfield 10, 3) := by decide +kernel
theorem dX8_gift_49 : decode cX8_gift 49 = .ok (.iload_n 1, 1) := by decide +kernel
theorem dX8_gift_50 : decode cX8_gift 50 = .ok (.iload_n 2, 1) := by decide +kernel
theorem dX8_gift_51 : decode cX8_gift 51 = .ok (.invokevirtual 190, 3) := by decide +kernel
theorem dX8_gift_54 : decode cX8_gift 54 = .ok (.ifCond .ne 10, 3) := by decide +kernel
theorem dX8_gift_57 : decode cX8_gift 57 = .ok (.aload_n 0, 1) := by decide +kernel
theorem dX8_gift_58 : decode cX8_gift 58 = .ok (.bipush (-3), 2) := by decide +kernel
theorem dX8_gift_60 : decode cX8_gift 60 = .ok (.invokevirtual 52, 3) := by decide +kernel
theorem dX8_gift_63 : decode cX8_gift 63 = .ok (.ireturn, 1) := by decide +kernel
theorem dX8_gift_64 : decode cX8_gift 64 = .ok (.aload_n 0, 1) := by decide +kernel
theorem dX8_gift_65 : decode cX8_gift 65 = .ok (.getfield 16, 3) := by decide +kernel
theorem dX8_gift_68 : decode cX8_gift 68 = .ok (.aload_n 0, 1) := by decide +kernel
theorem dX8_gift_69 : decode cX8_gift 69 = .ok (.getfield 10, 3) := by decide +kernel
theorem dX8_gift_72 : decode cX8_gift 72 = .ok (.invokevirtual 63, 3) := by decide +kernel
theorem dX8_gift_75 : decode cX8_gift 75 = .ok (.aload_n 0, 1) := by decide +kernel
theorem dX8_gift_76 : decode cX8_gift 76 = .ok (.iload_n 3, 1) := by decide +kernel
theorem dX8_gift_77 : decode cX8_gift 77 = .ok (.invokevirtual 201, 3) := by decide +kernel
theorem dX8_gift_80 : decode cX8_gift 80 = .ok (.istore 5, 2) := by decide +kernel
theorem dX8_gift_82 : decode cX8_gift 82 = .ok (.bipush (-9), 2) := by decide +kernel
theorem dX8_gift_84 : decode cX8_gift 84 = .ok (.istore 6, 2) := by decide +kernel
theorem dX8_gift_86 : decode cX8_gift 86 = .ok (.iconst 0, 1) := by decide +kernel
theorem dX8_gift_87 : decode cX8_gift 87 = .ok (.istore 7, 2) := by decide +kernel
theorem dX8_gift_89 : decode cX8_gift 89 = .ok (.iload 7, 2) := by decide +kernel
theorem dX8_gift_91 : decode cX8_gift 91 = .ok (.aload_n 0, 1) := by decide +kernel
theorem dX8_gift_92 : decode cX8_gift 92 = .ok (.getfield 10, 3) := by decide +kernel
theorem dX8_gift_95 : decode cX8_gift 95 = .ok (.getfield 189, 3) := by decide +kernel
theorem dX8_gift_98 : decode cX8_gift 98 = .ok (.if_icmp .ge 83, 3) := by decide +kernel
theorem dX8_gift_101 : decode cX8_gift 101 = .ok (.iload 7, 2) := by decide +kernel
theorem dX8_gift_103 : decode cX8_gift 103 = .ok (.iload_n 1, 1) := by decide +kernel
theorem dX8_gift_104 : decode cX8_gift 104 = .ok (.if_icmp .eq 71, 3) := by decide +kernel
theorem dX8_gift_107 : decode cX8_gift 107 = .ok (.aload_n 0, 1) := by decide +kernel
theorem dX8_gift_108 : decode cX8_gift 108 = .ok (.getfield 10, 3) := by decide +kernel
theorem dX8_gift_111 : decode cX8_gift 111 = .ok (.iload_n 1, 1) := by decide +kernel
theorem dX8_gift_112 : decode cX8_gift 112 = .ok (.iload 7, 2) := by decide +kernel
theorem dX8_gift_114 : decode cX8_gift 114 = .ok (.iload_n 2, 1) := by decide +kernel
theorem dX8_gift_115 : decode cX8_gift 115 = .ok (.invokevirtual 140, 3) := by decide +kernel
theorem dX8_gift_118 : decode cX8_gift 118 = .ok (.ifCond .eq 57, 3) := by decide +kernel
theorem dX8_gift_121 : decode cX8_gift 121 = .ok (.aload_n 0, 1) := by decide +kernel
theorem dX8_gift_122 : decode cX8_gift 122 = .ok (.getfield 16, 3) := by decide +kernel
theorem dX8_gift_125 : decode cX8_gift 125 = .ok (.aload_n 0, 1) := by decide +kernel
theorem dX8_gift_126 : decode cX8_gift 126 = .ok (.getfield 10, 3) := by decide +kernel
theorem dX8_gift_129 : decode cX8_gift 129 = .ok (.invokevirtual 63, 3) := by decide +kernel
theorem dX8_gift_132 : decode cX8_gift 132 = .ok (.aload_n 0, 1) := by decide +kernel
theorem dX8_gift_133 : decode cX8_gift 133 = .ok (.getfield 16, 3) := by decide +kernel
theorem dX8_gift_136 : decode cX8_gift 136 = .ok (.iload_n 1, 1) := by decide +kernel
theorem dX8_gift_137 : decode cX8_gift 137 = .ok (.iload 7, 2) := by decide +kernel
theorem dX8_gift_139 : decode cX8_gift 139 = .ok (.iload_n 2, 1) := by decide +kernel
theorem dX8_gift_140 : decode cX8_gift 140 = .ok (.invokevirtual 144, 3) := by decide +kernel
theorem dX8_gift_143 : decode cX8_gift 143 = .ok (.aload_n 0, 1) := by decide +kernel
theorem dX8_gift_144 : decode cX8_gift 144 = .ok (.iload_n 3, 1) := by decide +kernel
theorem dX8_gift_145 : decode cX8_gift 145 = .ok (.invokevirtual 201, 3) := by decide +kernel
theorem dX8_gift_148 : decode cX8_gift 148 = .ok (.istore 8, 2) := by decide +kernel
theorem dX8_gift_150 : decode cX8_gift 150 = .ok (.iload 8, 2) := by decide +kernel
theorem dX8_gift_152 : decode cX8_gift 152 = .ok (.iload 5, 2) := by decide +kernel
theorem dX8_gift_154 : decode cX8_gift 154 = .ok (.if_icmp .ge 8, 3) := by decide +kernel
theorem dX8_gift_157 : decode cX8_gift 157 = .ok (.iload 7, 2) := by decide +kernel
theorem dX8_gift_159 : decode cX8_gift 159 = .ok (.goto 5, 3) := by decide +kernel
theorem dX8_gift_162 : decode cX8_gift 162 = .ok (.iload 6, 2) := by decide +kernel
theorem dX8_gift_164 : decode cX8_gift 164 = .ok (.istore 6, 2) := by decide +kernel
theorem dX8_gift_166 : decode cX8_gift 166 = .ok (.iload 5, 2) := by decide +kernel
theorem dX8_gift_168 : decode cX8_gift 168 = .ok (.iload 8, 2) := by decide +kernel
theorem dX8_gift_170 : decode cX8_gift 170 = .ok (.invokestatic 198, 3) := by decide +kernel
theorem dX8_gift_173 : decode cX8_gift 173 = .ok (.istore 5, 2) := by decide +kernel
theorem dX8_gift_175 : decode cX8_gift 175 = .ok (.iinc 7 1, 3) := by decide +kernel
theorem dX8_gift_178 : decode cX8_gift 178 = .ok (.goto (-89), 3) := by decide +kernel
theorem dX8_gift_181 : decode cX8_gift 181 = .ok (.iload 6, 2) := by decide +kernel
theorem dX8_gift_183 : decode cX8_gift 183 = .ok (.ireturn, 1) := by decide +kernel
theorem dX8_trade_0 : decode cX8_trade 0 = .ok (.aload_n 0, 1) := by decide +kernel
theorem dX8_trade_1 : decode cX8_trade 1 = .ok (.iload_n 1, 1) := by decide +kernel
theorem dX8_trade_2 : decode cX8_trade 2 = .ok (.iload_n 2, 1) := by decide +kernel
theorem dX8_trade_3 : decode cX8_trade 3 = .ok (.invokevirtual 136, 3) := by decide +kernel
theorem dX8_trade_6 : decode cX8_trade 6 = .ok (.ifCond .ne 9, 3) := by decide +kernel
theorem dX8_trade_9 : decode cX8_trade 9 = .ok (.aload_n 0, 1) := by decide +kernel
theorem dX8_trade_10 : decode cX8_trade 10 = .ok (.iconst (-1), 1) := by decide +kernel
theorem dX8_trade_11 : decode cX8_trade 11 = .ok (.invokevirtual 52, 3) := by decide +kernel
theorem dX8_trade_14 : decode cX8_trade 14 = .ok (.ireturn, 1) := by decide +kernel
theorem dX8_trade_15 : decode cX8_trade 15 = .ok (.iload_n 3, 1) := by decide +kernel
theorem dX8_trade_16 : decode cX8_trade 16 = .ok (.iconst 0, 1) := by decide +kernel
theorem dX8_trade_17 : decode cX8_trade 17 = .ok (.bipush 30, 2) := by decide +kernel
theorem dX8_trade_19 : decode cX8_trade 19 = .ok (.invokestatic 44, 3) := by decide +kernel
theorem dX8_trade_22 : decode cX8_trade 22 = .ok (.istore 4, 2) := by decide +kernel
theorem dX8_trade_24 : decode cX8_trade 24 = .ok (.iload 4, 2) := by decide +kernel
theorem dX8_trade_26 : decode cX8_trade 26 = .ok (.ifCond .eq 10, 3) := by decide +kernel
theorem dX8_trade_29 : decode cX8_trade 29 = .ok (.aload_n 0, 1) := by decide +kernel
theorem dX8_trade_30 : decode cX8_trade 30 = .ok (.iload 4, 2) := by decide +kernel
theorem dX8_trade_32 : decode cX8_trade 32 = .ok (.invokevirtual 52, 3) := by decide +kernel
theorem dX8_trade_35 : decode cX8_trade 35 = .ok (.ireturn, 1) := by decide +kernel
theorem dX8_trade_36 : decode cX8_trade 36 = .ok (.aload_n 0, 1) := by decide +kernel
theorem dX8_trade_37 : decode cX8_trade 37 = .ok (.getfield 16, 3) := by decide +kernel
theorem dX8_trade_40 : decode cX8_trade 40 = .ok (.aload_n 0, 1) := by decide +kernel
theorem dX8_trade_41 : decode cX8_trade 41 = .ok (.getfield 10, 3) := by decide +kernel
theorem dX8_trade_44 : decode cX8_trade 44 = .ok (.invokevirtual 63, 3) := by decide +kernel
theorem dX8_trade_47 : decode cX8_trade 47 = .ok (.aload_n 0, 1) := by decide +kernel
theorem dX8_trade_48 : decode cX8_trade 48 = .ok (.iload_n 1, 1) := by decide +kernel
theorem dX8_trade_49 : decode cX8_trade 49 = .ok (.iload_n 2, 1) := by decide +kernel
theorem dX8_trade_50 : decode cX8_trade 50 = .ok (.iload_n 3, 1) := by decide +kernel
theorem dX8_trade_51 : decode cX8_trade 51 = .ok (.invokevirtual 204, 3) := by decide +kernel
theorem dX8_trade_54 : decode cX8_trade 54 = .ok (.istore 5, 2) := by decide +kernel
theorem dX8_trade_56 : decode cX8_trade 56 = .ok (.bipush (-9), 2) := by decide +kernel
theorem dX8_trade_58 : decode cX8_trade 58 = .ok (.istore 6, 2) := by decide +kernel
theorem dX8_trade_60 : decode cX8_trade 60 = .ok (.iconst 0, 1) := by decide +kernel
theorem dX8_trade_61 : decode cX8_trade 61 = .ok (.istore 7, 2) := by decide +kernel
theorem dX8_trade_63 : decode cX8_trade 63 = .ok (.iload 7, 2) := by decide +kernel
theorem dX8_trade_65 : decode cX8_trade 65 = .ok (.bipush 7, 2) := by decide +kernel
theorem dX8_trade_67 : decode cX8_trade 67 = .ok (.if_icmp .ge 126, 3) := by decide +kernel
theorem dX8_trade_70 : decode cX8_trade 70 = .ok (.iconst 0, 1) := by decide +kernel
theorem dX8_trade_71 : decode cX8_trade 71 = .ok (.istore 8, 2) := by decide +kernel
theorem dX8_trade_73 : decode cX8_trade 73 = .ok (.iload 8, 2) := by decide +kernel
theorem dX8_trade_75 : decode cX8_trade 75 = .ok (.bipush 7, 2) := by decide +kernel
theorem dX8_trade_77 : decode cX8_trade 77 = .ok (.if_icmp .ge 110, 3) := by decide +kernel
theorem dX8_trade_80 : decode cX8_trade 80 = .ok (.aload_n 0, 1) := by decide +kernel
theorem dX8_trade_81 : decode cX8_trade 81 = .ok (.getfield 10, 3) := by decide +kernel
theorem dX8_trade_84 : decode cX8_trade 84 = .ok (.iload_n 1, 1) := by decide +kernel
theorem dX8_trade_85 : decode cX8_trade 85 = .ok (.iload_n 2, 1) := by decide +kernel
theorem dX8_trade_86 : decode cX8_trade 86 = .ok (.iload 7, 2) := by decide +kernel
theorem dX8_trade_88 : decode cX8_trade 88 = .ok (.invokevirtual 140, 3) := by decide +kernel
theorem dX8_trade_91 : decode cX8_trade 91 = .ok (.ifCond .eq 90, 3) := by decide +kernel
theorem dX8_trade_94 : decode cX8_trade 94 = .ok (.aload_n 0, 1) := by decide +kernel
theorem dX8_trade_95 : decode cX8_trade 95 = .ok (.getfield 10, 3) := by decide +kernel
theorem dX8_trade_98 : decode cX8_trade 98 = .ok (.iload_n 2, 1) := by decide +kernel
theorem dX8_trade_99 : decode cX8_trade 99 = .ok (.iload_n 1, 1) := by decide +kernel
theorem dX8_trade_100 : decode cX8_trade 100 = .ok (.iload 8, 2) := by decide +kernel
theorem dX8_trade_102 : decode cX8_trade 102 = .ok (.invokevirtual 140, 3) := by decide +kernel
theorem dX8_trade_105 : decode cX8_trade 105 = .ok (.ifCond .eq 76, 3) := by decide +kernel
theorem dX8_trade_108 : decode cX8_trade 108 = .ok (.aload_n 0, 1) := by decide +kernel
theorem dX8_trade_109 : decode cX8_trade 109 = .ok (.getfield 16, 3) := by decide +kernel
theorem dX8_trade_112 : decode cX8_trade 112 = .ok (.aload_n 0, 1) := by decide +kernel
theorem dX8_trade_113 : decode cX8_trade 113 = .ok (.getfield 10, 3) := by decide +kernel
theorem dX8_trade_116 : decode cX8_trade 116 = .ok (.invokevirtual 63, 3) := by decide +kernel
theorem dX8_trade_119 : decode cX8_trade 119 = .ok (.aload_n 0, 1) := by decide +kernel
theorem dX8_trade_120 : decode cX8_trade 120 = .ok (.getfield 16, 3) := by decide +kernel
theorem dX8_trade_123 : decode cX8_trade 123 = .ok (.iload_n 1, 1) := by decide +kernel
theorem dX8_trade_124 : decode cX8_trade 124 = .ok (.iload_n 2, 1) := by decide +kernel
theorem dX8_trade_125 : decode cX8_trade 125 = .ok (.iload 7, 2) := by decide +kernel
theorem dX8_trade_127 : decode cX8_trade 127 = .ok (.invokevirtual 144, 3) := by decide +kernel
theorem dX8_trade_130 : decode cX8_trade 130 = .ok (.aload_n 0, 1) := by decide +kernel
theorem dX8_trade_131 : decode cX8_trade 131 = .ok (.getfield 16, 3) := by decide +kernel
theorem dX8_trade_134 : decode cX8_trade 134 = .ok (.iload_n 2, 1) := by decide +kernel
theorem dX8_trade_135 : decode cX8_trade 135 = .ok (.iload_n 1, 1) := by decide +kernel
theorem dX8_trade_136 : decode cX8_trade 136 = .ok (.iload 8, 2) := by decide +kernel
theorem dX8_trade_138 : decode cX8_trade 138 = .ok (.invokevirtual 144, 3) := by decide +kernel
theorem dX8_trade_141 : decode cX8_trade 141 = .ok (.aload_n 0, 1) := by decide +kernel
theorem dX8_trade_142 : decode cX8_trade 142 = .ok (.iload_n 1, 1) := by decide +kernel
theorem dX8_trade_143 : decode cX8_trade 143 = .ok (.iload_n 2, 1) := by decide +kernel
theorem dX8_trade_144 : decode cX8_trade 144 = .ok (.iload_n 3, 1) := by decide +kernel
theorem dX8_trade_145 : decode cX8_trade 145 = .ok (.invokevirtual 204, 3) := by decide +kernel
theorem dX8_trade_148 : decode cX8_trade 148 = .ok (.istore 9, 2) := by decide +kernel
theorem dX8_trade_150 : decode cX8_trade 150 = .ok (.iload 9, 2) := by decide +kernel
theorem dX8_trade_152 : decode cX8_trade 152 = .ok (.iload 5, 2) := by decide +kernel
theorem dX8_trade_154 : decode cX8_trade 154 = .ok (.if_icmp .ge 14, 3) := by decide +kernel
theorem dX8_trade_157 : decode cX8_trade 157 = .ok (.bipush 10, 2) := by decide +kernel
theorem dX8_trade_159 : decode cX8_trade 159 = .ok (.iload 7, 2) := by decide +kernel
theorem dX8_trade_161 : decode cX8_trade 161 = .ok (.imul, 1) := by decide +kernel
theorem dX8_trade_162 : decode cX8_trade 162 = .ok (.iload 8, 2) := by decide +kernel
theorem dX8_trade_164 : decode cX8_trade 164 = .ok (.iadd, 1) := by decide +kernel
theorem dX8_trade_165 : decode cX8_trade 165 = .ok (.goto 5, 3) := by decide +kernel
theorem dX8_trade_168 : decode cX8_trade 168 = .ok (.iload 6, 2) := by decide +kernel
theorem dX8_trade_170 : decode cX8_trade 170 = .ok (.istore 6, 2) := by decide +kernel
theorem dX8_trade_172 : decode cX8_trade 172 = .ok (.iload 5, 2) := by decide +kernel
theorem dX8_trade_174 : decode cX8_trade 174 = .ok (.iload 9, 2) := by decide +kernel
theorem dX8_trade_176 : decode cX8_trade 176 = .ok (.invokestatic 198, 3) := by decide +kernel
theorem dX8_trade_179 : decode cX8_trade 179 = .ok (.istore 5, 2) := by decide +kernel
theorem dX8_trade_181 : decode cX8_trade 181 = .ok (.iinc 8 1, 3) := by decide +kernel
theorem dX8_trade_184 : decode cX8_trade 184 = .ok (.goto (-111), 3) := by decide +kernel
theorem dX8_trade_187 : decode cX8_trade 187 = .ok (.iinc 7 1, 3) := by decide +kernel
theorem dX8_trade_190 : decode cX8_trade 190 = .ok (.goto (-127), 3) := by decide +kernel
theorem dX8_trade_193 : decode cX8_trade 193 = .ok (.iload 6, 2) := by decide +kernel
theorem dX8_trade_195 : decode cX8_trade 195 = .ok (.ireturn, 1) := by decide +kernel
theorem dX8_better_0 : decode cX8_better 0 = .ok (.aload_n 0, 1) := by decide +kernel
theorem dX8_better_1 : decode cX8_better 1 = .ok (.getfield 10, 3) := by decide +kernel
theorem dX8_better_4 : decode cX8_better 4 = .ok (.iload_n 1, 1) := by decide +kernel
theorem dX8_better_5 : decode cX8_better 5 = .ok (.invokevirtual 87, 3) := by decide +kernel
theorem dX8_better_8 : decode cX8_better 8 = .ok (.ifCond .ne 9, 3) := by decide +kernel
theorem dX8_better_11 : decode cX8_better 11 = .ok (.aload_n 0, 1) := by decide +kernel
theorem dX8_better_12 : decode cX8_better 12 = .ok (.iconst (-1), 1) := by decide +kernel
theorem dX8_better_13 : decode cX8_better 13 = .ok (.invokevirtual 52, 3) := by decide +kernel
theorem dX8_better_16 : decode cX8_better 16 = .ok (.ireturn, 1) := by decide +kernel
theorem dX8_better_17 : decode cX8_better 17 = .ok (.iload_n 2, 1) := by decide +kernel
theorem dX8_better_18 : decode cX8_better 18 = .ok (.iconst 0, 1) := by decide +kernel
theorem dX8_better_19 : decode cX8_better 19 = .ok (.bipush 30, 2) := by decide +kernel
theorem dX8_better_21 : decode cX8_better 21 = .ok (.invokestatic 44, 3) := by decide +kernel
theorem dX8_better_24 : decode cX8_better 24 = .ok (.istore 4, 2) := by decide +kernel
theorem dX8_better_26 : decode cX8_better 26 = .ok (.iload 4, 2) := by decide +kernel
theorem dX8_better_28 : decode cX8_better 28 = .ok (.ifCond .eq 10, 3) := by decide +kernel
theorem dX8_better_31 : decode cX8_better 31 = .ok (.aload_n 0, 1) := by decide +kernel
theorem dX8_better_32 : decode cX8_better 32 = .ok (.iload 4, 2) := by decide +kernel
theorem dX8_better_34 : decode cX8_better 34 = .ok (.invokevirtual 52, 3) := by decide +kernel
theorem dX8_better_37 : decode cX8_better 37 = .ok (.ireturn, 1) := by decide +kernel
theorem dX8_better_38 : decode cX8_better 38 = .ok (.iload_n 3, 1) := by decide +kernel
theorem dX8_better_39 : decode cX8_better 39 = .ok (.invokestatic 115, 3) := by decide +kernel
theorem dX8_better_42 : decode cX8_better 42 = .ok (.ifCond .ne 10, 3) := by decide +kernel
theorem dX8_better_45 : decode cX8_better 45 = .ok (.aload_n 0, 1) := by decide +kernel
theorem dX8_better_46 : decode cX8_better 46 = .ok (.bipush (-2), 2) := by decide +kernel
theorem dX8_better_48 : decode cX8_better 48 = .ok (.invokevirtual 52, 3) := by decide +kernel
theorem dX8_better_51 : decode cX8_better 51 = .ok (.ireturn, 1) := by decide +kernel
theorem dX8_better_52 : decode cX8_better 52 = .ok (.ldc 207, 2) := by decide +kernel
theorem dX8_better_54 : decode cX8_better 54 = .ok (.istore 5, 2) := by decide +kernel
theorem dX8_better_56 : decode cX8_better 56 = .ok (.iconst 0, 1) := by decide +kernel
theorem dX8_better_57 : decode cX8_better 57 = .ok (.istore 6, 2) := by decide +kernel
theorem dX8_better_59 : decode cX8_better 59 = .ok (.iconst 0, 1) := by decide +kernel
theorem dX8_better_60 : decode cX8_better 60 = .ok (.istore 7, 2) := by decide +kernel
theorem dX8_better_62 : decode cX8_better 62 = .ok (.iload 7, 2) := by decide +kernel
theorem dX8_better_64 : decode cX8_better 64 = .ok (.bipush 6, 2) := by decide +kernel
theorem dX8_better_66 : decode cX8_better 66 = .ok (.if_icmp .ge 63, 3) := by decide +kernel
theorem dX8_better_69 : decode cX8_better 69 = .ok (.aload_n 0, 1) := by decide +kernel
theorem dX8_better_70 : decode cX8_better 70 = .ok (.getfield 16, 3) := by decide +kernel
theorem dX8_better_73 : decode cX8_better 73 = .ok (.aload_n 0, 1) := by decide +kernel
theorem dX8_better_74 : decode cX8_better 74 = .ok (.getfield 10, 3) := by decide +kernel
theorem dX8_better_77 : decode cX8_better 77 = .ok (.invokevirtual 63, 3) := by decide +kernel
theorem dX8_better_80 : decode cX8_better 80 = .ok (.aload_n 0, 1) := by decide +kernel
theorem dX8_better_81 : decode cX8_better 81 = .ok (.getfield 16, 3) := by decide +kernel
theorem dX8_better_84 : decode cX8_better 84 = .ok (.getfield 91, 3) := by decide +kernel
theorem dX8_better_87 : decode cX8_better 87 = .ok (.iload_n 1, 1) := by decide +kernel
theorem dX8_better_88 : decode cX8_better 88 = .ok (.iload 7, 2) := by decide +kernel
theorem dX8_better_90 : decode cX8_better 90 = .ok (.iastore, 1) := by decide +kernel
theorem dX8_better_91 : decode cX8_better 91 = .ok (.aload_n 0, 1) := by decide +kernel
theorem dX8_better_92 : decode cX8_better 92 = .ok (.iload_n 2, 1) := by decide +kernel
theorem dX8_better_93 : decode cX8_better 93 = .ok (.invokevirtual 201, 3) := by decide +kernel
theorem dX8_better_96 : decode cX8_better 96 = .ok (.istore 8, 2) := by decide +kernel
theorem dX8_better_98 : decode cX8_better 98 = .ok (.iload 8, 2) := by decide +kernel
theorem dX8_better_100 : decode cX8_better 100 = .ok (.iload 5, 2) := by decide +kernel
theorem dX8_better_102 : decode cX8_better 102 = .ok (.if_icmp .ge 8, 3) := by decide +kernel
theorem dX8_better_105 : decode cX8_better 105 = .ok (.iload 7, 2) := by decide +kernel
theorem dX8_better_107 : decode cX8_better 107 = .ok (.goto 5, 3) := by decide +kernel
theorem dX8_better_110 : decode cX8_better 110 = .ok (.iload 6, 2) := by decide +kernel
theorem dX8_better_112 : decode cX8_better 112 = .ok (.istore 6, 2) := by decide +kernel
theorem dX8_better_114 : decode cX8_better 114 = .ok (.iload 5, 2) := by decide +kernel
theorem dX8_better_116 : decode cX8_better 116 = .ok (.iload 8, 2) := by decide +kernel
theorem dX8_better_118 : decode cX8_better 118 = .ok (.invokestatic 198, 3) := by decide +kernel
theorem dX8_better_121 : decode cX8_better 121 = .ok (.istore 5, 2) := by decide +kernel
theorem dX8_better_123 : decode cX8_better 123 = .ok (.iinc 7 1, 3) := by decide +kernel
theorem dX8_better_126 : decode cX8_better 126 = .ok (.goto (-64), 3) := by decide +kernel
theorem dX8_better_129 : decode cX8_better 129 = .ok (.iload_n 3, 1) := by decide +kernel
theorem dX8_better_130 : decode cX8_better 130 = .ok (.ifCond .ne 8, 3) := by decide +kernel
theorem dX8_better_133 : decode cX8_better 133 = .ok (.iload 6, 2) := by decide +kernel
theorem dX8_better_135 : decode cX8_better 135 = .ok (.goto 5, 3) := by decide +kernel
theorem dX8_better_138 : decode cX8_better 138 = .ok (.iload 5, 2) := by decide +kernel
theorem dX8_better_140 : decode cX8_better 140 = .ok (.ireturn, 1) := by decide +kernel
theorem dX8_fewest_0 : decode cX8_fewest 0 = .ok (.iload_n 1, 1) := by decide +kernel
theorem dX8_fewest_1 : decode cX8_fewest 1 = .ok (.iconst 0, 1) := by decide +kernel
theorem dX8_fewest_2 : decode cX8_fewest 2 = .ok (.bipush 20, 2) := by decide +kernel
theorem dX8_fewest_4 : decode cX8_fewest 4 = .ok (.invokestatic 44, 3) := by decide +kernel
theorem dX8_fewest_7 : decode cX8_fewest 7 = .ok (.istore_n 2, 1) := by decide +kernel
theorem dX8_fewest_8 : decode cX8_fewest 8 = .ok (.iload_n 2, 1) := by decide +kernel
theorem dX8_fewest_9 : decode cX8_fewest 9 = .ok (.ifCond .eq 9, 3) := by decide +kernel
theorem dX8_fewest_12 : decode cX8_fewest 12 = .ok (.aload_n 0, 1) := by decide +kernel
theorem dX8_fewest_13 : decode cX8_fewest 13 = .ok (.iload_n 2, 1) := by decide +kernel
theorem dX8_fewest_14 : decode cX8_fewest 14 = .ok (.invokevirtual 52, 3) := by decide +kernel
theorem dX8_fewest_17 : decode cX8_fewest 17 = .ok (.ireturn, 1) := by decide +kernel
theorem dX8_fewest_18 : decode cX8_fewest 18 = .ok (.bipush (-9), 2) := by decide +kernel
theorem dX8_fewest_20 : decode cX8_fewest 20 = .ok (.istore_n 3, 1) := by decide +kernel
theorem dX8_fewest_21 : decode cX8_fewest 21 = .ok (.bipush 7, 2) := by decide +kernel
theorem dX8_fewest_23 : decode cX8_fewest 23 = .ok (.istore 4, 2) := by decide +kernel
theorem dX8_fewest_25 : decode cX8_fewest 25 = .ok (.iconst 0, 1) := by decide +kernel
theorem dX8_fewest_26 : decode cX8_fewest 26 = .ok (.istore 5, 2) := by decide +kernel
theorem dX8_fewest_28 : decode cX8_fewest 28 = .ok (.iload 5, 2) := by decide +kernel
theorem dX8_fewest_30 : decode cX8_fewest 30 = .ok (.iconst 1, 1) := by decide +kernel
theorem dX8_fewest_31 : decode cX8_fewest 31 = .ok (.aload_n 0, 1) := by decide +kernel
theorem dX8_fewest_32 : decode cX8_fewest 32 = .ok (.getfield 10, 3) := by decide +kernel
theorem dX8_fewest_35 : decode cX8_fewest 35 = .ok (.getfield 189, 3) := by decide +kernel
theorem dX8_fewest_38 : decode cX8_fewest 38 = .ok (.ishl, 1) := by decide +kernel
theorem dX8_fewest_39 : decode cX8_fewest 39 = .ok (.if_icmp .ge 39, 3) := by decide +kernel
theorem dX8_fewest_42 : decode cX8_fewest 42 = .ok (.iload 5, 2) := by decide +kernel
theorem dX8_fewest_44 : decode cX8_fewest 44 = .ok (.invokestatic 208, 3) := by decide +kernel
theorem dX8_fewest_47 : decode cX8_fewest 47 = .ok (.iload 4, 2) := by decide +kernel
theorem dX8_fewest_49 : decode cX8_fewest 49 = .ok (.if_icmp .ge 23, 3) := by decide +kernel
theorem dX8_fewest_52 : decode cX8_fewest 52 = .ok (.aload_n 0, 1) := by decide +kernel
theorem dX8_fewest_53 : decode cX8_fewest 53 = .ok (.iload 5, 2) := by decide +kernel
theorem dX8_fewest_55 : decode cX8_fewest 55 = .ok (.iload_n 1, 1) := by decide +kernel
theorem dX8_fewest_56 : decode cX8_fewest 56 = .ok (.invokevirtual 211, 3) := by decide +kernel
theorem dX8_fewest_59 : decode cX8_fewest 59 = .ok (.ifCond .eq 13, 3) := by decide +kernel
theorem dX8_fewest_62 : decode cX8_fewest 62 = .ok (.iload 5, 2) := by decide +kernel
theorem dX8_fewest_64 : decode cX8_fewest 64 = .ok (.istore_n 3, 1) := by decide +kernel
theorem dX8_fewest_65 : decode cX8_fewest 65 = .ok (.iload 5, 2) := by decide +kernel
theorem dX8_fewest_67 : decode cX8_fewest 67 = .ok (.invokestatic 208, 3) := by decide +kernel
theorem dX8_fewest_70 : decode cX8_fewest 70 = .ok (.istore 4, 2) := by decide +kernel
theorem dX8_fewest_72 : decode cX8_fewest 72 = .ok (.iinc 5 1, 3) := by decide +kernel
theorem dX8_fewest_75 : decode cX8_fewest 75 = .ok (.goto (-47), 3) := by decide +kernel
theorem dX8_fewest_78 : decode cX8_fewest 78 = .ok (.iload_n 3, 1) := by decide +kernel
theorem dX8_fewest_79 : decode cX8_fewest 79 = .ok (.ireturn, 1) := by decide +kernel
theorem dX8_send_0 : decode cX8_send 0 = .ok (.iload_n 1, 1) := by decide +kernel
theorem dX8_send_1 : decode cX8_send 1 = .ok (.iconst 0, 1) := by decide +kernel
theorem dX8_send_2 : decode cX8_send 2 = .ok (.bipush 30, 2) := by decide +kernel
theorem dX8_send_4 : decode cX8_send 4 = .ok (.invokestatic 44, 3) := by decide +kernel
theorem dX8_send_7 : decode cX8_send 7 = .ok (.istore_n 2, 1) := by decide +kernel
theorem dX8_send_8 : decode cX8_send 8 = .ok (.iload_n 2, 1) := by decide +kernel
theorem dX8_send_9 : decode cX8_send 9 = .ok (.ifCond .eq 9, 3) := by decide +kernel
theorem dX8_send_12 : decode cX8_send 12 = .ok (.aload_n 0, 1) := by decide +kernel
theorem dX8_send_13 : decode cX8_send 13 = .ok (.iload_n 2, 1) := by decide +kernel
theorem dX8_send_14 : decode cX8_send 14 = .ok (.invokevirtual 52, 3) := by decide +kernel
theorem dX8_send_17 : decode cX8_send 17 = .ok (.ireturn, 1) := by decide +kernel
theorem dX8_send_18 : decode cX8_send 18 = .ok (.aload_n 0, 1) := by decide +kernel
theorem dX8_send_19 : decode cX8_send 19 = .ok (.iload_n 1, 1) := by decide +kernel
theorem dX8_send_20 : decode cX8_send 20 = .ok (.iconst 0, 1) := by decide +kernel
theorem dX8_send_21 : decode cX8_send 21 = .ok (.invokevirtual 214, 3) := by decide +kernel
theorem dX8_send_24 : decode cX8_send 24 = .ok (.istore_n 3, 1) := by decide +kernel
theorem dX8_send_25 : decode cX8_send 25 = .ok (.bipush (-9), 2) := by decide +kernel
theorem dX8_send_27 : decode cX8_send 27 = .ok (.istore 4, 2) := by decide +kernel
theorem dX8_send_29 : decode cX8_send 29 = .ok (.iconst 0, 1) := by decide +kernel
theorem dX8_send_30 : decode cX8_send 30 = .ok (.istore 5, 2) := by decide +kernel
theorem dX8_send_32 : decode cX8_send 32 = .ok (.iload 5, 2) := by decide +kernel
theorem dX8_send_34 : decode cX8_send 34 = .ok (.aload_n 0, 1) := by decide +kernel
theorem dX8_send_35 : decode cX8_send 35 = .ok (.getfield 10, 3) := by decide +kernel
theorem dX8_send_38 : decode cX8_send 38 = .ok (.getfield 189, 3) := by decide +kernel
theorem dX8_send_41 : decode cX8_send 41 = .ok (.if_icmp .ge 42, 3) := by decide +kernel
theorem dX8_send_44 : decode cX8_send 44 = .ok (.aload_n 0, 1) := by decide +kernel
theorem dX8_send_45 : decode cX8_send 45 = .ok (.iload_n 1, 1) := by decide +kernel
theorem dX8_send_46 : decode cX8_send 46 = .ok (.iconst 1, 1) := by decide +kernel
theorem dX8_send_47 : decode cX8_send 47 = .ok (.iload 5, 2) := by decide +kernel
theorem dX8_send_49 : decode cX8_send 49 = .ok (.ishl, 1) := by decide +kernel
theorem dX8_send_50 : decode cX8_send 50 = .ok (.invokevirtual 214, 3) := by decide +kernel
theorem dX8_send_53 : decode cX8_send 53 = .ok (.istore 6, 2) := by decide +kernel
theorem dX8_send_55 : decode cX8_send 55 = .ok (.iload 6, 2) := by decide +kernel
theorem dX8_send_57 : decode cX8_send 57 = .ok (.iload_n 3, 1) := by decide +kernel
theorem dX8_send_58 : decode cX8_send 58 = .ok (.if_icmp .ge 8, 3) := by decide +kernel
theorem dX8_send_61 : decode cX8_send 61 = .ok (.iload 5, 2) := by decide +kernel
theorem dX8_send_63 : decode cX8_send 63 = .ok (.goto 5, 3) := by decide +kernel
theorem dX8_send_66 : decode cX8_send 66 = .ok (.iload 4, 2) := by decide +kernel
theorem dX8_send_68 : decode cX8_send 68 = .ok (.istore 4, 2) := by decide +kernel
theorem dX8_send_70 : decode cX8_send 70 = .ok (.iload_n 3, 1) := by decide +kernel
theorem dX8_send_71 : decode cX8_send 71 = .ok (.iload 6, 2) := by decide +kernel
theorem dX8_send_73 : decode cX8_send 73 = .ok (.invokestatic 198, 3) := by decide +kernel
theorem dX8_send_76 : decode cX8_send 76 = .ok (.istore_n 3, 1) := by decide +kernel
theorem dX8_send_77 : decode cX8_send 77 = .ok (.iinc 5 1, 3) := by decide +kernel
theorem dX8_send_80 : decode cX8_send 80 = .ok (.goto (-48), 3) := by decide +kernel
theorem dX8_send_83 : decode cX8_send 83 = .ok (.iload 4, 2) := by decide +kernel
theorem dX8_send_85 : decode cX8_send 85 = .ok (.ireturn, 1) := by decide +kernel
theorem dX8_holiday_0 : decode cX8_holiday 0 = .ok (.iload_n 1, 1) := by decide +kernel
theorem dX8_holiday_1 : decode cX8_holiday 1 = .ok (.iconst 0, 1) := by decide +kernel
theorem dX8_holiday_2 : decode cX8_holiday 2 = .ok (.bipush 30, 2) := by decide +kernel
theorem dX8_holiday_4 : decode cX8_holiday 4 = .ok (.invokestatic 44, 3) := by decide +kernel
theorem dX8_holiday_7 : decode cX8_holiday 7 = .ok (.istore_n 3, 1) := by decide +kernel
theorem dX8_holiday_8 : decode cX8_holiday 8 = .ok (.iload_n 3, 1) := by decide +kernel
theorem dX8_holiday_9 : decode cX8_holiday 9 = .ok (.ifCond .eq 9, 3) := by decide +kernel
theorem dX8_holiday_12 : decode cX8_holiday 12 = .ok (.aload_n 0, 1) := by decide +kernel
theorem dX8_holiday_13 : decode cX8_holiday 13 = .ok (.iload_n 3, 1) := by decide +kernel
theorem dX8_holiday_14 : decode cX8_holiday 14 = .ok (.invokevirtual 52, 3) := by decide +kernel
theorem dX8_holiday_17 : decode cX8_holiday 17 = .ok (.ireturn, 1) := by decide +kernel
theorem dX8_holiday_18 : decode cX8_holiday 18 = .ok (.iload_n 2, 1) := by decide +kernel
theorem dX8_holiday_19 : decode cX8_holiday 19 = .ok (.invokestatic 115, 3) := by decide +kernel
theorem dX8_holiday_22 : decode cX8_holiday 22 = .ok (.ifCond .ne 10, 3) := by decide +kernel
theorem dX8_holiday_25 : decode cX8_holiday 25 = .ok (.aload_n 0, 1) := by decide +kernel
theorem dX8_holiday_26 : decode cX8_holiday 26 = .ok (.bipush (-2), 2) := by decide +kernel
theorem dX8_holiday_28 : decode cX8_holiday 28 = .ok (.invokevirtual 52, 3) := by decide +kernel
theorem dX8_holiday_31 : decode cX8_holiday 31 = .ok (.ireturn, 1) := by decide +kernel
theorem dX8_holiday_32 : decode cX8_holiday 32 = .ok (.ldc 207, 2) := by decide +kernel
theorem dX8_holiday_34 : decode cX8_holiday 34 = .ok (.istore 4, 2) := by decide +kernel
theorem dX8_holiday_36 : decode cX8_holiday 36 = .ok (.iconst 0, 1) := by decide +kernel
theorem dX8_holiday_37 : decode cX8_holiday 37 = .ok (.istore 5, 2) := by decide +kernel
theorem dX8_holiday_39 : decode cX8_holiday 39 = .ok (.iconst 0, 1) := by decide +kernel
theorem dX8_holiday_40 : decode cX8_holiday 40 = .ok (.istore 6, 2) := by decide +kernel
theorem dX8_holiday_42 : decode cX8_holiday 42 = .ok (.iload 6, 2) := by decide +kernel
theorem dX8_holiday_44 : decode cX8_holiday 44 = .ok (.bipush 7, 2) := by decide +kernel
theorem dX8_holiday_46 : decode cX8_holiday 46 = .ok (.if_icmp .ge 65, 3) := by decide +kernel
theorem dX8_holiday_49 : decode cX8_holiday 49 = .ok (.aload_n 0, 1) := by decide +kernel
theorem dX8_holiday_50 : decode cX8_holiday 50 = .ok (.getfield 16, 3) := by decide +kernel
theorem dX8_holiday_53 : decode cX8_holiday 53 = .ok (.aload_n 0, 1) := by decide +kernel
theorem dX8_holiday_54 : decode cX8_holiday 54 = .ok (.getfield 10, 3) := by decide +kernel
theorem dX8_holiday_57 : decode cX8_holiday 57 = .ok (.invokevirtual 63, 3) := by decide +kernel
theorem dX8_holiday_60 : decode cX8_holiday 60 = .ok (.aload_n 0, 1) := by decide +kernel
theorem dX8_holiday_61 : decode cX8_holiday 61 = .ok (.getfield 16, 3) := by decide +kernel
theorem dX8_holiday_64 : decode cX8_holiday 64 = .ok (.bipush 63, 2) := by decide +kernel
theorem dX8_holiday_66 : decode cX8_holiday 66 = .ok (.iconst 1, 1) := by decide +kernel
theorem dX8_holiday_67 : decode cX8_holiday 67 = .ok (.iload 6, 2) := by decide +kernel
theorem dX8_holiday_69 : decode cX8_holiday 69 = .ok (.ishl, 1) := by decide +kernel
theorem dX8_holiday_70 : decode cX8_holiday 70 = .ok (.invokevirtual 217, 3) := by decide +kernel
theorem dX8_holiday_73 : decode cX8_holiday 73 = .ok (.aload_n 0, 1) := by decide +kernel
theorem dX8_holiday_74 : decode cX8_holiday 74 = .ok (.iload_n 1, 1) := by decide +kernel
theorem dX8_holiday_75 : decode cX8_holiday 75 = .ok (.invokevirtual 201, 3) := by decide +kernel
theorem dX8_holiday_78 : decode cX8_holiday 78 = .ok (.istore 7, 2) := by decide +kernel
theorem dX8_holiday_80 : decode cX8_holiday 80 = .ok (.iload 7, 2) := by decide +kernel
theorem dX8_holiday_82 : decode cX8_holiday 82 = .ok (.iload 4, 2) := by decide +kernel
theorem dX8_holiday_84 : decode cX8_holiday 84 = .ok (.if_icmp .ge 8, 3) := by decide +kernel
theorem dX8_holiday_87 : decode cX8_holiday 87 = .ok (.iload 6, 2) := by decide +kernel
theorem dX8_holiday_89 : decode cX8_holiday 89 = .ok (.goto 5, 3) := by decide +kernel
theorem dX8_holiday_92 : decode cX8_holiday 92 = .ok (.iload 5, 2) := by decide +kernel
theorem dX8_holiday_94 : decode cX8_holiday 94 = .ok (.istore 5, 2) := by decide +kernel
theorem dX8_holiday_96 : decode cX8_holiday 96 = .ok (.iload 4, 2) := by decide +kernel
theorem dX8_holiday_98 : decode cX8_holiday 98 = .ok (.iload 7, 2) := by decide +kernel
theorem dX8_holiday_100 : decode cX8_holiday 100 = .ok (.invokestatic 198, 3) := by decide +kernel
theorem dX8_holiday_103 : decode cX8_holiday 103 = .ok (.istore 4, 2) := by decide +kernel
theorem dX8_holiday_105 : decode cX8_holiday 105 = .ok (.iinc 6 1, 3) := by decide +kernel
theorem dX8_holiday_108 : decode cX8_holiday 108 = .ok (.goto (-66), 3) := by decide +kernel
theorem dX8_holiday_111 : decode cX8_holiday 111 = .ok (.iload_n 2, 1) := by decide +kernel
theorem dX8_holiday_112 : decode cX8_holiday 112 = .ok (.ifCond .ne 8, 3) := by decide +kernel
theorem dX8_holiday_115 : decode cX8_holiday 115 = .ok (.iload 5, 2) := by decide +kernel
theorem dX8_holiday_117 : decode cX8_holiday 117 = .ok (.goto 5, 3) := by decide +kernel
theorem dX8_holiday_120 : decode cX8_holiday 120 = .ok (.iload 4, 2) := by decide +kernel
theorem dX8_holiday_122 : decode cX8_holiday 122 = .ok (.ireturn, 1) := by decide +kernel
theorem dX8_two_0 : decode cX8_two 0 = .ok (.aload_n 0, 1) := by decide +kernel
theorem dX8_two_1 : decode cX8_two 1 = .ok (.iload_n 1, 1) := by decide +kernel
theorem dX8_two_2 : decode cX8_two 2 = .ok (.iload_n 2, 1) := by decide +kernel
theorem dX8_two_3 : decode cX8_two 3 = .ok (.invokevirtual 136, 3) := by decide +kernel
theorem dX8_two_6 : decode cX8_two 6 = .ok (.ifCond .ne 9, 3) := by decide +kernel
theorem dX8_two_9 : decode cX8_two 9 = .ok (.aload_n 0, 1) := by decide +kernel
theorem dX8_two_10 : decode cX8_two 10 = .ok (.iconst (-1), 1) := by decide +kernel
theorem dX8_two_11 : decode cX8_two 11 = .ok (.invokevirtual 52, 3) := by decide +kernel
theorem dX8_two_14 : decode cX8_two 14 = .ok (.ireturn, 1) := by decide +kernel
theorem dX8_two_15 : decode cX8_two 15 = .ok (.iload_n 3, 1) := by decide +kernel
theorem dX8_two_16 : decode cX8_two 16 = .ok (.iconst 0, 1) := by decide +kernel
theorem dX8_two_17 : decode cX8_two 17 = .ok (.bipush 30, 2) := by decide +kernel
theorem dX8_two_19 : decode cX8_two 19 = .ok (.invokestatic 44, 3) := by decide +kernel
theorem dX8_two_22 : decode cX8_two 22 = .ok (.istore 4, 2) := by decide +kernel
theorem dX8_two_24 : decode cX8_two 24 = .ok (.iload 4, 2) := by decide +kernel
theorem dX8_two_26 : decode cX8_two 26 = .ok (.ifCond .eq 10, 3) := by decide +kernel
theorem dX8_two_29 : decode cX8_two 29 = .ok (.aload_n 0, 1) := by decide +kernel
theorem dX8_two_30 : decode cX8_two 30 = .ok (.iload 4, 2) := by decide +kernel
theorem dX8_two_32 : decode cX8_two 32 = .ok (.invokevirtual 52, 3) := by decide +kernel
theorem dX8_two_35 : decode cX8_two 35 = .ok (.ireturn, 1) := by decide +kernel
theorem dX8_two_36 : decode cX8_two 36 = .ok (.iconst 0, 1) := by decide +kernel
theorem dX8_two_37 : decode cX8_two 37 = .ok (.istore 5, 2) := by decide +kernel
theorem dX8_two_39 : decode cX8_two 39 = .ok (.iload 5, 2) := by decide +kernel
theorem dX8_two_41 : decode cX8_two 41 = .ok (.iconst 2, 1) := by decide +kernel
theorem dX8_two_42 : decode cX8_two 42 = .ok (.if_icmp .ge 66, 3) := by decide +kernel
theorem dX8_two_45 : decode cX8_two 45 = .ok (.iconst 0, 1) := by decide +kernel
theorem dX8_two_46 : decode cX8_two 46 = .ok (.istore 6, 2) := by decide +kernel
theorem dX8_two_48 : decode cX8_two 48 = .ok (.iload 6, 2) := by decide +kernel
theorem dX8_two_50 : decode cX8_two 50 = .ok (.iconst 2, 1) := by decide +kernel
theorem dX8_two_51 : decode cX8_two 51 = .ok (.if_icmp .ge 51, 3) := by decide +kernel
theorem dX8_two_54 : decode cX8_two 54 = .ok (.iload 5, 2) := by decide +kernel
theorem dX8_two_56 : decode cX8_two 56 = .ok (.iload_n 1, 1) := by decide +kernel
theorem dX8_two_57 : decode cX8_two 57 = .ok (.ishl, 1) := by decide +kernel
theorem dX8_two_58 : decode cX8_two 58 = .ok (.iload 6, 2) := by decide +kernel
theorem dX8_two_60 : decode cX8_two 60 = .ok (.iload_n 2, 1) := by decide +kernel
theorem dX8_two_61 : decode cX8_two 61 = .ok (.ishl, 1) := by decide +kernel
theorem dX8_two_62 : decode cX8_two 62 = .ok (.ior, 1) := by decide +kernel
theorem dX8_two_63 : decode cX8_two 63 = .ok (.istore 7, 2) := by decide +kernel
theorem dX8_two_65 : decode cX8_two 65 = .ok (.aload_n 0, 1) := by decide +kernel
theorem dX8_two_66 : decode cX8_two 66 = .ok (.iload_n 1, 1) := by decide +kernel
theorem dX8_two_67 : decode cX8_two 67 = .ok (.iload 7, 2) := by decide +kernel
theorem dX8_two_69 : decode cX8_two 69 = .ok (.iload_n 3, 1) := by decide +kernel
theorem dX8_two_70 : decode cX8_two 70 = .ok (.invokevirtual 220, 3) := by decide +kernel
theorem dX8_two_73 : decode cX8_two 73 = .ok (.ifCond .eq 23, 3) := by decide +kernel
theorem dX8_two_76 : decode cX8_two 76 = .ok (.aload_n 0, 1) := by decide +kernel
theorem dX8_two_77 : decode cX8_two 77 = .ok (.iload_n 2, 1) := by decide +kernel
theorem dX8_two_78 : decode cX8_two 78 = .ok (.iload 7, 2) := by decide +kernel
theorem dX8_two_80 : decode cX8_two 80 = .ok (.iload_n 3, 1) := by decide +kernel
theorem dX8_two_81 : decode cX8_two 81 = .ok (.invokevirtual 220, 3) := by decide +kernel
theorem dX8_two_84 : decode cX8_two 84 = .ok (.ifCond .eq 12, 3) := by decide +kernel
theorem dX8_two_87 : decode cX8_two 87 = .ok (.bipush 10, 2) := by decide +kernel
theorem dX8_two_89 : decode cX8_two 89 = .ok (.iload 5, 2) := by decide +kernel
theorem dX8_two_91 : decode cX8_two 91 = .ok (.imul, 1) := by decide +kernel
theorem dX8_two_92 : decode cX8_two 92 = .ok (.iload 6, 2) := by decide +kernel
theorem dX8_two_94 : decode cX8_two 94 = .ok (.iadd, 1) := by decide +kernel
theorem dX8_two_95 : decode cX8_two 95 = .ok (.ireturn, 1) := by decide +kernel
theorem dX8_two_96 : decode cX8_two 96 = .ok (.iinc 6 1, 3) := by decide +kernel
theorem dX8_two_99 : decode cX8_two 99 = .ok (.goto (-51), 3) := by decide +kernel
theorem dX8_two_102 : decode cX8_two 102 = .ok (.iinc 5 1, 3) := by decide +kernel
theorem dX8_two_105 : decode cX8_two 105 = .ok (.goto (-66), 3) := by decide +kernel
theorem dX8_two_108 : decode cX8_two 108 = .ok (.bipush (-9), 2) := by decide +kernel
theorem dX8_two_110 : decode cX8_two 110 = .ok (.ireturn, 1) := by decide +kernel
theorem dX8_fever_0 : decode cX8_fever 0 = .ok (.aload_n 0, 1) := by decide +kernel
theorem dX8_fever_1 : decode cX8_fever 1 = .ok (.iload_n 1, 1) := by decide +kernel
theorem dX8_fever_2 : decode cX8_fever 2 = .ok (.iload_n 2, 1) := by decide +kernel
theorem dX8_fever_3 : decode cX8_fever 3 = .ok (.iload_n 3, 1) := by decide +kernel
theorem dX8_fever_4 : decode cX8_fever 4 = .ok (.iload 4, 2) := by decide +kernel
theorem dX8_fever_6 : decode cX8_fever 6 = .ok (.iload 5, 2) := by decide +kernel
theorem dX8_fever_8 : decode cX8_fever 8 = .ok (.invokevirtual 223, 3) := by decide +kernel
theorem dX8_fever_11 : decode cX8_fever 11 = .ok (.istore 6, 2) := by decide +kernel
theorem dX8_fever_13 : decode cX8_fever 13 = .ok (.iload 6, 2) := by decide +kernel
theorem dX8_fever_15 : decode cX8_fever 15 = .ok (.ifCond .eq 10, 3) := by decide +kernel
theorem dX8_fever_18 : decode cX8_fever 18 = .ok (.aload_n 0, 1) := by decide +kernel
theorem dX8_fever_19 : decode cX8_fever 19 = .ok (.iload 6, 2) := by decide +kernel
theorem dX8_fever_21 : decode cX8_fever 21 = .ok (.invokevirtual 227, 3) := by decide +kernel
theorem dX8_fever_24 : decode cX8_fever 24 = .ok (.lreturn, 1) := by decide +kernel
theorem dX8_fever_25 : decode cX8_fever 25 = .ok (.lconst 1, 1) := by decide +kernel
theorem dX8_fever_26 : decode cX8_fever 26 = .ok (.lstore 7, 2) := by decide +kernel
theorem dX8_fever_28 : decode cX8_fever 28 = .ok (.iconst 0, 1) := by decide +kernel
theorem dX8_fever_29 : decode cX8_fever 29 = .ok (.istore 9, 2) := by decide +kernel
theorem dX8_fever_31 : decode cX8_fever 31 = .ok (.iload 9, 2) := by decide +kernel
theorem dX8_fever_33 : decode cX8_fever 33 = .ok (.iload_n 2, 1) := by decide +kernel
theorem dX8_fever_34 : decode cX8_fever 34 = .ok (.if_icmp .ge 16, 3) := by decide +kernel
theorem dX8_fever_37 : decode cX8_fever 37 = .ok (.lload 7, 2) := by decide +kernel
theorem dX8_fever_39 : decode cX8_fever 39 = .ok (.iload_n 3, 1) := by decide +kernel
theorem dX8_fever_40 : decode cX8_fever 40 = .ok (.i2l, 1) := by decide +kernel
theorem dX8_fever_41 : decode cX8_fever 41 = .ok (.lmul, 1) := by decide +kernel
theorem dX8_fever_42 : decode cX8_fever 42 = .ok (.lstore 7, 2) := by decide +kernel
theorem dX8_fever_44 : decode cX8_fever 44 = .ok (.iinc 9 1, 3) := by decide +kernel
theorem dX8_fever_47 : decode cX8_fever 47 = .ok (.goto (-16), 3) := by decide +kernel
theorem dX8_fever_50 : decode cX8_fever 50 = .ok (.lconst 0, 1) := by decide +kernel
theorem dX8_fever_51 : decode cX8_fever 51 = .ok (.lstore 9, 2) := by decide +kernel
theorem dX8_fever_53 : decode cX8_fever 53 = .ok (.iconst 0, 1) := by decide +kernel
theorem dX8_fever_54 : decode cX8_fever 54 = .ok (.istore 11, 2) := by decide +kernel
theorem dX8_fever_56 : decode cX8_fever 56 = .ok (.iload 11, 2) := by decide +kernel
theorem dX8_fever_58 : decode cX8_fever 58 = .ok (.iconst 1, 1) := by decide +kernel
theorem dX8_fever_59 : decode cX8_fever 59 = .ok (.iload_n 2, 1) := by decide +kernel
theorem dX8_fever_60 : decode cX8_fever 60 = .ok (.ishl, 1) := by decide +kernel
theorem dX8_fever_61 : decode cX8_fever 61 = .ok (.if_icmp .ge 34, 3) := by decide +kernel
theorem dX8_fever_64 : decode cX8_fever 64 = .ok (.aload_n 0, 1) := by decide +kernel
theorem dX8_fever_65 : decode cX8_fever 65 = .ok (.iload_n 1, 1) := by decide +kernel
theorem dX8_fever_66 : decode cX8_fever 66 = .ok (.iload_n 2, 1) := by decide +kernel
theorem dX8_fever_67 : decode cX8_fever 67 = .ok (.iload 11, 2) := by decide +kernel
theorem dX8_fever_69 : decode cX8_fever 69 = .ok (.invokevirtual 231, 3) := by decide +kernel
theorem dX8_fever_72 : decode cX8_fever 72 = .ok (.iload 4, 2) := by decide +kernel
theorem dX8_fever_74 : decode cX8_fever 74 = .ok (.if_icmp .lt 15, 3) := by decide +kernel
theorem dX8_fever_77 : decode cX8_fever 77 = .ok (.lload 9, 2) := by decide +kernel
theorem dX8_fever_79 : decode cX8_fever 79 = .ok (.iload_n 2, 1) := by decide +kernel
theorem dX8_fever_80 : decode cX8_fever 80 = .ok (.iload 11, 2) := by decide +kernel
theorem dX8_fever_82 : decode cX8_fever 82 = .ok (.iload_n 3, 1) := by decide +kernel
theorem dX8_fever_83 : decode cX8_fever 83 = .ok (.invokestatic 234, 3) := by decide +kernel
theorem dX8_fever_86 : decode cX8_fever 86 = .ok (.ladd, 1) := by decide +kernel
theorem dX8_fever_87 : decode cX8_fever 87 = .ok (.lstore 9, 2) := by decide +kernel
theorem dX8_fever_89 : decode cX8_fever 89 = .ok (.iinc 11 1, 3) := by decide +kernel
theorem dX8_fever_92 : decode cX8_fever 92 = .ok (.goto (-36), 3) := by decide +kernel
theorem dX8_fever_95 : decode cX8_fever 95 = .ok (.lload 9, 2) := by decide +kernel
theorem dX8_fever_97 : decode cX8_fever 97 = .ok (.lload 7, 2) := by decide +kernel
theorem dX8_fever_99 : decode cX8_fever 99 = .ok (.iload 5, 2) := by decide +kernel
theorem dX8_fever_101 : decode cX8_fever 101 = .ok (.invokestatic 238, 3) := by decide +kernel
theorem dX8_fever_104 : decode cX8_fever 104 = .ok (.lreturn, 1) := by decide +kernel
theorem dX8_mean_0 : decode cX8_mean 0 = .ok (.iload_n 1, 1) := by decide +kernel
theorem dX8_mean_1 : decode cX8_mean 1 = .ok (.invokestatic 115, 3) := by decide +kernel
theorem dX8_mean_4 : decode cX8_mean 4 = .ok (.ifCond .ne 10, 3) := by decide +kernel
theorem dX8_mean_7 : decode cX8_mean 7 = .ok (.aload_n 0, 1) := by decide +kernel
theorem dX8_mean_8 : decode cX8_mean 8 = .ok (.bipush (-2), 2) := by decide +kernel
theorem dX8_mean_10 : decode cX8_mean 10 = .ok (.invokevirtual 227, 3) := by decide +kernel
theorem dX8_mean_13 : decode cX8_mean 13 = .ok (.lreturn, 1) := by decide +kernel
theorem dX8_mean_14 : decode cX8_mean 14 = .ok (.aload_n 0, 1) := by decide +kernel
theorem dX8_mean_15 : decode cX8_mean 15 = .ok (.getfield 10, 3) := by decide +kernel
theorem dX8_mean_18 : decode cX8_mean 18 = .ok (.invokevirtual 242, 3) := by decide +kernel
theorem dX8_mean_21 : decode cX8_mean 21 = .ok (.i2l, 1) := by decide +kernel
theorem dX8_mean_22 : decode cX8_mean 22 = .ok (.aload_n 0, 1) := by decide +kernel
theorem dX8_mean_23 : decode cX8_mean 23 = .ok (.getfield 10, 3) := by decide +kernel
theorem dX8_mean_26 : decode cX8_mean 26 = .ok (.getfield 189, 3) := by decide +kernel
theorem dX8_mean_29 : decode cX8_mean 29 = .ok (.iconst 1, 1) := by decide +kernel
theorem dX8_mean_30 : decode cX8_mean 30 = .ok (.invokestatic 193, 3) := by decide +kernel
theorem dX8_mean_33 : decode cX8_mean 33 = .ok (.i2l, 1) := by decide +kernel
theorem dX8_mean_34 : decode cX8_mean 34 = .ok (.iload_n 1, 1) := by decide +kernel
theorem dX8_mean_35 : decode cX8_mean 35 = .ok (.invokestatic 238, 3) := by decide +kernel
theorem dX8_mean_38 : decode cX8_mean 38 = .ok (.lreturn, 1) := by decide +kernel
theorem dX8_whatIs_0 : decode cX8_whatIs 0 = .ok (.aload_n 0, 1) := by decide +kernel
theorem dX8_whatIs_1 : decode cX8_whatIs 1 = .ok (.getfield 10, 3) := by decide +kernel
theorem dX8_whatIs_4 : decode cX8_whatIs 4 = .ok (.iload_n 1, 1) := by decide +kernel
theorem dX8_whatIs_5 : decode cX8_whatIs 5 = .ok (.invokevirtual 87, 3) := by decide +kernel
theorem dX8_whatIs_8 : decode cX8_whatIs 8 = .ok (.ifCond .ne 9, 3) := by decide +kernel
theorem dX8_whatIs_11 : decode cX8_whatIs 11 = .ok (.aload_n 0, 1) := by decide +kernel
theorem dX8_whatIs_12 : decode cX8_whatIs 12 = .ok (.iconst (-1), 1) := by decide +kernel
theorem dX8_whatIs_13 : decode cX8_whatIs 13 = .ok (.invokevirtual 52, 3) := by decide +kernel
theorem dX8_whatIs_16 : decode cX8_whatIs 16 = .ok (.ireturn, 1) := by decide +kernel
theorem dX8_whatIs_17 : decode cX8_whatIs 17 = .ok (.iload_n 2, 1) := by decide +kernel
theorem dX8_whatIs_18 : decode cX8_whatIs 18 = .ok (.invokestatic 115, 3) := by decide +kernel
theorem dX8_whatIs_21 : decode cX8_whatIs 21 = .ok (.ifCond .ne 10, 3) := by decide +kernel
theorem dX8_whatIs_24 : decode cX8_whatIs 24 = .ok (.aload_n 0, 1) := by decide +kernel
theorem dX8_whatIs_25 : decode cX8_whatIs 25 = .ok (.bipush (-2), 2) := by decide +kernel
theorem dX8_whatIs_27 : decode cX8_whatIs 27 = .ok (.invokevirtual 52, 3) := by decide +kernel
theorem dX8_whatIs_30 : decode cX8_whatIs 30 = .ok (.ireturn, 1) := by decide +kernel
theorem dX8_whatIs_31 : decode cX8_whatIs 31 = .ok (.iconst 0, 1) := by decide +kernel
theorem dX8_whatIs_32 : decode cX8_whatIs 32 = .ok (.istore_n 3, 1) := by decide +kernel
theorem dX8_whatIs_33 : decode cX8_whatIs 33 = .ok (.iload_n 2, 1) := by decide +kernel
theorem dX8_whatIs_34 : decode cX8_whatIs 34 = .ok (.ifCond .ne 8, 3) := by decide +kernel
theorem dX8_whatIs_37 : decode cX8_whatIs 37 = .ok (.bipush 6, 2) := by decide +kernel
theorem dX8_whatIs_39 : decode cX8_whatIs 39 = .ok (.goto 5, 3) := by decide +kernel
theorem dX8_whatIs_42 : decode cX8_whatIs 42 = .ok (.bipush 10, 2) := by decide +kernel
theorem dX8_whatIs_44 : decode cX8_whatIs 44 = .ok (.istore 4, 2) := by decide +kernel
theorem dX8_whatIs_46 : decode cX8_whatIs 46 = .ok (.iconst 0, 1) := by decide +kernel
theorem dX8_whatIs_47 : decode cX8_whatIs 47 = .ok (.istore 5, 2) := by decide +kernel
theorem dX8_whatIs_49 : decode cX8_whatIs 49 = .ok (.iload 5, 2) := by decide +kernel
theorem dX8_whatIs_51 : decode cX8_whatIs 51 = .ok (.iload 4, 2) := by decide +kernel
theorem dX8_whatIs_53 : decode cX8_whatIs 53 = .ok (.if_icmp .ge 64, 3) := by decide +kernel
theorem dX8_whatIs_56 : decode cX8_whatIs 56 = .ok (.aload_n 0, 1) := by decide +kernel
theorem dX8_whatIs_57 : decode cX8_whatIs 57 = .ok (.getfield 16, 3) := by decide +kernel
theorem dX8_whatIs_60 : decode cX8_whatIs 60 = .ok (.aload_n 0, 1) := by decide +kernel
theorem dX8_whatIs_61 : decode cX8_whatIs 61 = .ok (.getfield 10, 3) := by decide +kernel
theorem dX8_whatIs_64 : decode cX8_whatIs 64 = .ok (.invokevirtual 63, 3) := by decide +kernel
theorem dX8_whatIs_67 : decode cX8_whatIs 67 = .ok (.iload_n 2, 1) := by decide +kernel
theorem dX8_whatIs_68 : decode cX8_whatIs 68 = .ok (.ifCond .ne 17, 3) := by decide +kernel
theorem dX8_whatIs_71 : decode cX8_whatIs 71 = .ok (.aload_n 0, 1) := by decide +kernel
theorem dX8_whatIs_72 : decode cX8_whatIs 72 = .ok (.getfield 16, 3) := by decide +kernel
theorem dX8_whatIs_75 : decode cX8_whatIs 75 = .ok (.getfield 91, 3) := by decide +kernel
theorem dX8_whatIs_78 : decode cX8_whatIs 78 = .ok (.iload_n 1, 1) := by decide +kernel
theorem dX8_whatIs_79 : decode cX8_whatIs 79 = .ok (.iload 5, 2) := by decide +kernel
theorem dX8_whatIs_81 : decode cX8_whatIs 81 = .ok (.iastore, 1) := by decide +kernel
theorem dX8_whatIs_82 : decode cX8_whatIs 82 = .ok (.goto 14, 3) := by decide +kernel
theorem dX8_whatIs_85 : decode cX8_whatIs 85 = .ok (.aload_n 0, 1) := by decide +kernel
theorem dX8_whatIs_86 : decode cX8_whatIs 86 = .ok (.getfield 16, 3) := by decide +kernel
theorem dX8_whatIs_89 : decode cX8_whatIs 89 = .ok (.getfield 94, 3) := by decide +kernel
theorem dX8_whatIs_92 : decode cX8_whatIs 92 = .ok (.iload_n 1, 1) := by decide +kernel
theorem dX8_whatIs_93 : decode cX8_whatIs 93 = .ok (.iload 5, 2) := by decide +kernel
theorem dX8_whatIs_95 : decode cX8_whatIs 95 = .ok (.iastore, 1) := by decide +kernel
theorem dX8_whatIs_96 : decode cX8_whatIs 96 = .ok (.aload_n 0, 1) := by decide +kernel
theorem dX8_whatIs_97 : decode cX8_whatIs 97 = .ok (.iload_n 1, 1) := by decide +kernel
theorem dX8_whatIs_98 : decode cX8_whatIs 98 = .ok (.invokevirtual 245, 3) := by decide +kernel
theorem dX8_whatIs_101 : decode cX8_whatIs 101 = .ok (.ifCond .eq 10, 3) := by decide +kernel
theorem dX8_whatIs_104 : decode cX8_whatIs 104 = .ok (.iload_n 3, 1) := by decide +kernel
theorem dX8_whatIs_105 : decode cX8_whatIs 105 = .ok (.iconst 1, 1) := by decide +kernel
theorem dX8_whatIs_106 : decode cX8_whatIs 106 = .ok (.iload 5, 2) := by decide +kernel
theorem dX8_whatIs_108 : decode cX8_whatIs 108 = .ok (.ishl, 1) := by decide +kernel
theorem dX8_whatIs_109 : decode cX8_whatIs 109 = .ok (.ior, 1) := by decide +kernel
theorem dX8_whatIs_110 : decode cX8_whatIs 110 = .ok (.istore_n 3, 1) := by decide +kernel
theorem dX8_whatIs_111 : decode cX8_whatIs 111 = .ok (.iinc 5 1, 3) := by decide +kernel
theorem dX8_whatIs_114 : decode cX8_whatIs 114 = .ok (.goto (-65), 3) := by decide +kernel
theorem dX8_whatIs_117 : decode cX8_whatIs 117 = .ok (.iload_n 3, 1) := by decide +kernel
theorem dX8_whatIs_118 : decode cX8_whatIs 118 = .ok (.ireturn, 1) := by decide +kernel
theorem dX8_row_0 : decode cX8_row 0 = .ok (.iload_n 1, 1) := by decide +kernel
theorem dX8_row_1 : decode cX8_row 1 = .ok (.iconst 0, 1) := by decide +kernel
theorem dX8_row_2 : decode cX8_row 2 = .ok (.bipush 99, 2) := by decide +kernel
theorem dX8_row_4 : decode cX8_row 4 = .ok (.invokestatic 44, 3) := by decide +kernel
theorem dX8_row_7 : decode cX8_row 7 = .ok (.istore_n 2, 1) := by decide +kernel
theorem dX8_row_8 : decode cX8_row 8 = .ok (.iload_n 2, 1) := by decide +kernel
theorem dX8_row_9 : decode cX8_row 9 = .ok (.ifCond .ne 15, 3) := by decide +kernel
theorem dX8_row_12 : decode cX8_row 12 = .ok (.aload_n 0, 1) := by decide +kernel
theorem dX8_row_13 : decode cX8_row 13 = .ok (.getfield 37, 3) := by decide +kernel
theorem dX8_row_16 : decode cX8_row 16 = .ok (.bipush 16, 2) := by decide +kernel
theorem dX8_row_18 : decode cX8_row 18 = .ok (.if_icmp .lt 6, 3) := by decide +kernel
theorem dX8_row_21 : decode cX8_row 21 = .ok (.bipush (-6), 2) := by decide +kernel
theorem dX8_row_23 : decode cX8_row 23 = .ok (.istore_n 2, 1) := by decide +kernel
theorem dX8_row_24 : decode cX8_row 24 = .ok (.iload_n 2, 1) := by decide +kernel
theorem dX8_row_25 : decode cX8_row 25 = .ok (.ifCond .eq 9, 3) := by decide +kernel
theorem dX8_row_28 : decode cX8_row 28 = .ok (.aload_n 0, 1) := by decide +kernel
theorem dX8_row_29 : decode cX8_row 29 = .ok (.iload_n 2, 1) := by decide +kernel
theorem dX8_row_30 : decode cX8_row 30 = .ok (.invokevirtual 52, 3) := by decide +kernel
theorem dX8_row_33 : decode cX8_row 33 = .ok (.ireturn, 1) := by decide +kernel
theorem dX8_row_34 : decode cX8_row 34 = .ok (.aload_n 0, 1) := by decide +kernel
theorem dX8_row_35 : decode cX8_row 35 = .ok (.getfield 33, 3) := by decide +kernel
theorem dX8_row_38 : decode cX8_row 38 = .ok (.aload_n 0, 1) := by decide +kernel
theorem dX8_row_39 : decode cX8_row 39 = .ok (.getfield 37, 3) := by decide +kernel
theorem dX8_row_42 : decode cX8_row 42 = .ok (.iload_n 1, 1) := by decide +kernel
theorem dX8_row_43 : decode cX8_row 43 = .ok (.iastore, 1) := by decide +kernel
theorem dX8_row_44 : decode cX8_row 44 = .ok (.aload_n 0, 1) := by decide +kernel
theorem dX8_row_45 : decode cX8_row 45 = .ok (.dup, 1) := by decide +kernel
theorem dX8_row_46 : decode cX8_row 46 = .ok (.getfield 37, 3) := by decide +kernel
theorem dX8_row_49 : decode cX8_row 49 = .ok (.iconst 1, 1) := by decide +kernel
theorem dX8_row_50 : decode cX8_row 50 = .ok (.iadd, 1) := by decide +kernel
theorem dX8_row_51 : decode cX8_row 51 = .ok (.putfield 37, 3) := by decide +kernel
theorem dX8_row_54 : decode cX8_row 54 = .ok (.aload_n 0, 1) := by decide +kernel
theorem dX8_row_55 : decode cX8_row 55 = .ok (.getfield 37, 3) := by decide +kernel
theorem dX8_row_58 : decode cX8_row 58 = .ok (.ireturn, 1) := by decide +kernel
theorem dX8_judge_0 : decode cX8_judge 0 = .ok (.aload_n 0, 1) := by decide +kernel
theorem dX8_judge_1 : decode cX8_judge 1 = .ok (.getfield 37, 3) := by decide +kernel
theorem dX8_judge_4 : decode cX8_judge 4 = .ok (.istore_n 1, 1) := by decide +kernel
theorem dX8_judge_5 : decode cX8_judge 5 = .ok (.aload_n 0, 1) := by decide +kernel
theorem dX8_judge_6 : decode cX8_judge 6 = .ok (.iconst 0, 1) := by decide +kernel
theorem dX8_judge_7 : decode cX8_judge 7 = .ok (.putfield 37, 3) := by decide +kernel
theorem dX8_judge_10 : decode cX8_judge 10 = .ok (.iconst 0, 1) := by decide +kernel
theorem dX8_judge_11 : decode cX8_judge 11 = .ok (.istore_n 2, 1) := by decide +kernel
theorem dX8_judge_12 : decode cX8_judge 12 = .ok (.iload_n 2, 1) := by decide +kernel
theorem dX8_judge_13 : decode cX8_judge 13 = .ok (.iload_n 1, 1) := by decide +kernel
theorem dX8_judge_14 : decode cX8_judge 14 = .ok (.if_icmp .ge 37, 3) := by decide +kernel
theorem dX8_judge_17 : decode cX8_judge 17 = .ok (.iload_n 2, 1) := by decide +kernel
theorem dX8_judge_18 : decode cX8_judge 18 = .ok (.bipush 7, 2) := by decide +kernel
theorem dX8_judge_20 : decode cX8_judge 20 = .ok (.if_icmp .ge 23, 3) := by decide +kernel
theorem dX8_judge_23 : decode cX8_judge 23 = .ok (.aload_n 0, 1) := by decide +kernel
theorem dX8_judge_24 : decode cX8_judge 24 = .ok (.getfield 10, 3) := by decide +kernel
theorem dX8_judge_27 : decode cX8_judge 27 = .ok (.iload_n 2, 1) := by decide +kernel
theorem dX8_judge_28 : decode cX8_judge 28 = .ok (.invokevirtual 160, 3) := by decide +kernel
theorem dX8_judge_31 : decode cX8_judge 31 = .ok (.invokestatic 208, 3) := by decide +kernel
theorem dX8_judge_34 : decode cX8_judge 34 = .ok (.aload_n 0, 1) := by decide +kernel
theorem dX8_judge_35 : decode cX8_judge 35 = .ok (.getfield 33, 3) := by decide +kernel
theorem dX8_judge_38 : decode cX8_judge 38 = .ok (.iload_n 2, 1) := by decide +kernel
theorem dX8_judge_39 : decode cX8_judge 39 = .ok (.iaload, 1) := by decide +kernel
theorem dX8_judge_40 : decode cX8_judge 40 = .ok (.if_icmp .eq 5, 3) := by decide +kernel
theorem dX8_judge_43 : decode cX8_judge 43 = .ok (.iload_n 2, 1) := by decide +kernel
theorem dX8_judge_44 : decode cX8_judge 44 = .ok (.ireturn, 1) := by decide +kernel
theorem dX8_judge_45 : decode cX8_judge 45 = .ok (.iinc 2 1, 3) := by decide +kernel
theorem dX8_judge_48 : decode cX8_judge 48 = .ok (.goto (-36), 3) := by decide +kernel
theorem dX8_judge_51 : decode cX8_judge 51 = .ok (.bipush (-9), 2) := by decide +kernel
theorem dX8_judge_53 : decode cX8_judge 53 = .ok (.ireturn, 1) := by decide +kernel
theorem dX8_clear_0 : decode cX8_clear 0 = .ok (.aload_n 0, 1) := by decide +kernel
theorem dX8_clear_1 : decode cX8_clear 1 = .ok (.getfield 37, 3) := by decide +kernel
theorem dX8_clear_4 : decode cX8_clear 4 = .ok (.istore_n 1, 1) := by decide +kernel
theorem dX8_clear_5 : decode cX8_clear 5 = .ok (.aload_n 0, 1) := by decide +kernel
theorem dX8_clear_6 : decode cX8_clear 6 = .ok (.iconst 0, 1) := by decide +kernel
theorem dX8_clear_7 : decode cX8_clear 7 = .ok (.putfield 37, 3) := by decide +kernel
theorem dX8_clear_10 : decode cX8_clear 10 = .ok (.iload_n 1, 1) := by decide +kernel
theorem dX8_clear_11 : decode cX8_clear 11 = .ok (.ireturn, 1) := by decide +kernel
theorem dX8_lots_0 : decode cX8_lots 0 = .ok (.iload_n 1, 1) := by decide +kernel
theorem dX8_lots_1 : decode cX8_lots 1 = .ok (.iconst 1, 1) := by decide +kernel
theorem dX8_lots_2 : decode cX8_lots 2 = .ok (.bipush 20, 2) := by decide +kernel
theorem dX8_lots_4 : decode cX8_lots 4 = .ok (.invokestatic 44, 3) := by decide +kernel
theorem dX8_lots_7 : decode cX8_lots 7 = .ok (.istore 4, 2) := by decide +kernel
theorem dX8_lots_9 : decode cX8_lots 9 = .ok (.iload 4, 2) := by decide +kernel
theorem dX8_lots_11 : decode cX8_lots 11 = .ok (.ifCond .eq 10, 3) := by decide +kernel
theorem dX8_lots_14 : decode cX8_lots 14 = .ok (.aload_n 0, 1) := by decide +kernel
theorem dX8_lots_15 : decode cX8_lots 15 = .ok (.iload 4, 2) := by decide +kernel
theorem dX8_lots_17 : decode cX8_lots 17 = .ok (.invokevirtual 52, 3) := by decide +kernel
theorem dX8_lots_20 : decode cX8_lots 20 = .ok (.ireturn, 1) := by decide +kernel
theorem dX8_lots_21 : decode cX8_lots 21 = .ok (.iload_n 3, 1) := by decide +kernel
theorem dX8_lots_22 : decode cX8_lots 22 = .ok (.invokestatic 115, 3) := by decide +kernel
theorem dX8_lots_25 : decode cX8_lots 25 = .ok (.ifCond .ne 10, 3) := by decide +kernel
theorem dX8_lots_28 : decode cX8_lots 28 = .ok (.aload_n 0, 1) := by decide +kernel
theorem dX8_lots_29 : decode cX8_lots 29 = .ok (.bipush (-2), 2) := by decide +kernel
theorem dX8_lots_31 : decode cX8_lots 31 = .ok (.invokevirtual 52, 3) := by decide +kernel
theorem dX8_lots_34 : decode cX8_lots 34 = .ok (.ireturn, 1) := by decide +kernel
theorem dX8_lots_35 : decode cX8_lots 35 = .ok (.iload_n 2, 1) := by decide +kernel
theorem dX8_lots_36 : decode cX8_lots 36 = .ok (.istore 5, 2) := by decide +kernel
theorem dX8_lots_38 : decode cX8_lots 38 = .ok (.iconst 0, 1) := by decide +kernel
theorem dX8_lots_39 : decode cX8_lots 39 = .ok (.istore 6, 2) := by decide +kernel
theorem dX8_lots_41 : decode cX8_lots 41 = .ok (.iconst 0, 1) := by decide +kernel
theorem dX8_lots_42 : decode cX8_lots 42 = .ok (.istore 7, 2) := by decide +kernel
theorem dX8_lots_44 : decode cX8_lots 44 = .ok (.iconst 0, 1) := by decide +kernel
theorem dX8_lots_45 : decode cX8_lots 45 = .ok (.istore 8, 2) := by decide +kernel
theorem dX8_lots_47 : decode cX8_lots 47 = .ok (.iload 8, 2) := by decide +kernel
theorem dX8_lots_49 : decode cX8_lots 49 = .ok (.iload_n 1, 1) := by decide +kernel
theorem dX8_lots_50 : decode cX8_lots 50 = .ok (.if_icmp .ge 120, 3) := by decide +kernel
theorem dX8_lots_53 : decode cX8_lots 53 = .ok (.aload_n 0, 1) := by decide +kernel
theorem dX8_lots_54 : decode cX8_lots 54 = .ok (.getfield 16, 3) := by decide +kernel
theorem dX8_lots_57 : decode cX8_lots 57 = .ok (.aload_n 0, 1) := by decide +kernel
theorem dX8_lots_58 : decode cX8_lots 58 = .ok (.getfield 10, 3) := by decide +kernel
theorem dX8_lots_61 : decode cX8_lots 61 = .ok (.invokevirtual 63, 3) := by decide +kernel
theorem dX8_lots_64 : decode cX8_lots 64 = .ok (.iconst 0, 1) := by decide +kernel
theorem dX8_lots_65 : decode cX8_lots 65 = .ok (.istore 9, 2) := by decide +kernel
theorem dX8_lots_67 : decode cX8_lots 67 = .ok (.iload 9, 2) := by decide +kernel
theorem dX8_lots_69 : decode cX8_lots 69 = .ok (.aload_n 0, 1) := by decide +kernel
theorem dX8_lots_70 : decode cX8_lots 70 = .ok (.getfield 16, 3) := by decide +kernel
theorem dX8_lots_73 : decode cX8_lots 73 = .ok (.getfield 189, 3) := by decide +kernel
theorem dX8_lots_76 : decode cX8_lots 76 = .ok (.if_icmp .ge 45, 3) := by decide +kernel
theorem dX8_lots_79 : decode cX8_lots 79 = .ok (.iload 5, 2) := by decide +kernel
theorem dX8_lots_81 : decode cX8_lots 81 = .ok (.invokestatic 248, 3) := by decide +kernel
theorem dX8_lots_84 : decode cX8_lots 84 = .ok (.istore 5, 2) := by decide +kernel
theorem dX8_lots_86 : decode cX8_lots 86 = .ok (.aload_n 0, 1) := by decide +kernel
theorem dX8_lots_87 : decode cX8_lots 87 = .ok (.getfield 16, 3) := by decide +kernel
theorem dX8_lots_90 : decode cX8_lots 90 = .ok (.getfield 97, 3) := by decide +kernel
theorem dX8_lots_93 : decode cX8_lots 93 = .ok (.iload 9, 2) := by decide +kernel
theorem dX8_lots_95 : decode cX8_lots 95 = .ok (.iload 5, 2) := by decide +kernel
theorem dX8_lots_97 : decode cX8_lots 97 = .ok (.sipush 128, 3) := by decide +kernel
theorem dX8_lots_100 : decode cX8_lots 100 = .ok (.invokestatic 251, 3) := by decide +kernel
theorem dX8_lots_103 : decode cX8_lots 103 = .ok (.iastore, 1) := by decide +kernel
theorem dX8_lots_104 : decode cX8_lots 104 = .ok (.aload_n 0, 1) := by decide +kernel
theorem dX8_lots_105 : decode cX8_lots 105 = .ok (.getfield 16, 3) := by decide +kernel
theorem dX8_lots_108 : decode cX8_lots 108 = .ok (.getfield 100, 3) := by decide +kernel
theorem dX8_lots_111 : decode cX8_lots 111 = .ok (.iload 9, 2) := by decide +kernel
theorem dX8_lots_113 : decode cX8_lots 113 = .ok (.iconst 0, 1) := by decide +kernel
theorem dX8_lots_114 : decode cX8_lots 114 = .ok (.iastore, 1) := by decide +kernel
theorem dX8_lots_115 : decode cX8_lots 115 = .ok (.iinc 9 1, 3) := by decide +kernel
theorem dX8_lots_118 : decode cX8_lots 118 = .ok (.goto (-51), 3) := by decide +kernel
theorem dX8_lots_121 : decode cX8_lots 121 = .ok (.aload_n 0, 1) := by decide +kernel
theorem dX8_lots_122 : decode cX8_lots 122 = .ok (.getfield 16, 3) := by decide +kernel
theorem dX8_lots_125 : decode cX8_lots 125 = .ok (.bipush 14, 2) := by decide +kernel
theorem dX8_lots_127 : decode cX8_lots 127 = .ok (.iconst 0, 1) := by decide +kernel
theorem dX8_lots_128 : decode cX8_lots 128 = .ok (.invokevirtual 151, 3) := by decide +kernel
theorem dX8_lots_131 : decode cX8_lots 131 = .ok (.pop, 1) := by decide +kernel
theorem dX8_lots_132 : decode cX8_lots 132 = .ok (.iload 6, 2) := by decide +kernel
theorem dX8_lots_134 : decode cX8_lots 134 = .ok (.aload_n 0, 1) := by decide +kernel
theorem dX8_lots_135 : decode cX8_lots 135 = .ok (.getfield 16, 3) := by decide +kernel
