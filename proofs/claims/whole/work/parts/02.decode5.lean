theorem dX9_better_81 : decode cX9_better 81 = .ok (.getfield 13, 3) := by decide +kernel
theorem dX9_better_84 : decode cX9_better 84 = .ok (.iload_n 1, 1) := by decide +kernel
theorem dX9_better_85 : decode cX9_better 85 = .ok (.iconst 0, 1) := by decide +kernel
theorem dX9_better_86 : decode cX9_better 86 = .ok (.invokestatic 44, 3) := by decide +kernel
theorem dX9_better_89 : decode cX9_better 89 = .ok (.iload 7, 2) := by decide +kernel
theorem dX9_better_91 : decode cX9_better 91 = .ok (.iastore, 1) := by decide +kernel
theorem dX9_better_92 : decode cX9_better 92 = .ok (.aload_n 0, 1) := by decide +kernel
theorem dX9_better_93 : decode cX9_better 93 = .ok (.getfield 13, 3) := by decide +kernel
theorem dX9_better_96 : decode cX9_better 96 = .ok (.iload_n 2, 1) := by decide +kernel
theorem dX9_better_97 : decode cX9_better 97 = .ok (.invokestatic 123, 3) := by decide +kernel
theorem dX9_better_100 : decode cX9_better 100 = .ok (.aload_n 0, 1) := by decide +kernel
theorem dX9_better_101 : decode cX9_better 101 = .ok (.getfield 13, 3) := by decide +kernel
theorem dX9_better_104 : decode cX9_better 104 = .ok (.invokestatic 167, 3) := by decide +kernel
theorem dX9_better_107 : decode cX9_better 107 = .ok (.iload 6, 2) := by decide +kernel
theorem dX9_better_109 : decode cX9_better 109 = .ok (.if_icmp .lt 6, 3) := by decide +kernel
theorem dX9_better_112 : decode cX9_better 112 = .ok (.goto 16, 3) := by decide +kernel
theorem dX9_better_115 : decode cX9_better 115 = .ok (.iload 7, 2) := by decide +kernel
theorem dX9_better_117 : decode cX9_better 117 = .ok (.istore 5, 2) := by decide +kernel
theorem dX9_better_119 : decode cX9_better 119 = .ok (.aload_n 0, 1) := by decide +kernel
theorem dX9_better_120 : decode cX9_better 120 = .ok (.getfield 13, 3) := by decide +kernel
theorem dX9_better_123 : decode cX9_better 123 = .ok (.invokestatic 167, 3) := by decide +kernel
theorem dX9_better_126 : decode cX9_better 126 = .ok (.istore 6, 2) := by decide +kernel
theorem dX9_better_128 : decode cX9_better 128 = .ok (.iinc 7 1, 3) := by decide +kernel
theorem dX9_better_131 : decode cX9_better 131 = .ok (.goto (-69), 3) := by decide +kernel
theorem dX9_better_134 : decode cX9_better 134 = .ok (.iload_n 3, 1) := by decide +kernel
theorem dX9_better_135 : decode cX9_better 135 = .ok (.ifCond .ne 8, 3) := by decide +kernel
theorem dX9_better_138 : decode cX9_better 138 = .ok (.iload 5, 2) := by decide +kernel
theorem dX9_better_140 : decode cX9_better 140 = .ok (.goto 5, 3) := by decide +kernel
theorem dX9_better_143 : decode cX9_better 143 = .ok (.iload 6, 2) := by decide +kernel
theorem dX9_better_145 : decode cX9_better 145 = .ok (.ireturn, 1) := by decide +kernel
theorem dX9_doesNobodyFall_0 : decode cX9_doesNobodyFall 0 = .ok (.iconst 0, 1) := by decide +kernel
theorem dX9_doesNobodyFall_1 : decode cX9_doesNobodyFall 1 = .ok (.istore_n 2, 1) := by decide +kernel
theorem dX9_doesNobodyFall_2 : decode cX9_doesNobodyFall 2 = .ok (.iload_n 2, 1) := by decide +kernel
theorem dX9_doesNobodyFall_3 : decode cX9_doesNobodyFall 3 = .ok (.iload_n 1, 1) := by decide +kernel
theorem dX9_doesNobodyFall_4 : decode cX9_doesNobodyFall 4 = .ok (.if_icmp .gt 52, 3) := by decide +kernel
theorem dX9_doesNobodyFall_7 : decode cX9_doesNobodyFall 7 = .ok (.iconst 0, 1) := by decide +kernel
theorem dX9_doesNobodyFall_8 : decode cX9_doesNobodyFall 8 = .ok (.istore_n 3, 1) := by decide +kernel
theorem dX9_doesNobodyFall_9 : decode cX9_doesNobodyFall 9 = .ok (.iload_n 3, 1) := by decide +kernel
theorem dX9_doesNobodyFall_10 : decode cX9_doesNobodyFall 10 = .ok (.aload_n 0, 1) := by decide +kernel
theorem dX9_doesNobodyFall_11 : decode cX9_doesNobodyFall 11 = .ok (.getfield 13, 3) := by decide +kernel
theorem dX9_doesNobodyFall_14 : decode cX9_doesNobodyFall 14 = .ok (.iconst 0, 1) := by decide +kernel
theorem dX9_doesNobodyFall_15 : decode cX9_doesNobodyFall 15 = .ok (.iaload, 1) := by decide +kernel
theorem dX9_doesNobodyFall_16 : decode cX9_doesNobodyFall 16 = .ok (.if_icmp .ge 26, 3) := by decide +kernel
theorem dX9_doesNobodyFall_19 : decode cX9_doesNobodyFall 19 = .ok (.aload_n 0, 1) := by decide +kernel
theorem dX9_doesNobodyFall_20 : decode cX9_doesNobodyFall 20 = .ok (.getfield 13, 3) := by decide +kernel
theorem dX9_doesNobodyFall_23 : decode cX9_doesNobodyFall 23 = .ok (.iload_n 3, 1) := by decide +kernel
theorem dX9_doesNobodyFall_24 : decode cX9_doesNobodyFall 24 = .ok (.iconst 3, 1) := by decide +kernel
theorem dX9_doesNobodyFall_25 : decode cX9_doesNobodyFall 25 = .ok (.invokestatic 44, 3) := by decide +kernel
theorem dX9_doesNobodyFall_28 : decode cX9_doesNobodyFall 28 = .ok (.iaload, 1) := by decide +kernel
theorem dX9_doesNobodyFall_29 : decode cX9_doesNobodyFall 29 = .ok (.bipush 20, 2) := by decide +kernel
theorem dX9_doesNobodyFall_31 : decode cX9_doesNobodyFall 31 = .ok (.if_icmp .lt 5, 3) := by decide +kernel
theorem dX9_doesNobodyFall_34 : decode cX9_doesNobodyFall 34 = .ok (.iconst 0, 1) := by decide +kernel
theorem dX9_doesNobodyFall_35 : decode cX9_doesNobodyFall 35 = .ok (.ireturn, 1) := by decide +kernel
theorem dX9_doesNobodyFall_36 : decode cX9_doesNobodyFall 36 = .ok (.iinc 3 1, 3) := by decide +kernel
theorem dX9_doesNobodyFall_39 : decode cX9_doesNobodyFall 39 = .ok (.goto (-30), 3) := by decide +kernel
theorem dX9_doesNobodyFall_42 : decode cX9_doesNobodyFall 42 = .ok (.aload_n 0, 1) := by decide +kernel
theorem dX9_doesNobodyFall_43 : decode cX9_doesNobodyFall 43 = .ok (.getfield 13, 3) := by decide +kernel
theorem dX9_doesNobodyFall_46 : decode cX9_doesNobodyFall 46 = .ok (.iconst 0, 1) := by decide +kernel
theorem dX9_doesNobodyFall_47 : decode cX9_doesNobodyFall 47 = .ok (.invokestatic 89, 3) := by decide +kernel
theorem dX9_doesNobodyFall_50 : decode cX9_doesNobodyFall 50 = .ok (.iinc 2 1, 3) := by decide +kernel
theorem dX9_doesNobodyFall_53 : decode cX9_doesNobodyFall 53 = .ok (.goto (-51), 3) := by decide +kernel
theorem dX9_doesNobodyFall_56 : decode cX9_doesNobodyFall 56 = .ok (.iconst 1, 1) := by decide +kernel
theorem dX9_doesNobodyFall_57 : decode cX9_doesNobodyFall 57 = .ok (.ireturn, 1) := by decide +kernel
theorem dX9_fewest_0 : decode cX9_fewest 0 = .ok (.iload_n 1, 1) := by decide +kernel
theorem dX9_fewest_1 : decode cX9_fewest 1 = .ok (.iconst 0, 1) := by decide +kernel
theorem dX9_fewest_2 : decode cX9_fewest 2 = .ok (.bipush 20, 2) := by decide +kernel
theorem dX9_fewest_4 : decode cX9_fewest 4 = .ok (.invokestatic 136, 3) := by decide +kernel
theorem dX9_fewest_7 : decode cX9_fewest 7 = .ok (.istore_n 2, 1) := by decide +kernel
theorem dX9_fewest_8 : decode cX9_fewest 8 = .ok (.iload_n 2, 1) := by decide +kernel
theorem dX9_fewest_9 : decode cX9_fewest 9 = .ok (.ifCond .eq 9, 3) := by decide +kernel
theorem dX9_fewest_12 : decode cX9_fewest 12 = .ok (.aload_n 0, 1) := by decide +kernel
theorem dX9_fewest_13 : decode cX9_fewest 13 = .ok (.iload_n 2, 1) := by decide +kernel
theorem dX9_fewest_14 : decode cX9_fewest 14 = .ok (.invokevirtual 36, 3) := by decide +kernel
theorem dX9_fewest_17 : decode cX9_fewest 17 = .ok (.ireturn, 1) := by decide +kernel
theorem dX9_fewest_18 : decode cX9_fewest 18 = .ok (.bipush (-9), 2) := by decide +kernel
theorem dX9_fewest_20 : decode cX9_fewest 20 = .ok (.istore_n 3, 1) := by decide +kernel
theorem dX9_fewest_21 : decode cX9_fewest 21 = .ok (.iconst 0, 1) := by decide +kernel
theorem dX9_fewest_22 : decode cX9_fewest 22 = .ok (.istore 4, 2) := by decide +kernel
theorem dX9_fewest_24 : decode cX9_fewest 24 = .ok (.iload 4, 2) := by decide +kernel
theorem dX9_fewest_26 : decode cX9_fewest 26 = .ok (.iconst 1, 1) := by decide +kernel
theorem dX9_fewest_27 : decode cX9_fewest 27 = .ok (.aload_n 0, 1) := by decide +kernel
theorem dX9_fewest_28 : decode cX9_fewest 28 = .ok (.getfield 9, 3) := by decide +kernel
theorem dX9_fewest_31 : decode cX9_fewest 31 = .ok (.iconst 0, 1) := by decide +kernel
theorem dX9_fewest_32 : decode cX9_fewest 32 = .ok (.iaload, 1) := by decide +kernel
theorem dX9_fewest_33 : decode cX9_fewest 33 = .ok (.ishl, 1) := by decide +kernel
theorem dX9_fewest_34 : decode cX9_fewest 34 = .ok (.if_icmp .ge 93, 3) := by decide +kernel
theorem dX9_fewest_37 : decode cX9_fewest 37 = .ok (.iload_n 3, 1) := by decide +kernel
theorem dX9_fewest_38 : decode cX9_fewest 38 = .ok (.ifCond .lt 18, 3) := by decide +kernel
theorem dX9_fewest_41 : decode cX9_fewest 41 = .ok (.iload 4, 2) := by decide +kernel
theorem dX9_fewest_43 : decode cX9_fewest 43 = .ok (.invokestatic 52, 3) := by decide +kernel
theorem dX9_fewest_46 : decode cX9_fewest 46 = .ok (.iload_n 3, 1) := by decide +kernel
theorem dX9_fewest_47 : decode cX9_fewest 47 = .ok (.invokestatic 52, 3) := by decide +kernel
theorem dX9_fewest_50 : decode cX9_fewest 50 = .ok (.if_icmp .lt 6, 3) := by decide +kernel
theorem dX9_fewest_53 : decode cX9_fewest 53 = .ok (.goto 68, 3) := by decide +kernel
theorem dX9_fewest_56 : decode cX9_fewest 56 = .ok (.aload_n 0, 1) := by decide +kernel
theorem dX9_fewest_57 : decode cX9_fewest 57 = .ok (.getfield 9, 3) := by decide +kernel
theorem dX9_fewest_60 : decode cX9_fewest 60 = .ok (.aload_n 0, 1) := by decide +kernel
theorem dX9_fewest_61 : decode cX9_fewest 61 = .ok (.getfield 13, 3) := by decide +kernel
theorem dX9_fewest_64 : decode cX9_fewest 64 = .ok (.invokestatic 129, 3) := by decide +kernel
theorem dX9_fewest_67 : decode cX9_fewest 67 = .ok (.iconst 0, 1) := by decide +kernel
theorem dX9_fewest_68 : decode cX9_fewest 68 = .ok (.istore 5, 2) := by decide +kernel
theorem dX9_fewest_70 : decode cX9_fewest 70 = .ok (.iload 5, 2) := by decide +kernel
theorem dX9_fewest_72 : decode cX9_fewest 72 = .ok (.aload_n 0, 1) := by decide +kernel
theorem dX9_fewest_73 : decode cX9_fewest 73 = .ok (.getfield 9, 3) := by decide +kernel
theorem dX9_fewest_76 : decode cX9_fewest 76 = .ok (.iconst 0, 1) := by decide +kernel
theorem dX9_fewest_77 : decode cX9_fewest 77 = .ok (.iaload, 1) := by decide +kernel
theorem dX9_fewest_78 : decode cX9_fewest 78 = .ok (.if_icmp .ge 32, 3) := by decide +kernel
theorem dX9_fewest_81 : decode cX9_fewest 81 = .ok (.iload 4, 2) := by decide +kernel
theorem dX9_fewest_83 : decode cX9_fewest 83 = .ok (.iload 5, 2) := by decide +kernel
theorem dX9_fewest_85 : decode cX9_fewest 85 = .ok (.invokestatic 65, 3) := by decide +kernel
theorem dX9_fewest_88 : decode cX9_fewest 88 = .ok (.ifCond .eq 16, 3) := by decide +kernel
theorem dX9_fewest_91 : decode cX9_fewest 91 = .ok (.aload_n 0, 1) := by decide +kernel
theorem dX9_fewest_92 : decode cX9_fewest 92 = .ok (.getfield 13, 3) := by decide +kernel
theorem dX9_fewest_95 : decode cX9_fewest 95 = .ok (.iload 5, 2) := by decide +kernel
theorem dX9_fewest_97 : decode cX9_fewest 97 = .ok (.iconst 2, 1) := by decide +kernel
theorem dX9_fewest_98 : decode cX9_fewest 98 = .ok (.invokestatic 44, 3) := by decide +kernel
theorem dX9_fewest_101 : decode cX9_fewest 101 = .ok (.bipush 127, 2) := by decide +kernel
theorem dX9_fewest_103 : decode cX9_fewest 103 = .ok (.iastore, 1) := by decide +kernel
theorem dX9_fewest_104 : decode cX9_fewest 104 = .ok (.iinc 5 1, 3) := by decide +kernel
theorem dX9_fewest_107 : decode cX9_fewest 107 = .ok (.goto (-37), 3) := by decide +kernel
theorem dX9_fewest_110 : decode cX9_fewest 110 = .ok (.aload_n 0, 1) := by decide +kernel
theorem dX9_fewest_111 : decode cX9_fewest 111 = .ok (.iload_n 1, 1) := by decide +kernel
theorem dX9_fewest_112 : decode cX9_fewest 112 = .ok (.invokevirtual 173, 3) := by decide +kernel
theorem dX9_fewest_115 : decode cX9_fewest 115 = .ok (.ifCond .eq 6, 3) := by decide +kernel
theorem dX9_fewest_118 : decode cX9_fewest 118 = .ok (.iload 4, 2) := by decide +kernel
theorem dX9_fewest_120 : decode cX9_fewest 120 = .ok (.istore_n 3, 1) := by decide +kernel
theorem dX9_fewest_121 : decode cX9_fewest 121 = .ok (.iinc 4 1, 3) := by decide +kernel
theorem dX9_fewest_124 : decode cX9_fewest 124 = .ok (.goto (-100), 3) := by decide +kernel
theorem dX9_fewest_127 : decode cX9_fewest 127 = .ok (.iload_n 3, 1) := by decide +kernel
theorem dX9_fewest_128 : decode cX9_fewest 128 = .ok (.ireturn, 1) := by decide +kernel
theorem dX9_send_0 : decode cX9_send 0 = .ok (.iload_n 1, 1) := by decide +kernel
theorem dX9_send_1 : decode cX9_send 1 = .ok (.iconst 0, 1) := by decide +kernel
theorem dX9_send_2 : decode cX9_send 2 = .ok (.bipush 30, 2) := by decide +kernel
theorem dX9_send_4 : decode cX9_send 4 = .ok (.invokestatic 136, 3) := by decide +kernel
theorem dX9_send_7 : decode cX9_send 7 = .ok (.istore_n 2, 1) := by decide +kernel
theorem dX9_send_8 : decode cX9_send 8 = .ok (.iload_n 2, 1) := by decide +kernel
theorem dX9_send_9 : decode cX9_send 9 = .ok (.ifCond .eq 9, 3) := by decide +kernel
theorem dX9_send_12 : decode cX9_send 12 = .ok (.aload_n 0, 1) := by decide +kernel
theorem dX9_send_13 : decode cX9_send 13 = .ok (.iload_n 2, 1) := by decide +kernel
theorem dX9_send_14 : decode cX9_send 14 = .ok (.invokevirtual 36, 3) := by decide +kernel
theorem dX9_send_17 : decode cX9_send 17 = .ok (.ireturn, 1) := by decide +kernel
theorem dX9_send_18 : decode cX9_send 18 = .ok (.aload_n 0, 1) := by decide +kernel
theorem dX9_send_19 : decode cX9_send 19 = .ok (.iload_n 1, 1) := by decide +kernel
theorem dX9_send_20 : decode cX9_send 20 = .ok (.invokevirtual 140, 3) := by decide +kernel
theorem dX9_send_23 : decode cX9_send 23 = .ok (.aload_n 0, 1) := by decide +kernel
theorem dX9_send_24 : decode cX9_send 24 = .ok (.getfield 13, 3) := by decide +kernel
theorem dX9_send_27 : decode cX9_send 27 = .ok (.iconst 2, 1) := by decide +kernel
theorem dX9_send_28 : decode cX9_send 28 = .ok (.iaload, 1) := by decide +kernel
theorem dX9_send_29 : decode cX9_send 29 = .ok (.istore_n 3, 1) := by decide +kernel
theorem dX9_send_30 : decode cX9_send 30 = .ok (.bipush (-9), 2) := by decide +kernel
theorem dX9_send_32 : decode cX9_send 32 = .ok (.istore 4, 2) := by decide +kernel
theorem dX9_send_34 : decode cX9_send 34 = .ok (.iconst 0, 1) := by decide +kernel
theorem dX9_send_35 : decode cX9_send 35 = .ok (.istore 5, 2) := by decide +kernel
theorem dX9_send_37 : decode cX9_send 37 = .ok (.iload 5, 2) := by decide +kernel
theorem dX9_send_39 : decode cX9_send 39 = .ok (.aload_n 0, 1) := by decide +kernel
theorem dX9_send_40 : decode cX9_send 40 = .ok (.getfield 9, 3) := by decide +kernel
theorem dX9_send_43 : decode cX9_send 43 = .ok (.iconst 0, 1) := by decide +kernel
theorem dX9_send_44 : decode cX9_send 44 = .ok (.iaload, 1) := by decide +kernel
theorem dX9_send_45 : decode cX9_send 45 = .ok (.if_icmp .ge 65, 3) := by decide +kernel
theorem dX9_send_48 : decode cX9_send 48 = .ok (.aload_n 0, 1) := by decide +kernel
theorem dX9_send_49 : decode cX9_send 49 = .ok (.getfield 9, 3) := by decide +kernel
theorem dX9_send_52 : decode cX9_send 52 = .ok (.aload_n 0, 1) := by decide +kernel
theorem dX9_send_53 : decode cX9_send 53 = .ok (.getfield 13, 3) := by decide +kernel
theorem dX9_send_56 : decode cX9_send 56 = .ok (.invokestatic 129, 3) := by decide +kernel
theorem dX9_send_59 : decode cX9_send 59 = .ok (.aload_n 0, 1) := by decide +kernel
theorem dX9_send_60 : decode cX9_send 60 = .ok (.getfield 13, 3) := by decide +kernel
theorem dX9_send_63 : decode cX9_send 63 = .ok (.iload 5, 2) := by decide +kernel
theorem dX9_send_65 : decode cX9_send 65 = .ok (.iconst 2, 1) := by decide +kernel
theorem dX9_send_66 : decode cX9_send 66 = .ok (.invokestatic 44, 3) := by decide +kernel
theorem dX9_send_69 : decode cX9_send 69 = .ok (.bipush 127, 2) := by decide +kernel
theorem dX9_send_71 : decode cX9_send 71 = .ok (.iastore, 1) := by decide +kernel
theorem dX9_send_72 : decode cX9_send 72 = .ok (.aload_n 0, 1) := by decide +kernel
theorem dX9_send_73 : decode cX9_send 73 = .ok (.getfield 13, 3) := by decide +kernel
theorem dX9_send_76 : decode cX9_send 76 = .ok (.iload_n 1, 1) := by decide +kernel
theorem dX9_send_77 : decode cX9_send 77 = .ok (.invokestatic 123, 3) := by decide +kernel
theorem dX9_send_80 : decode cX9_send 80 = .ok (.aload_n 0, 1) := by decide +kernel
theorem dX9_send_81 : decode cX9_send 81 = .ok (.getfield 13, 3) := by decide +kernel
theorem dX9_send_84 : decode cX9_send 84 = .ok (.iconst 2, 1) := by decide +kernel
theorem dX9_send_85 : decode cX9_send 85 = .ok (.iaload, 1) := by decide +kernel
theorem dX9_send_86 : decode cX9_send 86 = .ok (.iload_n 3, 1) := by decide +kernel
theorem dX9_send_87 : decode cX9_send 87 = .ok (.if_icmp .lt 6, 3) := by decide +kernel
theorem dX9_send_90 : decode cX9_send 90 = .ok (.goto 14, 3) := by decide +kernel
theorem dX9_send_93 : decode cX9_send 93 = .ok (.iload 5, 2) := by decide +kernel
theorem dX9_send_95 : decode cX9_send 95 = .ok (.istore 4, 2) := by decide +kernel
theorem dX9_send_97 : decode cX9_send 97 = .ok (.aload_n 0, 1) := by decide +kernel
theorem dX9_send_98 : decode cX9_send 98 = .ok (.getfield 13, 3) := by decide +kernel
theorem dX9_send_101 : decode cX9_send 101 = .ok (.iconst 2, 1) := by decide +kernel
theorem dX9_send_102 : decode cX9_send 102 = .ok (.iaload, 1) := by decide +kernel
theorem dX9_send_103 : decode cX9_send 103 = .ok (.istore_n 3, 1) := by decide +kernel
theorem dX9_send_104 : decode cX9_send 104 = .ok (.iinc 5 1, 3) := by decide +kernel
theorem dX9_send_107 : decode cX9_send 107 = .ok (.goto (-70), 3) := by decide +kernel
theorem dX9_send_110 : decode cX9_send 110 = .ok (.iload 4, 2) := by decide +kernel
theorem dX9_send_112 : decode cX9_send 112 = .ok (.ireturn, 1) := by decide +kernel
theorem dX9_holiday_0 : decode cX9_holiday 0 = .ok (.iload_n 1, 1) := by decide +kernel
theorem dX9_holiday_1 : decode cX9_holiday 1 = .ok (.iconst 0, 1) := by decide +kernel
theorem dX9_holiday_2 : decode cX9_holiday 2 = .ok (.bipush 30, 2) := by decide +kernel
theorem dX9_holiday_4 : decode cX9_holiday 4 = .ok (.invokestatic 136, 3) := by decide +kernel
theorem dX9_holiday_7 : decode cX9_holiday 7 = .ok (.istore_n 3, 1) := by decide +kernel
theorem dX9_holiday_8 : decode cX9_holiday 8 = .ok (.iload_n 3, 1) := by decide +kernel
theorem dX9_holiday_9 : decode cX9_holiday 9 = .ok (.ifCond .ne 15, 3) := by decide +kernel
theorem dX9_holiday_12 : decode cX9_holiday 12 = .ok (.iload_n 2, 1) := by decide +kernel
theorem dX9_holiday_13 : decode cX9_holiday 13 = .ok (.iconst 0, 1) := by decide +kernel
theorem dX9_holiday_14 : decode cX9_holiday 14 = .ok (.iconst 1, 1) := by decide +kernel
theorem dX9_holiday_15 : decode cX9_holiday 15 = .ok (.invokestatic 40, 3) := by decide +kernel
theorem dX9_holiday_18 : decode cX9_holiday 18 = .ok (.ifCond .ne 6, 3) := by decide +kernel
theorem dX9_holiday_21 : decode cX9_holiday 21 = .ok (.bipush (-2), 2) := by decide +kernel
theorem dX9_holiday_23 : decode cX9_holiday 23 = .ok (.istore_n 3, 1) := by decide +kernel
theorem dX9_holiday_24 : decode cX9_holiday 24 = .ok (.iload_n 3, 1) := by decide +kernel
theorem dX9_holiday_25 : decode cX9_holiday 25 = .ok (.ifCond .eq 9, 3) := by decide +kernel
theorem dX9_holiday_28 : decode cX9_holiday 28 = .ok (.aload_n 0, 1) := by decide +kernel
theorem dX9_holiday_29 : decode cX9_holiday 29 = .ok (.iload_n 3, 1) := by decide +kernel
theorem dX9_holiday_30 : decode cX9_holiday 30 = .ok (.invokevirtual 36, 3) := by decide +kernel
theorem dX9_holiday_33 : decode cX9_holiday 33 = .ok (.ireturn, 1) := by decide +kernel
theorem dX9_holiday_34 : decode cX9_holiday 34 = .ok (.iconst 0, 1) := by decide +kernel
theorem dX9_holiday_35 : decode cX9_holiday 35 = .ok (.istore 4, 2) := by decide +kernel
theorem dX9_holiday_37 : decode cX9_holiday 37 = .ok (.ldc 147, 2) := by decide +kernel
theorem dX9_holiday_39 : decode cX9_holiday 39 = .ok (.istore 5, 2) := by decide +kernel
theorem dX9_holiday_41 : decode cX9_holiday 41 = .ok (.iconst 0, 1) := by decide +kernel
theorem dX9_holiday_42 : decode cX9_holiday 42 = .ok (.istore 6, 2) := by decide +kernel
theorem dX9_holiday_44 : decode cX9_holiday 44 = .ok (.iload 6, 2) := by decide +kernel
theorem dX9_holiday_46 : decode cX9_holiday 46 = .ok (.bipush 7, 2) := by decide +kernel
theorem dX9_holiday_48 : decode cX9_holiday 48 = .ok (.if_icmp .ge 94, 3) := by decide +kernel
theorem dX9_holiday_51 : decode cX9_holiday 51 = .ok (.aload_n 0, 1) := by decide +kernel
theorem dX9_holiday_52 : decode cX9_holiday 52 = .ok (.getfield 9, 3) := by decide +kernel
theorem dX9_holiday_55 : decode cX9_holiday 55 = .ok (.aload_n 0, 1) := by decide +kernel
theorem dX9_holiday_56 : decode cX9_holiday 56 = .ok (.getfield 13, 3) := by decide +kernel
theorem dX9_holiday_59 : decode cX9_holiday 59 = .ok (.invokestatic 129, 3) := by decide +kernel
theorem dX9_holiday_62 : decode cX9_holiday 62 = .ok (.iconst 0, 1) := by decide +kernel
theorem dX9_holiday_63 : decode cX9_holiday 63 = .ok (.istore 7, 2) := by decide +kernel
theorem dX9_holiday_65 : decode cX9_holiday 65 = .ok (.iload 7, 2) := by decide +kernel
theorem dX9_holiday_67 : decode cX9_holiday 67 = .ok (.aload_n 0, 1) := by decide +kernel
theorem dX9_holiday_68 : decode cX9_holiday 68 = .ok (.getfield 9, 3) := by decide +kernel
theorem dX9_holiday_71 : decode cX9_holiday 71 = .ok (.iconst 0, 1) := by decide +kernel
theorem dX9_holiday_72 : decode cX9_holiday 72 = .ok (.iaload, 1) := by decide +kernel
theorem dX9_holiday_73 : decode cX9_holiday 73 = .ok (.if_icmp .ge 27, 3) := by decide +kernel
theorem dX9_holiday_76 : decode cX9_holiday 76 = .ok (.aload_n 0, 1) := by decide +kernel
theorem dX9_holiday_77 : decode cX9_holiday 77 = .ok (.getfield 13, 3) := by decide +kernel
theorem dX9_holiday_80 : decode cX9_holiday 80 = .ok (.iload 7, 2) := by decide +kernel
theorem dX9_holiday_82 : decode cX9_holiday 82 = .ok (.iconst 2, 1) := by decide +kernel
theorem dX9_holiday_83 : decode cX9_holiday 83 = .ok (.invokestatic 44, 3) := by decide +kernel
theorem dX9_holiday_86 : decode cX9_holiday 86 = .ok (.dup2, 1) := by decide +kernel
theorem dX9_holiday_87 : decode cX9_holiday 87 = .ok (.iaload, 1) := by decide +kernel
theorem dX9_holiday_88 : decode cX9_holiday 88 = .ok (.iconst 1, 1) := by decide +kernel
theorem dX9_holiday_89 : decode cX9_holiday 89 = .ok (.iload 6, 2) := by decide +kernel
theorem dX9_holiday_91 : decode cX9_holiday 91 = .ok (.ishl, 1) := by decide +kernel
theorem dX9_holiday_92 : decode cX9_holiday 92 = .ok (.ior, 1) := by decide +kernel
theorem dX9_holiday_93 : decode cX9_holiday 93 = .ok (.iastore, 1) := by decide +kernel
theorem dX9_holiday_94 : decode cX9_holiday 94 = .ok (.iinc 7 1, 3) := by decide +kernel
theorem dX9_holiday_97 : decode cX9_holiday 97 = .ok (.goto (-32), 3) := by decide +kernel
theorem dX9_holiday_100 : decode cX9_holiday 100 = .ok (.aload_n 0, 1) := by decide +kernel
theorem dX9_holiday_101 : decode cX9_holiday 101 = .ok (.getfield 13, 3) := by decide +kernel
theorem dX9_holiday_104 : decode cX9_holiday 104 = .ok (.iload_n 1, 1) := by decide +kernel
theorem dX9_holiday_105 : decode cX9_holiday 105 = .ok (.invokestatic 123, 3) := by decide +kernel
theorem dX9_holiday_108 : decode cX9_holiday 108 = .ok (.aload_n 0, 1) := by decide +kernel
theorem dX9_holiday_109 : decode cX9_holiday 109 = .ok (.getfield 13, 3) := by decide +kernel
theorem dX9_holiday_112 : decode cX9_holiday 112 = .ok (.invokestatic 167, 3) := by decide +kernel
theorem dX9_holiday_115 : decode cX9_holiday 115 = .ok (.iload 5, 2) := by decide +kernel
theorem dX9_holiday_117 : decode cX9_holiday 117 = .ok (.if_icmp .lt 6, 3) := by decide +kernel
theorem dX9_holiday_120 : decode cX9_holiday 120 = .ok (.goto 16, 3) := by decide +kernel
theorem dX9_holiday_123 : decode cX9_holiday 123 = .ok (.iload 6, 2) := by decide +kernel
theorem dX9_holiday_125 : decode cX9_holiday 125 = .ok (.istore 4, 2) := by decide +kernel
theorem dX9_holiday_127 : decode cX9_holiday 127 = .ok (.aload_n 0, 1) := by decide +kernel
theorem dX9_holiday_128 : decode cX9_holiday 128 = .ok (.getfield 13, 3) := by decide +kernel
theorem dX9_holiday_131 : decode cX9_holiday 131 = .ok (.invokestatic 167, 3) := by decide +kernel
theorem dX9_holiday_134 : decode cX9_holiday 134 = .ok (.istore 5, 2) := by decide +kernel
theorem dX9_holiday_136 : decode cX9_holiday 136 = .ok (.iinc 6 1, 3) := by decide +kernel
theorem dX9_holiday_139 : decode cX9_holiday 139 = .ok (.goto (-95), 3) := by decide +kernel
theorem dX9_holiday_142 : decode cX9_holiday 142 = .ok (.iload_n 2, 1) := by decide +kernel
theorem dX9_holiday_143 : decode cX9_holiday 143 = .ok (.ifCond .ne 8, 3) := by decide +kernel
theorem dX9_holiday_146 : decode cX9_holiday 146 = .ok (.iload 4, 2) := by decide +kernel
theorem dX9_holiday_148 : decode cX9_holiday 148 = .ok (.goto 5, 3) := by decide +kernel
theorem dX9_holiday_151 : decode cX9_holiday 151 = .ok (.iload 5, 2) := by decide +kernel
theorem dX9_holiday_153 : decode cX9_holiday 153 = .ok (.ireturn, 1) := by decide +kernel
theorem dX9_costBy_0 : decode cX9_costBy 0 = .ok (.aload_n 0, 1) := by decide +kernel
theorem dX9_costBy_1 : decode cX9_costBy 1 = .ok (.getfield 9, 3) := by decide +kernel
theorem dX9_costBy_4 : decode cX9_costBy 4 = .ok (.aload_n 0, 1) := by decide +kernel
theorem dX9_costBy_5 : decode cX9_costBy 5 = .ok (.getfield 13, 3) := by decide +kernel
theorem dX9_costBy_8 : decode cX9_costBy 8 = .ok (.invokestatic 129, 3) := by decide +kernel
theorem dX9_costBy_11 : decode cX9_costBy 11 = .ok (.iconst 0, 1) := by decide +kernel
theorem dX9_costBy_12 : decode cX9_costBy 12 = .ok (.istore 7, 2) := by decide +kernel
theorem dX9_costBy_14 : decode cX9_costBy 14 = .ok (.iload 7, 2) := by decide +kernel
theorem dX9_costBy_16 : decode cX9_costBy 16 = .ok (.iload 6, 2) := by decide +kernel
theorem dX9_costBy_18 : decode cX9_costBy 18 = .ok (.if_icmp .ge 25, 3) := by decide +kernel
theorem dX9_costBy_21 : decode cX9_costBy 21 = .ok (.aload_n 0, 1) := by decide +kernel
theorem dX9_costBy_22 : decode cX9_costBy 22 = .ok (.getfield 13, 3) := by decide +kernel
theorem dX9_costBy_25 : decode cX9_costBy 25 = .ok (.iload_n 3, 1) := by decide +kernel
theorem dX9_costBy_26 : decode cX9_costBy 26 = .ok (.iload_n 2, 1) := by decide +kernel
theorem dX9_costBy_27 : decode cX9_costBy 27 = .ok (.ishl, 1) := by decide +kernel
theorem dX9_costBy_28 : decode cX9_costBy 28 = .ok (.iload 5, 2) := by decide +kernel
theorem dX9_costBy_30 : decode cX9_costBy 30 = .ok (.iload 4, 2) := by decide +kernel
theorem dX9_costBy_32 : decode cX9_costBy 32 = .ok (.ishl, 1) := by decide +kernel
theorem dX9_costBy_33 : decode cX9_costBy 33 = .ok (.ior, 1) := by decide +kernel
theorem dX9_costBy_34 : decode cX9_costBy 34 = .ok (.invokestatic 89, 3) := by decide +kernel
theorem dX9_costBy_37 : decode cX9_costBy 37 = .ok (.iinc 7 1, 3) := by decide +kernel
theorem dX9_costBy_40 : decode cX9_costBy 40 = .ok (.goto (-26), 3) := by decide +kernel
theorem dX9_costBy_43 : decode cX9_costBy 43 = .ok (.aload_n 0, 1) := by decide +kernel
theorem dX9_costBy_44 : decode cX9_costBy 44 = .ok (.getfield 13, 3) := by decide +kernel
theorem dX9_costBy_47 : decode cX9_costBy 47 = .ok (.iload_n 1, 1) := by decide +kernel
theorem dX9_costBy_48 : decode cX9_costBy 48 = .ok (.iconst 3, 1) := by decide +kernel
theorem dX9_costBy_49 : decode cX9_costBy 49 = .ok (.invokestatic 44, 3) := by decide +kernel
theorem dX9_costBy_52 : decode cX9_costBy 52 = .ok (.iaload, 1) := by decide +kernel
theorem dX9_costBy_53 : decode cX9_costBy 53 = .ok (.iconst 2, 1) := by decide +kernel
theorem dX9_costBy_54 : decode cX9_costBy 54 = .ok (.iload_n 1, 1) := by decide +kernel
theorem dX9_costBy_55 : decode cX9_costBy 55 = .ok (.iload_n 2, 1) := by decide +kernel
theorem dX9_costBy_56 : decode cX9_costBy 56 = .ok (.if_icmp .ne 7, 3) := by decide +kernel
theorem dX9_costBy_59 : decode cX9_costBy 59 = .ok (.iload_n 3, 1) := by decide +kernel
theorem dX9_costBy_60 : decode cX9_costBy 60 = .ok (.goto 5, 3) := by decide +kernel
theorem dX9_costBy_63 : decode cX9_costBy 63 = .ok (.iload 5, 2) := by decide +kernel
theorem dX9_costBy_65 : decode cX9_costBy 65 = .ok (.imul, 1) := by decide +kernel
theorem dX9_costBy_66 : decode cX9_costBy 66 = .ok (.isub, 1) := by decide +kernel
theorem dX9_costBy_67 : decode cX9_costBy 67 = .ok (.ireturn, 1) := by decide +kernel
theorem dX9_two_0 : decode cX9_two 0 = .ok (.aload_n 0, 1) := by decide +kernel
theorem dX9_two_1 : decode cX9_two 1 = .ok (.iload_n 1, 1) := by decide +kernel
theorem dX9_two_2 : decode cX9_two 2 = .ok (.invokevirtual 113, 3) := by decide +kernel
theorem dX9_two_5 : decode cX9_two 5 = .ok (.ifCond .eq 26, 3) := by decide +kernel
theorem dX9_two_8 : decode cX9_two 8 = .ok (.aload_n 0, 1) := by decide +kernel
theorem dX9_two_9 : decode cX9_two 9 = .ok (.iload_n 2, 1) := by decide +kernel
theorem dX9_two_10 : decode cX9_two 10 = .ok (.invokevirtual 113, 3) := by decide +kernel
theorem dX9_two_13 : decode cX9_two 13 = .ok (.ifCond .eq 18, 3) := by decide +kernel
theorem dX9_two_16 : decode cX9_two 16 = .ok (.iload_n 1, 1) := by decide +kernel
theorem dX9_two_17 : decode cX9_two 17 = .ok (.iload_n 2, 1) := by decide +kernel
theorem dX9_two_18 : decode cX9_two 18 = .ok (.if_icmp .eq 13, 3) := by decide +kernel
theorem dX9_two_21 : decode cX9_two 21 = .ok (.iload_n 3, 1) := by decide +kernel
theorem dX9_two_22 : decode cX9_two 22 = .ok (.iconst 0, 1) := by decide +kernel
theorem dX9_two_23 : decode cX9_two 23 = .ok (.bipush 30, 2) := by decide +kernel
theorem dX9_two_25 : decode cX9_two 25 = .ok (.invokestatic 136, 3) := by decide +kernel
theorem dX9_two_28 : decode cX9_two 28 = .ok (.goto 4, 3) := by decide +kernel
theorem dX9_two_31 : decode cX9_two 31 = .ok (.iconst (-1), 1) := by decide +kernel
theorem dX9_two_32 : decode cX9_two 32 = .ok (.istore 4, 2) := by decide +kernel
theorem dX9_two_34 : decode cX9_two 34 = .ok (.iload 4, 2) := by decide +kernel
theorem dX9_two_36 : decode cX9_two 36 = .ok (.ifCond .eq 10, 3) := by decide +kernel
theorem dX9_two_39 : decode cX9_two 39 = .ok (.aload_n 0, 1) := by decide +kernel
theorem dX9_two_40 : decode cX9_two 40 = .ok (.iload 4, 2) := by decide +kernel
theorem dX9_two_42 : decode cX9_two 42 = .ok (.invokevirtual 36, 3) := by decide +kernel
theorem dX9_two_45 : decode cX9_two 45 = .ok (.ireturn, 1) := by decide +kernel
theorem dX9_two_46 : decode cX9_two 46 = .ok (.iconst 0, 1) := by decide +kernel
theorem dX9_two_47 : decode cX9_two 47 = .ok (.istore 5, 2) := by decide +kernel
theorem dX9_two_49 : decode cX9_two 49 = .ok (.iload 5, 2) := by decide +kernel
theorem dX9_two_51 : decode cX9_two 51 = .ok (.iconst 4, 1) := by decide +kernel
theorem dX9_two_52 : decode cX9_two 52 = .ok (.if_icmp .ge 88, 3) := by decide +kernel
theorem dX9_two_55 : decode cX9_two 55 = .ok (.iload 5, 2) := by decide +kernel
theorem dX9_two_57 : decode cX9_two 57 = .ok (.iconst 2, 1) := by decide +kernel
theorem dX9_two_58 : decode cX9_two 58 = .ok (.idiv, 1) := by decide +kernel
theorem dX9_two_59 : decode cX9_two 59 = .ok (.istore 6, 2) := by decide +kernel
theorem dX9_two_61 : decode cX9_two 61 = .ok (.iload 5, 2) := by decide +kernel
theorem dX9_two_63 : decode cX9_two 63 = .ok (.iconst 2, 1) := by decide +kernel
theorem dX9_two_64 : decode cX9_two 64 = .ok (.irem, 1) := by decide +kernel
theorem dX9_two_65 : decode cX9_two 65 = .ok (.istore 7, 2) := by decide +kernel
theorem dX9_two_67 : decode cX9_two 67 = .ok (.aload_n 0, 1) := by decide +kernel
theorem dX9_two_68 : decode cX9_two 68 = .ok (.iload_n 1, 1) := by decide +kernel
theorem dX9_two_69 : decode cX9_two 69 = .ok (.iload_n 1, 1) := by decide +kernel
theorem dX9_two_70 : decode cX9_two 70 = .ok (.iconst 1, 1) := by decide +kernel
theorem dX9_two_71 : decode cX9_two 71 = .ok (.iload 6, 2) := by decide +kernel
theorem dX9_two_73 : decode cX9_two 73 = .ok (.isub, 1) := by decide +kernel
theorem dX9_two_74 : decode cX9_two 74 = .ok (.iload_n 2, 1) := by decide +kernel
theorem dX9_two_75 : decode cX9_two 75 = .ok (.iload 7, 2) := by decide +kernel
theorem dX9_two_77 : decode cX9_two 77 = .ok (.iload_n 3, 1) := by decide +kernel
theorem dX9_two_78 : decode cX9_two 78 = .ok (.invokevirtual 176, 3) := by decide +kernel
theorem dX9_two_81 : decode cX9_two 81 = .ok (.aload_n 0, 1) := by decide +kernel
theorem dX9_two_82 : decode cX9_two 82 = .ok (.iload_n 1, 1) := by decide +kernel
theorem dX9_two_83 : decode cX9_two 83 = .ok (.iload_n 1, 1) := by decide +kernel
theorem dX9_two_84 : decode cX9_two 84 = .ok (.iload 6, 2) := by decide +kernel
theorem dX9_two_86 : decode cX9_two 86 = .ok (.iload_n 2, 1) := by decide +kernel
theorem dX9_two_87 : decode cX9_two 87 = .ok (.iload 7, 2) := by decide +kernel
theorem dX9_two_89 : decode cX9_two 89 = .ok (.iload_n 3, 1) := by decide +kernel
theorem dX9_two_90 : decode cX9_two 90 = .ok (.invokevirtual 176, 3) := by decide +kernel
theorem dX9_two_93 : decode cX9_two 93 = .ok (.if_icmp .lt 41, 3) := by decide +kernel
theorem dX9_two_96 : decode cX9_two 96 = .ok (.aload_n 0, 1) := by decide +kernel
theorem dX9_two_97 : decode cX9_two 97 = .ok (.iload_n 2, 1) := by decide +kernel
theorem dX9_two_98 : decode cX9_two 98 = .ok (.iload_n 1, 1) := by decide +kernel
theorem dX9_two_99 : decode cX9_two 99 = .ok (.iload 6, 2) := by decide +kernel
theorem dX9_two_101 : decode cX9_two 101 = .ok (.iload_n 2, 1) := by decide +kernel
theorem dX9_two_102 : decode cX9_two 102 = .ok (.iconst 1, 1) := by decide +kernel
theorem dX9_two_103 : decode cX9_two 103 = .ok (.iload 7, 2) := by decide +kernel
theorem dX9_two_105 : decode cX9_two 105 = .ok (.isub, 1) := by decide +kernel
theorem dX9_two_106 : decode cX9_two 106 = .ok (.iload_n 3, 1) := by decide +kernel
theorem dX9_two_107 : decode cX9_two 107 = .ok (.invokevirtual 176, 3) := by decide +kernel
theorem dX9_two_110 : decode cX9_two 110 = .ok (.aload_n 0, 1) := by decide +kernel
theorem dX9_two_111 : decode cX9_two 111 = .ok (.iload_n 2, 1) := by decide +kernel
theorem dX9_two_112 : decode cX9_two 112 = .ok (.iload_n 1, 1) := by decide +kernel
theorem dX9_two_113 : decode cX9_two 113 = .ok (.iload 6, 2) := by decide +kernel
theorem dX9_two_115 : decode cX9_two 115 = .ok (.iload_n 2, 1) := by decide +kernel
theorem dX9_two_116 : decode cX9_two 116 = .ok (.iload 7, 2) := by decide +kernel
theorem dX9_two_118 : decode cX9_two 118 = .ok (.iload_n 3, 1) := by decide +kernel
theorem dX9_two_119 : decode cX9_two 119 = .ok (.invokevirtual 176, 3) := by decide +kernel
theorem dX9_two_122 : decode cX9_two 122 = .ok (.if_icmp .lt 12, 3) := by decide +kernel
theorem dX9_two_125 : decode cX9_two 125 = .ok (.bipush 10, 2) := by decide +kernel
theorem dX9_two_127 : decode cX9_two 127 = .ok (.iload 6, 2) := by decide +kernel
theorem dX9_two_129 : decode cX9_two 129 = .ok (.imul, 1) := by decide +kernel
theorem dX9_two_130 : decode cX9_two 130 = .ok (.iload 7, 2) := by decide +kernel
theorem dX9_two_132 : decode cX9_two 132 = .ok (.iadd, 1) := by decide +kernel
theorem dX9_two_133 : decode cX9_two 133 = .ok (.ireturn, 1) := by decide +kernel
theorem dX9_two_134 : decode cX9_two 134 = .ok (.iinc 5 1, 3) := by decide +kernel
theorem dX9_two_137 : decode cX9_two 137 = .ok (.goto (-88), 3) := by decide +kernel
theorem dX9_two_140 : decode cX9_two 140 = .ok (.bipush (-9), 2) := by decide +kernel
theorem dX9_two_142 : decode cX9_two 142 = .ok (.ireturn, 1) := by decide +kernel
theorem dX9_gcd_0 : decode cX9_gcd 0 = .ok (.lload_n 0, 1) := by decide +kernel
theorem dX9_gcd_1 : decode cX9_gcd 1 = .ok (.lstore 4, 2) := by decide +kernel
theorem dX9_gcd_3 : decode cX9_gcd 3 = .ok (.lload_n 2, 1) := by decide +kernel
theorem dX9_gcd_4 : decode cX9_gcd 4 = .ok (.lstore 6, 2) := by decide +kernel
theorem dX9_gcd_6 : decode cX9_gcd 6 = .ok (.lload 6, 2) := by decide +kernel
theorem dX9_gcd_8 : decode cX9_gcd 8 = .ok (.lconst 0, 1) := by decide +kernel
theorem dX9_gcd_9 : decode cX9_gcd 9 = .ok (.lcmp, 1) := by decide +kernel
theorem dX9_gcd_10 : decode cX9_gcd 10 = .ok (.ifCond .eq 21, 3) := by decide +kernel
theorem dX9_gcd_13 : decode cX9_gcd 13 = .ok (.lload 4, 2) := by decide +kernel
theorem dX9_gcd_15 : decode cX9_gcd 15 = .ok (.lload 6, 2) := by decide +kernel
theorem dX9_gcd_17 : decode cX9_gcd 17 = .ok (.lrem, 1) := by decide +kernel
theorem dX9_gcd_18 : decode cX9_gcd 18 = .ok (.lstore 8, 2) := by decide +kernel
theorem dX9_gcd_20 : decode cX9_gcd 20 = .ok (.lload 6, 2) := by decide +kernel
theorem dX9_gcd_22 : decode cX9_gcd 22 = .ok (.lstore 4, 2) := by decide +kernel
theorem dX9_gcd_24 : decode cX9_gcd 24 = .ok (.lload 8, 2) := by decide +kernel
theorem dX9_gcd_26 : decode cX9_gcd 26 = .ok (.lstore 6, 2) := by decide +kernel
theorem dX9_gcd_28 : decode cX9_gcd 28 = .ok (.goto (-22), 3) := by decide +kernel
theorem dX9_gcd_31 : decode cX9_gcd 31 = .ok (.lload 4, 2) := by decide +kernel
theorem dX9_gcd_33 : decode cX9_gcd 33 = .ok (.lreturn, 1) := by decide +kernel
theorem dX9_partOf_0 : decode cX9_partOf 0 = .ok (.lload_n 0, 1) := by decide +kernel
theorem dX9_partOf_1 : decode cX9_partOf 1 = .ok (.lconst 0, 1) := by decide +kernel
theorem dX9_partOf_2 : decode cX9_partOf 2 = .ok (.lcmp, 1) := by decide +kernel
theorem dX9_partOf_3 : decode cX9_partOf 3 = .ok (.ifCond .ne 7, 3) := by decide +kernel
theorem dX9_partOf_6 : decode cX9_partOf 6 = .ok (.iload 4, 2) := by decide +kernel
theorem dX9_partOf_8 : decode cX9_partOf 8 = .ok (.i2l, 1) := by decide +kernel
theorem dX9_partOf_9 : decode cX9_partOf 9 = .ok (.lreturn, 1) := by decide +kernel
theorem dX9_partOf_10 : decode cX9_partOf 10 = .ok (.iload 4, 2) := by decide +kernel
theorem dX9_partOf_12 : decode cX9_partOf 12 = .ok (.ifCond .ne 7, 3) := by decide +kernel
theorem dX9_partOf_15 : decode cX9_partOf 15 = .ok (.lload_n 0, 1) := by decide +kernel
theorem dX9_partOf_16 : decode cX9_partOf 16 = .ok (.goto 4, 3) := by decide +kernel
theorem dX9_partOf_19 : decode cX9_partOf 19 = .ok (.lload_n 2, 1) := by decide +kernel
theorem dX9_partOf_20 : decode cX9_partOf 20 = .ok (.lload_n 0, 1) := by decide +kernel
theorem dX9_partOf_21 : decode cX9_partOf 21 = .ok (.lload_n 2, 1) := by decide +kernel
theorem dX9_partOf_22 : decode cX9_partOf 22 = .ok (.invokestatic 180, 3) := by decide +kernel
theorem dX9_partOf_25 : decode cX9_partOf 25 = .ok (.ldiv, 1) := by decide +kernel
theorem dX9_partOf_26 : decode cX9_partOf 26 = .ok (.lreturn, 1) := by decide +kernel
theorem dX9_fever_0 : decode cX9_fever 0 = .ok (.aload_n 0, 1) := by decide +kernel
theorem dX9_fever_1 : decode cX9_fever 1 = .ok (.iload_n 1, 1) := by decide +kernel
theorem dX9_fever_2 : decode cX9_fever 2 = .ok (.invokevirtual 113, 3) := by decide +kernel
theorem dX9_fever_5 : decode cX9_fever 5 = .ok (.ifCond .ne 9, 3) := by decide +kernel
theorem dX9_fever_8 : decode cX9_fever 8 = .ok (.aload_n 0, 1) := by decide +kernel
theorem dX9_fever_9 : decode cX9_fever 9 = .ok (.iconst (-1), 1) := by decide +kernel
theorem dX9_fever_10 : decode cX9_fever 10 = .ok (.invokevirtual 184, 3) := by decide +kernel
theorem dX9_fever_13 : decode cX9_fever 13 = .ok (.lreturn, 1) := by decide +kernel
theorem dX9_fever_14 : decode cX9_fever 14 = .ok (.iload_n 2, 1) := by decide +kernel
theorem dX9_fever_15 : decode cX9_fever 15 = .ok (.ifCond .lt 13, 3) := by decide +kernel
theorem dX9_fever_18 : decode cX9_fever 18 = .ok (.iload 4, 2) := by decide +kernel
theorem dX9_fever_20 : decode cX9_fever 20 = .ok (.ifCond .lt 8, 3) := by decide +kernel
theorem dX9_fever_23 : decode cX9_fever 23 = .ok (.iload_n 3, 1) := by decide +kernel
theorem dX9_fever_24 : decode cX9_fever 24 = .ok (.iconst 2, 1) := by decide +kernel
theorem dX9_fever_25 : decode cX9_fever 25 = .ok (.if_icmp .ge 10, 3) := by decide +kernel
theorem dX9_fever_28 : decode cX9_fever 28 = .ok (.aload_n 0, 1) := by decide +kernel
theorem dX9_fever_29 : decode cX9_fever 29 = .ok (.bipush (-4), 2) := by decide +kernel
theorem dX9_fever_31 : decode cX9_fever 31 = .ok (.invokevirtual 184, 3) := by decide +kernel
theorem dX9_fever_34 : decode cX9_fever 34 = .ok (.lreturn, 1) := by decide +kernel
theorem dX9_fever_35 : decode cX9_fever 35 = .ok (.iload_n 2, 1) := by decide +kernel
theorem dX9_fever_36 : decode cX9_fever 36 = .ok (.bipush 7, 2) := by decide +kernel
theorem dX9_fever_38 : decode cX9_fever 38 = .ok (.if_icmp .gt 16, 3) := by decide +kernel
theorem dX9_fever_41 : decode cX9_fever 41 = .ok (.iload_n 3, 1) := by decide +kernel
theorem dX9_fever_42 : decode cX9_fever 42 = .ok (.bipush 20, 2) := by decide +kernel
theorem dX9_fever_44 : decode cX9_fever 44 = .ok (.if_icmp .gt 10, 3) := by decide +kernel
theorem dX9_fever_47 : decode cX9_fever 47 = .ok (.iload 4, 2) := by decide +kernel
theorem dX9_fever_49 : decode cX9_fever 49 = .ok (.bipush 30, 2) := by decide +kernel
theorem dX9_fever_51 : decode cX9_fever 51 = .ok (.if_icmp .le 10, 3) := by decide +kernel
theorem dX9_fever_54 : decode cX9_fever 54 = .ok (.aload_n 0, 1) := by decide +kernel
theorem dX9_fever_55 : decode cX9_fever 55 = .ok (.bipush (-6), 2) := by decide +kernel
theorem dX9_fever_57 : decode cX9_fever 57 = .ok (.invokevirtual 184, 3) := by decide +kernel
theorem dX9_fever_60 : decode cX9_fever 60 = .ok (.lreturn, 1) := by decide +kernel
theorem dX9_fever_61 : decode cX9_fever 61 = .ok (.iload 5, 2) := by decide +kernel
theorem dX9_fever_63 : decode cX9_fever 63 = .ok (.iconst 0, 1) := by decide +kernel
theorem dX9_fever_64 : decode cX9_fever 64 = .ok (.iconst 1, 1) := by decide +kernel
theorem dX9_fever_65 : decode cX9_fever 65 = .ok (.invokestatic 40, 3) := by decide +kernel
theorem dX9_fever_68 : decode cX9_fever 68 = .ok (.ifCond .ne 10, 3) := by decide +kernel
theorem dX9_fever_71 : decode cX9_fever 71 = .ok (.aload_n 0, 1) := by decide +kernel
theorem dX9_fever_72 : decode cX9_fever 72 = .ok (.bipush (-2), 2) := by decide +kernel
theorem dX9_fever_74 : decode cX9_fever 74 = .ok (.invokevirtual 184, 3) := by decide +kernel
theorem dX9_fever_77 : decode cX9_fever 77 = .ok (.lreturn, 1) := by decide +kernel
theorem dX9_fever_78 : decode cX9_fever 78 = .ok (.lconst 0, 1) := by decide +kernel
theorem dX9_fever_79 : decode cX9_fever 79 = .ok (.lstore 6, 2) := by decide +kernel
theorem dX9_fever_81 : decode cX9_fever 81 = .ok (.lconst 1, 1) := by decide +kernel
theorem dX9_fever_82 : decode cX9_fever 82 = .ok (.lstore 8, 2) := by decide +kernel
theorem dX9_fever_84 : decode cX9_fever 84 = .ok (.iconst 0, 1) := by decide +kernel
theorem dX9_fever_85 : decode cX9_fever 85 = .ok (.istore 10, 2) := by decide +kernel
theorem dX9_fever_87 : decode cX9_fever 87 = .ok (.iload 10, 2) := by decide +kernel
theorem dX9_fever_89 : decode cX9_fever 89 = .ok (.iload_n 2, 1) := by decide +kernel
theorem dX9_fever_90 : decode cX9_fever 90 = .ok (.if_icmp .ge 16, 3) := by decide +kernel
theorem dX9_fever_93 : decode cX9_fever 93 = .ok (.lload 8, 2) := by decide +kernel
theorem dX9_fever_95 : decode cX9_fever 95 = .ok (.iload_n 3, 1) := by decide +kernel
theorem dX9_fever_96 : decode cX9_fever 96 = .ok (.i2l, 1) := by decide +kernel
theorem dX9_fever_97 : decode cX9_fever 97 = .ok (.lmul, 1) := by decide +kernel
theorem dX9_fever_98 : decode cX9_fever 98 = .ok (.lstore 8, 2) := by decide +kernel
theorem dX9_fever_100 : decode cX9_fever 100 = .ok (.iinc 10 1, 3) := by decide +kernel
theorem dX9_fever_103 : decode cX9_fever 103 = .ok (.goto (-16), 3) := by decide +kernel
theorem dX9_fever_106 : decode cX9_fever 106 = .ok (.iconst 0, 1) := by decide +kernel
theorem dX9_fever_107 : decode cX9_fever 107 = .ok (.istore 10, 2) := by decide +kernel
theorem dX9_fever_109 : decode cX9_fever 109 = .ok (.iload 10, 2) := by decide +kernel
theorem dX9_fever_111 : decode cX9_fever 111 = .ok (.iconst 1, 1) := by decide +kernel
theorem dX9_fever_112 : decode cX9_fever 112 = .ok (.iload_n 2, 1) := by decide +kernel
theorem dX9_fever_113 : decode cX9_fever 113 = .ok (.ishl, 1) := by decide +kernel
theorem dX9_fever_114 : decode cX9_fever 114 = .ok (.if_icmp .ge 109, 3) := by decide +kernel
theorem dX9_fever_117 : decode cX9_fever 117 = .ok (.lconst 1, 1) := by decide +kernel
theorem dX9_fever_118 : decode cX9_fever 118 = .ok (.lstore 11, 2) := by decide +kernel
theorem dX9_fever_120 : decode cX9_fever 120 = .ok (.aload_n 0, 1) := by decide +kernel
theorem dX9_fever_121 : decode cX9_fever 121 = .ok (.getfield 9, 3) := by decide +kernel
theorem dX9_fever_124 : decode cX9_fever 124 = .ok (.aload_n 0, 1) := by decide +kernel
theorem dX9_fever_125 : decode cX9_fever 125 = .ok (.getfield 13, 3) := by decide +kernel
theorem dX9_fever_128 : decode cX9_fever 128 = .ok (.invokestatic 129, 3) := by decide +kernel
theorem dX9_fever_131 : decode cX9_fever 131 = .ok (.iconst 0, 1) := by decide +kernel
theorem dX9_fever_132 : decode cX9_fever 132 = .ok (.istore 13, 2) := by decide +kernel
theorem dX9_fever_134 : decode cX9_fever 134 = .ok (.iload 13, 2) := by decide +kernel
theorem dX9_fever_136 : decode cX9_fever 136 = .ok (.iload_n 2, 1) := by decide +kernel
theorem dX9_fever_137 : decode cX9_fever 137 = .ok (.if_icmp .ge 54, 3) := by decide +kernel
theorem dX9_fever_140 : decode cX9_fever 140 = .ok (.lload 11, 2) := by decide +kernel
theorem dX9_fever_142 : decode cX9_fever 142 = .ok (.iload 10, 2) := by decide +kernel
theorem dX9_fever_144 : decode cX9_fever 144 = .ok (.iload 13, 2) := by decide +kernel
theorem dX9_fever_146 : decode cX9_fever 146 = .ok (.invokestatic 65, 3) := by decide +kernel
theorem dX9_fever_149 : decode cX9_fever 149 = .ok (.ifCond .eq 7, 3) := by decide +kernel
theorem dX9_fever_152 : decode cX9_fever 152 = .ok (.lconst 1, 1) := by decide +kernel
theorem dX9_fever_153 : decode cX9_fever 153 = .ok (.goto 7, 3) := by decide +kernel
theorem dX9_fever_156 : decode cX9_fever 156 = .ok (.iload_n 3, 1) := by decide +kernel
theorem dX9_fever_157 : decode cX9_fever 157 = .ok (.iconst 1, 1) := by decide +kernel
theorem dX9_fever_158 : decode cX9_fever 158 = .ok (.isub, 1) := by decide +kernel
theorem dX9_fever_159 : decode cX9_fever 159 = .ok (.i2l, 1) := by decide +kernel
theorem dX9_fever_160 : decode cX9_fever 160 = .ok (.lmul, 1) := by decide +kernel
theorem dX9_fever_161 : decode cX9_fever 161 = .ok (.lstore 11, 2) := by decide +kernel
theorem dX9_fever_163 : decode cX9_fever 163 = .ok (.aload_n 0, 1) := by decide +kernel
theorem dX9_fever_164 : decode cX9_fever 164 = .ok (.getfield 13, 3) := by decide +kernel
theorem dX9_fever_167 : decode cX9_fever 167 = .ok (.iload 10, 2) := by decide +kernel
theorem dX9_fever_169 : decode cX9_fever 169 = .ok (.iload 13, 2) := by decide +kernel
theorem dX9_fever_171 : decode cX9_fever 171 = .ok (.invokestatic 65, 3) := by decide +kernel
theorem dX9_fever_174 : decode cX9_fever 174 = .ok (.ifCond .eq 7, 3) := by decide +kernel
theorem dX9_fever_177 : decode cX9_fever 177 = .ok (.iconst (-1), 1) := by decide +kernel
theorem dX9_fever_178 : decode cX9_fever 178 = .ok (.goto 4, 3) := by decide +kernel
theorem dX9_fever_181 : decode cX9_fever 181 = .ok (.iconst 0, 1) := by decide +kernel
theorem dX9_fever_182 : decode cX9_fever 182 = .ok (.invokestatic 89, 3) := by decide +kernel
theorem dX9_fever_185 : decode cX9_fever 185 = .ok (.iinc 13 1, 3) := by decide +kernel
theorem dX9_fever_188 : decode cX9_fever 188 = .ok (.goto (-54), 3) := by decide +kernel
theorem dX9_fever_191 : decode cX9_fever 191 = .ok (.lload 6, 2) := by decide +kernel
theorem dX9_fever_193 : decode cX9_fever 193 = .ok (.aload_n 0, 1) := by decide +kernel
theorem dX9_fever_194 : decode cX9_fever 194 = .ok (.getfield 13, 3) := by decide +kernel
theorem dX9_fever_197 : decode cX9_fever 197 = .ok (.iload_n 1, 1) := by decide +kernel
theorem dX9_fever_198 : decode cX9_fever 198 = .ok (.iconst 3, 1) := by decide +kernel
theorem dX9_fever_199 : decode cX9_fever 199 = .ok (.invokestatic 44, 3) := by decide +kernel
theorem dX9_fever_202 : decode cX9_fever 202 = .ok (.iaload, 1) := by decide +kernel
theorem dX9_fever_203 : decode cX9_fever 203 = .ok (.iload 4, 2) := by decide +kernel
theorem dX9_fever_205 : decode cX9_fever 205 = .ok (.if_icmp .lt 8, 3) := by decide +kernel
theorem dX9_fever_208 : decode cX9_fever 208 = .ok (.lload 11, 2) := by decide +kernel
theorem dX9_fever_210 : decode cX9_fever 210 = .ok (.goto 4, 3) := by decide +kernel
theorem dX9_fever_213 : decode cX9_fever 213 = .ok (.lconst 0, 1) := by decide +kernel
theorem dX9_fever_214 : decode cX9_fever 214 = .ok (.ladd, 1) := by decide +kernel
theorem dX9_fever_215 : decode cX9_fever 215 = .ok (.lstore 6, 2) := by decide +kernel
theorem dX9_fever_217 : decode cX9_fever 217 = .ok (.iinc 10 1, 3) := by decide +kernel
theorem dX9_fever_220 : decode cX9_fever 220 = .ok (.goto (-111), 3) := by decide +kernel
theorem dX9_fever_223 : decode cX9_fever 223 = .ok (.lload 6, 2) := by decide +kernel
theorem dX9_fever_225 : decode cX9_fever 225 = .ok (.lload 8, 2) := by decide +kernel
theorem dX9_fever_227 : decode cX9_fever 227 = .ok (.iload 5, 2) := by decide +kernel
theorem dX9_fever_229 : decode cX9_fever 229 = .ok (.invokestatic 188, 3) := by decide +kernel
theorem dX9_fever_232 : decode cX9_fever 232 = .ok (.lreturn, 1) := by decide +kernel
theorem dX9_mean_0 : decode cX9_mean 0 = .ok (.iload_n 1, 1) := by decide +kernel
theorem dX9_mean_1 : decode cX9_mean 1 = .ok (.iconst 0, 1) := by decide +kernel
theorem dX9_mean_2 : decode cX9_mean 2 = .ok (.iconst 1, 1) := by decide +kernel
theorem dX9_mean_3 : decode cX9_mean 3 = .ok (.invokestatic 40, 3) := by decide +kernel
theorem dX9_mean_6 : decode cX9_mean 6 = .ok (.ifCond .eq 25, 3) := by decide +kernel
theorem dX9_mean_9 : decode cX9_mean 9 = .ok (.aload_n 0, 1) := by decide +kernel
theorem dX9_mean_10 : decode cX9_mean 10 = .ok (.getfield 9, 3) := by decide +kernel
theorem dX9_mean_13 : decode cX9_mean 13 = .ok (.invokestatic 167, 3) := by decide +kernel
theorem dX9_mean_16 : decode cX9_mean 16 = .ok (.i2l, 1) := by decide +kernel
theorem dX9_mean_17 : decode cX9_mean 17 = .ok (.aload_n 0, 1) := by decide +kernel
theorem dX9_mean_18 : decode cX9_mean 18 = .ok (.getfield 9, 3) := by decide +kernel
theorem dX9_mean_21 : decode cX9_mean 21 = .ok (.iconst 0, 1) := by decide +kernel
theorem dX9_mean_22 : decode cX9_mean 22 = .ok (.iaload, 1) := by decide +kernel
theorem dX9_mean_23 : decode cX9_mean 23 = .ok (.i2l, 1) := by decide +kernel
theorem dX9_mean_24 : decode cX9_mean 24 = .ok (.iload_n 1, 1) := by decide +kernel
theorem dX9_mean_25 : decode cX9_mean 25 = .ok (.invokestatic 188, 3) := by decide +kernel
theorem dX9_mean_28 : decode cX9_mean 28 = .ok (.goto 9, 3) := by decide +kernel
theorem dX9_mean_31 : decode cX9_mean 31 = .ok (.aload_n 0, 1) := by decide +kernel
theorem dX9_mean_32 : decode cX9_mean 32 = .ok (.bipush (-2), 2) := by decide +kernel
theorem dX9_mean_34 : decode cX9_mean 34 = .ok (.invokevirtual 184, 3) := by decide +kernel
theorem dX9_mean_37 : decode cX9_mean 37 = .ok (.lreturn, 1) := by decide +kernel
theorem dX9_whatIs_0 : decode cX9_whatIs 0 = .ok (.aload_n 0, 1) := by decide +kernel
theorem dX9_whatIs_1 : decode cX9_whatIs 1 = .ok (.iload_n 1, 1) := by decide +kernel
theorem dX9_whatIs_2 : decode cX9_whatIs 2 = .ok (.invokevirtual 113, 3) := by decide +kernel
theorem dX9_whatIs_5 : decode cX9_whatIs 5 = .ok (.ifCond .ne 9, 3) := by decide +kernel
theorem dX9_whatIs_8 : decode cX9_whatIs 8 = .ok (.aload_n 0, 1) := by decide +kernel
theorem dX9_whatIs_9 : decode cX9_whatIs 9 = .ok (.iconst (-1), 1) := by decide +kernel
theorem dX9_whatIs_10 : decode cX9_whatIs 10 = .ok (.invokevirtual 36, 3) := by decide +kernel
theorem dX9_whatIs_13 : decode cX9_whatIs 13 = .ok (.ireturn, 1) := by decide +kernel
theorem dX9_whatIs_14 : decode cX9_whatIs 14 = .ok (.iload_n 2, 1) := by decide +kernel
theorem dX9_whatIs_15 : decode cX9_whatIs 15 = .ok (.iconst 0, 1) := by decide +kernel
theorem dX9_whatIs_16 : decode cX9_whatIs 16 = .ok (.iconst 1, 1) := by decide +kernel
theorem dX9_whatIs_17 : decode cX9_whatIs 17 = .ok (.invokestatic 40, 3) := by decide +kernel
theorem dX9_whatIs_20 : decode cX9_whatIs 20 = .ok (.ifCond .ne 10, 3) := by decide +kernel
theorem dX9_whatIs_23 : decode cX9_whatIs 23 = .ok (.aload_n 0, 1) := by decide +kernel
theorem dX9_whatIs_24 : decode cX9_whatIs 24 = .ok (.bipush (-2), 2) := by decide +kernel
theorem dX9_whatIs_26 : decode cX9_whatIs 26 = .ok (.invokevirtual 36, 3) := by decide +kernel
theorem dX9_whatIs_29 : decode cX9_whatIs 29 = .ok (.ireturn, 1) := by decide +kernel
theorem dX9_whatIs_30 : decode cX9_whatIs 30 = .ok (.iconst 0, 1) := by decide +kernel
theorem dX9_whatIs_31 : decode cX9_whatIs 31 = .ok (.istore_n 3, 1) := by decide +kernel
theorem dX9_whatIs_32 : decode cX9_whatIs 32 = .ok (.iconst 0, 1) := by decide +kernel
theorem dX9_whatIs_33 : decode cX9_whatIs 33 = .ok (.istore 4, 2) := by decide +kernel
theorem dX9_whatIs_35 : decode cX9_whatIs 35 = .ok (.iload 4, 2) := by decide +kernel
theorem dX9_whatIs_37 : decode cX9_whatIs 37 = .ok (.iload_n 2, 1) := by decide +kernel
theorem dX9_whatIs_38 : decode cX9_whatIs 38 = .ok (.ifCond .ne 8, 3) := by decide +kernel
theorem dX9_whatIs_41 : decode cX9_whatIs 41 = .ok (.bipush 6, 2) := by decide +kernel
theorem dX9_whatIs_43 : decode cX9_whatIs 43 = .ok (.goto 5, 3) := by decide +kernel
theorem dX9_whatIs_46 : decode cX9_whatIs 46 = .ok (.bipush 10, 2) := by decide +kernel
theorem dX9_whatIs_48 : decode cX9_whatIs 48 = .ok (.if_icmp .ge 107, 3) := by decide +kernel
theorem dX9_whatIs_51 : decode cX9_whatIs 51 = .ok (.iconst 1, 1) := by decide +kernel
theorem dX9_whatIs_52 : decode cX9_whatIs 52 = .ok (.istore 5, 2) := by decide +kernel
theorem dX9_whatIs_54 : decode cX9_whatIs 54 = .ok (.aload_n 0, 1) := by decide +kernel
theorem dX9_whatIs_55 : decode cX9_whatIs 55 = .ok (.getfield 9, 3) := by decide +kernel
theorem dX9_whatIs_58 : decode cX9_whatIs 58 = .ok (.aload_n 0, 1) := by decide +kernel
theorem dX9_whatIs_59 : decode cX9_whatIs 59 = .ok (.getfield 13, 3) := by decide +kernel
theorem dX9_whatIs_62 : decode cX9_whatIs 62 = .ok (.invokestatic 129, 3) := by decide +kernel
theorem dX9_whatIs_65 : decode cX9_whatIs 65 = .ok (.aload_n 0, 1) := by decide +kernel
theorem dX9_whatIs_66 : decode cX9_whatIs 66 = .ok (.getfield 13, 3) := by decide +kernel
theorem dX9_whatIs_69 : decode cX9_whatIs 69 = .ok (.iload_n 1, 1) := by decide +kernel
theorem dX9_whatIs_70 : decode cX9_whatIs 70 = .ok (.iload_n 2, 1) := by decide +kernel
theorem dX9_whatIs_71 : decode cX9_whatIs 71 = .ok (.invokestatic 44, 3) := by decide +kernel
theorem dX9_whatIs_74 : decode cX9_whatIs 74 = .ok (.iload 4, 2) := by decide +kernel
theorem dX9_whatIs_76 : decode cX9_whatIs 76 = .ok (.iastore, 1) := by decide +kernel
theorem dX9_whatIs_77 : decode cX9_whatIs 77 = .ok (.iconst 0, 1) := by decide +kernel
theorem dX9_whatIs_78 : decode cX9_whatIs 78 = .ok (.istore 6, 2) := by decide +kernel
theorem dX9_whatIs_80 : decode cX9_whatIs 80 = .ok (.iload 6, 2) := by decide +kernel
theorem dX9_whatIs_82 : decode cX9_whatIs 82 = .ok (.aload_n 0, 1) := by decide +kernel
theorem dX9_whatIs_83 : decode cX9_whatIs 83 = .ok (.getfield 192, 3) := by decide +kernel
theorem dX9_whatIs_86 : decode cX9_whatIs 86 = .ok (.if_icmp .ge 47, 3) := by decide +kernel
theorem dX9_whatIs_89 : decode cX9_whatIs 89 = .ok (.iload 5, 2) := by decide +kernel
theorem dX9_whatIs_91 : decode cX9_whatIs 91 = .ok (.aload_n 0, 1) := by decide +kernel
theorem dX9_whatIs_92 : decode cX9_whatIs 92 = .ok (.getfield 13, 3) := by decide +kernel
theorem dX9_whatIs_95 : decode cX9_whatIs 95 = .ok (.iload_n 1, 1) := by decide +kernel
theorem dX9_whatIs_96 : decode cX9_whatIs 96 = .ok (.iconst 3, 1) := by decide +kernel
theorem dX9_whatIs_97 : decode cX9_whatIs 97 = .ok (.invokestatic 44, 3) := by decide +kernel
theorem dX9_whatIs_100 : decode cX9_whatIs 100 = .ok (.iaload, 1) := by decide +kernel
theorem dX9_whatIs_101 : decode cX9_whatIs 101 = .ok (.aload_n 0, 1) := by decide +kernel
theorem dX9_whatIs_102 : decode cX9_whatIs 102 = .ok (.getfield 25, 3) := by decide +kernel
theorem dX9_whatIs_105 : decode cX9_whatIs 105 = .ok (.iload 6, 2) := by decide +kernel
theorem dX9_whatIs_107 : decode cX9_whatIs 107 = .ok (.iaload, 1) := by decide +kernel
theorem dX9_whatIs_108 : decode cX9_whatIs 108 = .ok (.if_icmp .ne 7, 3) := by decide +kernel
theorem dX9_whatIs_111 : decode cX9_whatIs 111 = .ok (.iconst 1, 1) := by decide +kernel
theorem dX9_whatIs_112 : decode cX9_whatIs 112 = .ok (.goto 4, 3) := by decide +kernel
theorem dX9_whatIs_115 : decode cX9_whatIs 115 = .ok (.iconst 0, 1) := by decide +kernel
theorem dX9_whatIs_116 : decode cX9_whatIs 116 = .ok (.iand, 1) := by decide +kernel
theorem dX9_whatIs_117 : decode cX9_whatIs 117 = .ok (.istore 5, 2) := by decide +kernel
theorem dX9_whatIs_119 : decode cX9_whatIs 119 = .ok (.aload_n 0, 1) := by decide +kernel
theorem dX9_whatIs_120 : decode cX9_whatIs 120 = .ok (.getfield 13, 3) := by decide +kernel
theorem dX9_whatIs_123 : decode cX9_whatIs 123 = .ok (.iconst 0, 1) := by decide +kernel
theorem dX9_whatIs_124 : decode cX9_whatIs 124 = .ok (.invokestatic 89, 3) := by decide +kernel
theorem dX9_whatIs_127 : decode cX9_whatIs 127 = .ok (.iinc 6 1, 3) := by decide +kernel
theorem dX9_whatIs_130 : decode cX9_whatIs 130 = .ok (.goto (-50), 3) := by decide +kernel
theorem dX9_whatIs_133 : decode cX9_whatIs 133 = .ok (.iload_n 3, 1) := by decide +kernel
theorem dX9_whatIs_134 : decode cX9_whatIs 134 = .ok (.iload 5, 2) := by decide +kernel
theorem dX9_whatIs_136 : decode cX9_whatIs 136 = .ok (.ifCond .eq 10, 3) := by decide +kernel
theorem dX9_whatIs_139 : decode cX9_whatIs 139 = .ok (.iconst 1, 1) := by decide +kernel
theorem dX9_whatIs_140 : decode cX9_whatIs 140 = .ok (.iload 4, 2) := by decide +kernel
theorem dX9_whatIs_142 : decode cX9_whatIs 142 = .ok (.ishl, 1) := by decide +kernel
theorem dX9_whatIs_143 : decode cX9_whatIs 143 = .ok (.goto 4, 3) := by decide +kernel
theorem dX9_whatIs_146 : decode cX9_whatIs 146 = .ok (.iconst 0, 1) := by decide +kernel
theorem dX9_whatIs_147 : decode cX9_whatIs 147 = .ok (.ior, 1) := by decide +kernel
theorem dX9_whatIs_148 : decode cX9_whatIs 148 = .ok (.istore_n 3, 1) := by decide +kernel
theorem dX9_whatIs_149 : decode cX9_whatIs 149 = .ok (.iinc 4 1, 3) := by decide +kernel
theorem dX9_whatIs_152 : decode cX9_whatIs 152 = .ok (.goto (-117), 3) := by decide +kernel
theorem dX9_whatIs_155 : decode cX9_whatIs 155 = .ok (.iload_n 3, 1) := by decide +kernel
theorem dX9_whatIs_156 : decode cX9_whatIs 156 = .ok (.ireturn, 1) := by decide +kernel
theorem dX9_row_0 : decode cX9_row 0 = .ok (.iload_n 1, 1) := by decide +kernel
theorem dX9_row_1 : decode cX9_row 1 = .ok (.iconst 0, 1) := by decide +kernel
theorem dX9_row_2 : decode cX9_row 2 = .ok (.bipush 99, 2) := by decide +kernel
theorem dX9_row_4 : decode cX9_row 4 = .ok (.invokestatic 136, 3) := by decide +kernel
theorem dX9_row_7 : decode cX9_row 7 = .ok (.istore_n 2, 1) := by decide +kernel
theorem dX9_row_8 : decode cX9_row 8 = .ok (.iload_n 2, 1) := by decide +kernel
theorem dX9_row_9 : decode cX9_row 9 = .ok (.ifCond .ne 15, 3) := by decide +kernel
theorem dX9_row_12 : decode cX9_row 12 = .ok (.aload_n 0, 1) := by decide +kernel
theorem dX9_row_13 : decode cX9_row 13 = .ok (.getfield 192, 3) := by decide +kernel
theorem dX9_row_16 : decode cX9_row 16 = .ok (.bipush 16, 2) := by decide +kernel
theorem dX9_row_18 : decode cX9_row 18 = .ok (.if_icmp .ne 6, 3) := by decide +kernel
theorem dX9_row_21 : decode cX9_row 21 = .ok (.bipush (-6), 2) := by decide +kernel
theorem dX9_row_23 : decode cX9_row 23 = .ok (.istore_n 2, 1) := by decide +kernel
theorem dX9_row_24 : decode cX9_row 24 = .ok (.iload_n 2, 1) := by decide +kernel
theorem dX9_row_25 : decode cX9_row 25 = .ok (.ifCond .eq 9, 3) := by decide +kernel
theorem dX9_row_28 : decode cX9_row 28 = .ok (.aload_n 0, 1) := by decide +kernel
theorem dX9_row_29 : decode cX9_row 29 = .ok (.iload_n 2, 1) := by decide +kernel
theorem dX9_row_30 : decode cX9_row 30 = .ok (.invokevirtual 36, 3) := by decide +kernel
theorem dX9_row_33 : decode cX9_row 33 = .ok (.ireturn, 1) := by decide +kernel
theorem dX9_row_34 : decode cX9_row 34 = .ok (.aload_n 0, 1) := by decide +kernel
theorem dX9_row_35 : decode cX9_row 35 = .ok (.getfield 25, 3) := by decide +kernel
theorem dX9_row_38 : decode cX9_row 38 = .ok (.aload_n 0, 1) := by decide +kernel
theorem dX9_row_39 : decode cX9_row 39 = .ok (.getfield 192, 3) := by decide +kernel
theorem dX9_row_42 : decode cX9_row 42 = .ok (.iload_n 1, 1) := by decide +kernel
theorem dX9_row_43 : decode cX9_row 43 = .ok (.iastore, 1) := by decide +kernel
theorem dX9_row_44 : decode cX9_row 44 = .ok (.aload_n 0, 1) := by decide +kernel
theorem dX9_row_45 : decode cX9_row 45 = .ok (.dup, 1) := by decide +kernel
theorem dX9_row_46 : decode cX9_row 46 = .ok (.getfield 192, 3) := by decide +kernel
theorem dX9_row_49 : decode cX9_row 49 = .ok (.iconst 1, 1) := by decide +kernel
theorem dX9_row_50 : decode cX9_row 50 = .ok (.iadd, 1) := by decide +kernel
theorem dX9_row_51 : decode cX9_row 51 = .ok (.putfield 192, 3) := by decide +kernel
theorem dX9_row_54 : decode cX9_row 54 = .ok (.aload_n 0, 1) := by decide +kernel
theorem dX9_row_55 : decode cX9_row 55 = .ok (.getfield 192, 3) := by decide +kernel
theorem dX9_row_58 : decode cX9_row 58 = .ok (.ireturn, 1) := by decide +kernel
theorem dX9_judge_0 : decode cX9_judge 0 = .ok (.aload_n 0, 1) := by decide +kernel
theorem dX9_judge_1 : decode cX9_judge 1 = .ok (.getfield 192, 3) := by decide +kernel
theorem dX9_judge_4 : decode cX9_judge 4 = .ok (.istore_n 1, 1) := by decide +kernel
theorem dX9_judge_5 : decode cX9_judge 5 = .ok (.aload_n 0, 1) := by decide +kernel
theorem dX9_judge_6 : decode cX9_judge 6 = .ok (.iconst 0, 1) := by decide +kernel
theorem dX9_judge_7 : decode cX9_judge 7 = .ok (.putfield 192, 3) := by decide +kernel
theorem dX9_judge_10 : decode cX9_judge 10 = .ok (.iconst 0, 1) := by decide +kernel
theorem dX9_judge_11 : decode cX9_judge 11 = .ok (.istore_n 2, 1) := by decide +kernel
theorem dX9_judge_12 : decode cX9_judge 12 = .ok (.iload_n 2, 1) := by decide +kernel
theorem dX9_judge_13 : decode cX9_judge 13 = .ok (.iload_n 1, 1) := by decide +kernel
theorem dX9_judge_14 : decode cX9_judge 14 = .ok (.if_icmp .ge 38, 3) := by decide +kernel
theorem dX9_judge_17 : decode cX9_judge 17 = .ok (.iload_n 2, 1) := by decide +kernel
theorem dX9_judge_18 : decode cX9_judge 18 = .ok (.invokestatic 117, 3) := by decide +kernel
theorem dX9_judge_21 : decode cX9_judge 21 = .ok (.ifCond .eq 23, 3) := by decide +kernel
theorem dX9_judge_24 : decode cX9_judge 24 = .ok (.aload_n 0, 1) := by decide +kernel
theorem dX9_judge_25 : decode cX9_judge 25 = .ok (.getfield 9, 3) := by decide +kernel
theorem dX9_judge_28 : decode cX9_judge 28 = .ok (.iload_n 2, 1) := by decide +kernel
theorem dX9_judge_29 : decode cX9_judge 29 = .ok (.invokestatic 144, 3) := by decide +kernel
theorem dX9_judge_32 : decode cX9_judge 32 = .ok (.invokestatic 52, 3) := by decide +kernel
theorem dX9_judge_35 : decode cX9_judge 35 = .ok (.aload_n 0, 1) := by decide +kernel
theorem dX9_judge_36 : decode cX9_judge 36 = .ok (.getfield 25, 3) := by decide +kernel
theorem dX9_judge_39 : decode cX9_judge 39 = .ok (.iload_n 2, 1) := by decide +kernel
theorem dX9_judge_40 : decode cX9_judge 40 = .ok (.iaload, 1) := by decide +kernel
theorem dX9_judge_41 : decode cX9_judge 41 = .ok (.if_icmp .eq 5, 3) := by decide +kernel
theorem dX9_judge_44 : decode cX9_judge 44 = .ok (.iload_n 2, 1) := by decide +kernel
theorem dX9_judge_45 : decode cX9_judge 45 = .ok (.ireturn, 1) := by decide +kernel
theorem dX9_judge_46 : decode cX9_judge 46 = .ok (.iinc 2 1, 3) := by decide +kernel
theorem dX9_judge_49 : decode cX9_judge 49 = .ok (.goto (-37), 3) := by decide +kernel
theorem dX9_judge_52 : decode cX9_judge 52 = .ok (.bipush (-9), 2) := by decide +kernel
theorem dX9_judge_54 : decode cX9_judge 54 = .ok (.ireturn, 1) := by decide +kernel
theorem dX9_clear_0 : decode cX9_clear 0 = .ok (.aload_n 0, 1) := by decide +kernel
theorem dX9_clear_1 : decode cX9_clear 1 = .ok (.getfield 192, 3) := by decide +kernel
theorem dX9_clear_4 : decode cX9_clear 4 = .ok (.istore_n 1, 1) := by decide +kernel
theorem dX9_clear_5 : decode cX9_clear 5 = .ok (.aload_n 0, 1) := by decide +kernel
theorem dX9_clear_6 : decode cX9_clear 6 = .ok (.iconst 0, 1) := by decide +kernel
theorem dX9_clear_7 : decode cX9_clear 7 = .ok (.putfield 192, 3) := by decide +kernel
theorem dX9_clear_10 : decode cX9_clear 10 = .ok (.iload_n 1, 1) := by decide +kernel
theorem dX9_clear_11 : decode cX9_clear 11 = .ok (.ireturn, 1) := by decide +kernel
theorem dX9_drawn_0 : decode cX9_drawn 0 = .ok (.aload_n 0, 1) := by decide +kernel
theorem dX9_drawn_1 : decode cX9_drawn 1 = .ok (.aload_n 0, 1) := by decide +kernel
theorem dX9_drawn_2 : decode cX9_drawn 2 = .ok (.getfield 195, 3) := by decide +kernel
theorem dX9_drawn_5 : decode cX9_drawn 5 = .ok (.ldc 198, 2) := by decide +kernel
theorem dX9_drawn_7 : decode cX9_drawn 7 = .ok (.imul, 1) := by decide +kernel
theorem dX9_drawn_8 : decode cX9_drawn 8 = .ok (.ldc 199, 2) := by decide +kernel
theorem dX9_drawn_10 : decode cX9_drawn 10 = .ok (.iadd, 1) := by decide +kernel
theorem dX9_drawn_11 : decode cX9_drawn 11 = .ok (.putfield 195, 3) := by decide +kernel
theorem dX9_drawn_14 : decode cX9_drawn 14 = .ok (.aload_n 0, 1) := by decide +kernel
theorem dX9_drawn_15 : decode cX9_drawn 15 = .ok (.getfield 195, 3) := by decide +kernel
theorem dX9_drawn_18 : decode cX9_drawn 18 = .ok (.ldc 200, 2) := by decide +kernel
theorem dX9_drawn_20 : decode cX9_drawn 20 = .ok (.iand, 1) := by decide +kernel
theorem dX9_drawn_21 : decode cX9_drawn 21 = .ok (.sipush 256, 3) := by decide +kernel
theorem dX9_drawn_24 : decode cX9_drawn 24 = .ok (.idiv, 1) := by decide +kernel
theorem dX9_drawn_25 : decode cX9_drawn 25 = .ok (.iload_n 1, 1) := by decide +kernel
theorem dX9_drawn_26 : decode cX9_drawn 26 = .ok (.irem, 1) := by decide +kernel
theorem dX9_drawn_27 : decode cX9_drawn 27 = .ok (.ireturn, 1) := by decide +kernel
theorem dX9_lots_0 : decode cX9_lots 0 = .ok (.iload_n 1, 1) := by decide +kernel
theorem dX9_lots_1 : decode cX9_lots 1 = .ok (.iconst 1, 1) := by decide +kernel
theorem dX9_lots_2 : decode cX9_lots 2 = .ok (.if_icmp .ge 10, 3) := by decide +kernel
theorem dX9_lots_5 : decode cX9_lots 5 = .ok (.aload_n 0, 1) := by decide +kernel
theorem dX9_lots_6 : decode cX9_lots 6 = .ok (.bipush (-4), 2) := by decide +kernel
theorem dX9_lots_8 : decode cX9_lots 8 = .ok (.invokevirtual 36, 3) := by decide +kernel
theorem dX9_lots_11 : decode cX9_lots 11 = .ok (.ireturn, 1) := by decide +kernel
theorem dX9_lots_12 : decode cX9_lots 12 = .ok (.iload_n 1, 1) := by decide +kernel
theorem dX9_lots_13 : decode cX9_lots 13 = .ok (.bipush 20, 2) := by decide +kernel
theorem dX9_lots_15 : decode cX9_lots 15 = .ok (.if_icmp .le 10, 3) := by decide +kernel
theorem dX9_lots_18 : decode cX9_lots 18 = .ok (.aload_n 0, 1) := by decide +kernel
theorem dX9_lots_19 : decode cX9_lots 19 = .ok (.bipush (-6), 2) := by decide +kernel
theorem dX9_lots_21 : decode cX9_lots 21 = .ok (.invokevirtual 36, 3) := by decide +kernel
theorem dX9_lots_24 : decode cX9_lots 24 = .ok (.ireturn, 1) := by decide +kernel
theorem dX9_lots_25 : decode cX9_lots 25 = .ok (.iload_n 3, 1) := by decide +kernel
theorem dX9_lots_26 : decode cX9_lots 26 = .ok (.iconst 0, 1) := by decide +kernel
theorem dX9_lots_27 : decode cX9_lots 27 = .ok (.iconst 1, 1) := by decide +kernel
theorem dX9_lots_28 : decode cX9_lots 28 = .ok (.invokestatic 40, 3) := by decide +kernel
theorem dX9_lots_31 : decode cX9_lots 31 = .ok (.ifCond .ne 10, 3) := by decide +kernel
theorem dX9_lots_34 : decode cX9_lots 34 = .ok (.aload_n 0, 1) := by decide +kernel
theorem dX9_lots_35 : decode cX9_lots 35 = .ok (.bipush (-2), 2) := by decide +kernel
theorem dX9_lots_37 : decode cX9_lots 37 = .ok (.invokevirtual 36, 3) := by decide +kernel
theorem dX9_lots_40 : decode cX9_lots 40 = .ok (.ireturn, 1) := by decide +kernel
theorem dX9_lots_41 : decode cX9_lots 41 = .ok (.aload_n 0, 1) := by decide +kernel
theorem dX9_lots_42 : decode cX9_lots 42 = .ok (.iload_n 2, 1) := by decide +kernel
theorem dX9_lots_43 : decode cX9_lots 43 = .ok (.putfield 195, 3) := by decide +kernel
theorem dX9_lots_46 : decode cX9_lots 46 = .ok (.iconst 0, 1) := by decide +kernel
theorem dX9_lots_47 : decode cX9_lots 47 = .ok (.istore 4, 2) := by decide +kernel
theorem dX9_lots_49 : decode cX9_lots 49 = .ok (.iconst 0, 1) := by decide +kernel
theorem dX9_lots_50 : decode cX9_lots 50 = .ok (.istore 5, 2) := by decide +kernel
theorem dX9_lots_52 : decode cX9_lots 52 = .ok (.iload 5, 2) := by decide +kernel
theorem dX9_lots_54 : decode cX9_lots 54 = .ok (.iload_n 1, 1) := by decide +kernel
theorem dX9_lots_55 : decode cX9_lots 55 = .ok (.if_icmp .ge 111, 3) := by decide +kernel
theorem dX9_lots_58 : decode cX9_lots 58 = .ok (.aload_n 0, 1) := by decide +kernel
theorem dX9_lots_59 : decode cX9_lots 59 = .ok (.getfield 9, 3) := by decide +kernel
theorem dX9_lots_62 : decode cX9_lots 62 = .ok (.aload_n 0, 1) := by decide +kernel
theorem dX9_lots_63 : decode cX9_lots 63 = .ok (.getfield 13, 3) := by decide +kernel
theorem dX9_lots_66 : decode cX9_lots 66 = .ok (.invokestatic 129, 3) := by decide +kernel
theorem dX9_lots_69 : decode cX9_lots 69 = .ok (.iconst 0, 1) := by decide +kernel
theorem dX9_lots_70 : decode cX9_lots 70 = .ok (.istore 6, 2) := by decide +kernel
theorem dX9_lots_72 : decode cX9_lots 72 = .ok (.iload 6, 2) := by decide +kernel
theorem dX9_lots_74 : decode cX9_lots 74 = .ok (.aload_n 0, 1) := by decide +kernel
theorem dX9_lots_75 : decode cX9_lots 75 = .ok (.getfield 9, 3) := by decide +kernel
theorem dX9_lots_78 : decode cX9_lots 78 = .ok (.iconst 0, 1) := by decide +kernel
theorem dX9_lots_79 : decode cX9_lots 79 = .ok (.iaload, 1) := by decide +kernel
theorem dX9_lots_80 : decode cX9_lots 80 = .ok (.if_icmp .ge 39, 3) := by decide +kernel
theorem dX9_lots_83 : decode cX9_lots 83 = .ok (.aload_n 0, 1) := by decide +kernel
theorem dX9_lots_84 : decode cX9_lots 84 = .ok (.getfield 13, 3) := by decide +kernel
theorem dX9_lots_87 : decode cX9_lots 87 = .ok (.iload 6, 2) := by decide +kernel
theorem dX9_lots_89 : decode cX9_lots 89 = .ok (.iconst 2, 1) := by decide +kernel
theorem dX9_lots_90 : decode cX9_lots 90 = .ok (.invokestatic 44, 3) := by decide +kernel
theorem dX9_lots_93 : decode cX9_lots 93 = .ok (.aload_n 0, 1) := by decide +kernel
theorem dX9_lots_94 : decode cX9_lots 94 = .ok (.sipush 128, 3) := by decide +kernel
theorem dX9_lots_97 : decode cX9_lots 97 = .ok (.invokevirtual 201, 3) := by decide +kernel
theorem dX9_lots_100 : decode cX9_lots 100 = .ok (.iastore, 1) := by decide +kernel
theorem dX9_lots_101 : decode cX9_lots 101 = .ok (.aload_n 0, 1) := by decide +kernel
theorem dX9_lots_102 : decode cX9_lots 102 = .ok (.getfield 13, 3) := by decide +kernel
theorem dX9_lots_105 : decode cX9_lots 105 = .ok (.iload 6, 2) := by decide +kernel
theorem dX9_lots_107 : decode cX9_lots 107 = .ok (.iconst 3, 1) := by decide +kernel
theorem dX9_lots_108 : decode cX9_lots 108 = .ok (.invokestatic 44, 3) := by decide +kernel
theorem dX9_lots_111 : decode cX9_lots 111 = .ok (.iconst 0, 1) := by decide +kernel
theorem dX9_lots_112 : decode cX9_lots 112 = .ok (.iastore, 1) := by decide +kernel
theorem dX9_lots_113 : decode cX9_lots 113 = .ok (.iinc 6 1, 3) := by decide +kernel
theorem dX9_lots_116 : decode cX9_lots 116 = .ok (.goto (-44), 3) := by decide +kernel
theorem dX9_lots_119 : decode cX9_lots 119 = .ok (.aload_n 0, 1) := by decide +kernel
theorem dX9_lots_120 : decode cX9_lots 120 = .ok (.getfield 13, 3) := by decide +kernel
theorem dX9_lots_123 : decode cX9_lots 123 = .ok (.bipush 14, 2) := by decide +kernel
theorem dX9_lots_125 : decode cX9_lots 125 = .ok (.invokestatic 123, 3) := by decide +kernel
theorem dX9_lots_128 : decode cX9_lots 128 = .ok (.iload 4, 2) := by decide +kernel
theorem dX9_lots_130 : decode cX9_lots 130 = .ok (.iload_n 3, 1) := by decide +kernel
theorem dX9_lots_131 : decode cX9_lots 131 = .ok (.ifCond .ne 13, 3) := by decide +kernel
theorem dX9_lots_134 : decode cX9_lots 134 = .ok (.aload_n 0, 1) := by decide +kernel
theorem dX9_lots_135 : decode cX9_lots 135 = .ok (.getfield 13, 3) := by decide +kernel
theorem dX9_lots_138 : decode cX9_lots 138 = .ok (.invokestatic 167, 3) := by decide +kernel
theorem dX9_lots_141 : decode cX9_lots 141 = .ok (.goto 16, 3) := by decide +kernel
theorem dX9_lots_144 : decode cX9_lots 144 = .ok (.aload_n 0, 1) := by decide +kernel
theorem dX9_lots_145 : decode cX9_lots 145 = .ok (.getfield 13, 3) := by decide +kernel
theorem dX9_lots_148 : decode cX9_lots 148 = .ok (.iconst 2, 1) := by decide +kernel
theorem dX9_lots_149 : decode cX9_lots 149 = .ok (.iaload, 1) := by decide +kernel
theorem dX9_lots_150 : decode cX9_lots 150 = .ok (.aload_n 0, 1) := by decide +kernel
theorem dX9_lots_151 : decode cX9_lots 151 = .ok (.getfield 9, 3) := by decide +kernel
theorem dX9_lots_154 : decode cX9_lots 154 = .ok (.iconst 2, 1) := by decide +kernel
theorem dX9_lots_155 : decode cX9_lots 155 = .ok (.iaload, 1) := by decide +kernel
theorem dX9_lots_156 : decode cX9_lots 156 = .ok (.isub, 1) := by decide +kernel
theorem dX9_lots_157 : decode cX9_lots 157 = .ok (.iadd, 1) := by decide +kernel
theorem dX9_lots_158 : decode cX9_lots 158 = .ok (.istore 4, 2) := by decide +kernel
theorem dX9_lots_160 : decode cX9_lots 160 = .ok (.iinc 5 1, 3) := by decide +kernel
theorem dX9_lots_163 : decode cX9_lots 163 = .ok (.goto (-111), 3) := by decide +kernel
theorem dX9_lots_166 : decode cX9_lots 166 = .ok (.iload 4, 2) := by decide +kernel
theorem dX9_lots_168 : decode cX9_lots 168 = .ok (.ireturn, 1) := by decide +kernel
theorem dX9_image_0 : decode cX9_image 0 = .ok (.aload_n 0, 1) := by decide +kernel
theorem dX9_image_1 : decode cX9_image 1 = .ok (.getfield 9, 3) := by decide +kernel
theorem dX9_image_4 : decode cX9_image 4 = .ok (.aload_n 0, 1) := by decide +kernel
theorem dX9_image_5 : decode cX9_image 5 = .ok (.getfield 16, 3) := by decide +kernel
theorem dX9_image_8 : decode cX9_image 8 = .ok (.invokestatic 129, 3) := by decide +kernel
theorem dX9_image_11 : decode cX9_image 11 = .ok (.aload_n 0, 1) := by decide +kernel
theorem dX9_image_12 : decode cX9_image 12 = .ok (.iconst 1, 1) := by decide +kernel
theorem dX9_image_13 : decode cX9_image 13 = .ok (.putfield 204, 3) := by decide +kernel
theorem dX9_image_16 : decode cX9_image 16 = .ok (.aload_n 0, 1) := by decide +kernel
theorem dX9_image_17 : decode cX9_image 17 = .ok (.getfield 9, 3) := by decide +kernel
theorem dX9_image_20 : decode cX9_image 20 = .ok (.iconst 1, 1) := by decide +kernel
theorem dX9_image_21 : decode cX9_image 21 = .ok (.iaload, 1) := by decide +kernel
theorem dX9_image_22 : decode cX9_image 22 = .ok (.ireturn, 1) := by decide +kernel
theorem dX9_on_0 : decode cX9_on 0 = .ok (.aload_n 0, 1) := by decide +kernel
theorem dX9_on_1 : decode cX9_on 1 = .ok (.getfield 204, 3) := by decide +kernel
theorem dX9_on_4 : decode cX9_on 4 = .ok (.ifCond .ne 10, 3) := by decide +kernel
theorem dX9_on_7 : decode cX9_on 7 = .ok (.aload_n 0, 1) := by decide +kernel
theorem dX9_on_8 : decode cX9_on 8 = .ok (.bipush (-3), 2) := by decide +kernel
theorem dX9_on_10 : decode cX9_on 10 = .ok (.invokevirtual 36, 3) := by decide +kernel
theorem dX9_on_13 : decode cX9_on 13 = .ok (.ireturn, 1) := by decide +kernel
theorem dX9_on_14 : decode cX9_on 14 = .ok (.aload_n 0, 1) := by decide +kernel
theorem dX9_on_15 : decode cX9_on 15 = .ok (.getfield 16, 3) := by decide +kernel
theorem dX9_on_18 : decode cX9_on 18 = .ok (.aload_n 0, 1) := by decide +kernel
theorem dX9_on_19 : decode cX9_on 19 = .ok (.getfield 9, 3) := by decide +kernel
theorem dX9_on_22 : decode cX9_on 22 = .ok (.invokestatic 129, 3) := by decide +kernel
theorem dX9_on_25 : decode cX9_on 25 = .ok (.aload_n 0, 1) := by decide +kernel
theorem dX9_on_26 : decode cX9_on 26 = .ok (.getfield 9, 3) := by decide +kernel
theorem dX9_on_29 : decode cX9_on 29 = .ok (.iconst 1, 1) := by decide +kernel
theorem dX9_on_30 : decode cX9_on 30 = .ok (.iaload, 1) := by decide +kernel
theorem dX9_on_31 : decode cX9_on 31 = .ok (.ireturn, 1) := by decide +kernel
theorem dX9_count_0 : decode cX9_count 0 = .ok (.iload_n 1, 1) := by decide +kernel
theorem dX9_count_1 : decode cX9_count 1 = .ok (.bipush 11, 2) := by decide +kernel
theorem dX9_count_3 : decode cX9_count 3 = .ok (.bipush 16, 2) := by decide +kernel
theorem dX9_count_5 : decode cX9_count 5 = .ok (.invokestatic 40, 3) := by decide +kernel
theorem dX9_count_8 : decode cX9_count 8 = .ok (.ifCond .eq 13, 3) := by decide +kernel
theorem dX9_count_11 : decode cX9_count 11 = .ok (.aload_n 0, 1) := by decide +kernel
theorem dX9_count_12 : decode cX9_count 12 = .ok (.getfield 28, 3) := by decide +kernel
theorem dX9_count_15 : decode cX9_count 15 = .ok (.iload_n 1, 1) := by decide +kernel
theorem dX9_count_16 : decode cX9_count 16 = .ok (.bipush 10, 2) := by decide +kernel
theorem dX9_count_18 : decode cX9_count 18 = .ok (.isub, 1) := by decide +kernel
theorem dX9_count_19 : decode cX9_count 19 = .ok (.iaload, 1) := by decide +kernel
theorem dX9_count_20 : decode cX9_count 20 = .ok (.ireturn, 1) := by decide +kernel
theorem dX9_count_21 : decode cX9_count 21 = .ok (.iconst 0, 1) := by decide +kernel
theorem dX9_count_22 : decode cX9_count 22 = .ok (.istore_n 2, 1) := by decide +kernel
theorem dX9_count_23 : decode cX9_count 23 = .ok (.iload_n 1, 1) := by decide +kernel
theorem dX9_count_24 : decode cX9_count 24 = .ok (.tableswitch 126 0 7 #[48, 48, 48, 55, 91, 99, 116, 121], 48) := by decide +kernel
theorem dX9_count_72 : decode cX9_count 72 = .ok (.aload_n 0, 1) := by decide +kernel
theorem dX9_count_73 : decode cX9_count 73 = .ok (.getfield 9, 3) := by decide +kernel
theorem dX9_count_76 : decode cX9_count 76 = .ok (.iload_n 1, 1) := by decide +kernel
theorem dX9_count_77 : decode cX9_count 77 = .ok (.iaload, 1) := by decide +kernel
theorem dX9_count_78 : decode cX9_count 78 = .ok (.ireturn, 1) := by decide +kernel
theorem dX9_count_79 : decode cX9_count 79 = .ok (.iconst 0, 1) := by decide +kernel
theorem dX9_count_80 : decode cX9_count 80 = .ok (.istore_n 3, 1) := by decide +kernel
theorem dX9_count_81 : decode cX9_count 81 = .ok (.iload_n 3, 1) := by decide +kernel
theorem dX9_count_82 : decode cX9_count 82 = .ok (.aload_n 0, 1) := by decide +kernel
theorem dX9_count_83 : decode cX9_count 83 = .ok (.getfield 9, 3) := by decide +kernel
theorem dX9_count_86 : decode cX9_count 86 = .ok (.iconst 0, 1) := by decide +kernel
theorem dX9_count_87 : decode cX9_count 87 = .ok (.iaload, 1) := by decide +kernel
theorem dX9_count_88 : decode cX9_count 88 = .ok (.if_icmp .ge 25, 3) := by decide +kernel
theorem dX9_count_91 : decode cX9_count 91 = .ok (.iload_n 2, 1) := by decide +kernel
theorem dX9_count_92 : decode cX9_count 92 = .ok (.aload_n 0, 1) := by decide +kernel
theorem dX9_count_93 : decode cX9_count 93 = .ok (.getfield 9, 3) := by decide +kernel
theorem dX9_count_96 : decode cX9_count 96 = .ok (.iload_n 3, 1) := by decide +kernel
theorem dX9_count_97 : decode cX9_count 97 = .ok (.iconst 2, 1) := by decide +kernel
theorem dX9_count_98 : decode cX9_count 98 = .ok (.invokestatic 44, 3) := by decide +kernel
theorem dX9_count_101 : decode cX9_count 101 = .ok (.iaload, 1) := by decide +kernel
theorem dX9_count_102 : decode cX9_count 102 = .ok (.invokestatic 52, 3) := by decide +kernel
theorem dX9_count_105 : decode cX9_count 105 = .ok (.iadd, 1) := by decide +kernel
theorem dX9_count_106 : decode cX9_count 106 = .ok (.istore_n 2, 1) := by decide +kernel
theorem dX9_count_107 : decode cX9_count 107 = .ok (.iinc 3 1, 3) := by decide +kernel
theorem dX9_count_110 : decode cX9_count 110 = .ok (.goto (-29), 3) := by decide +kernel
theorem dX9_count_113 : decode cX9_count 113 = .ok (.iload_n 2, 1) := by decide +kernel
theorem dX9_count_114 : decode cX9_count 114 = .ok (.ireturn, 1) := by decide +kernel
theorem dX9_count_115 : decode cX9_count 115 = .ok (.aload_n 0, 1) := by decide +kernel
theorem dX9_count_116 : decode cX9_count 116 = .ok (.getfield 9, 3) := by decide +kernel
theorem dX9_count_119 : decode cX9_count 119 = .ok (.invokestatic 167, 3) := by decide +kernel
theorem dX9_count_122 : decode cX9_count 122 = .ok (.ireturn, 1) := by decide +kernel
theorem dX9_count_123 : decode cX9_count 123 = .ok (.aload_n 0, 1) := by decide +kernel
theorem dX9_count_124 : decode cX9_count 124 = .ok (.getfield 9, 3) := by decide +kernel
theorem dX9_count_127 : decode cX9_count 127 = .ok (.aload_n 0, 1) := by decide +kernel
theorem dX9_count_128 : decode cX9_count 128 = .ok (.getfield 9, 3) := by decide +kernel
theorem dX9_count_131 : decode cX9_count 131 = .ok (.iconst 1, 1) := by decide +kernel
theorem dX9_count_132 : decode cX9_count 132 = .ok (.iaload, 1) := by decide +kernel
theorem dX9_count_133 : decode cX9_count 133 = .ok (.bipush 7, 2) := by decide +kernel
theorem dX9_count_135 : decode cX9_count 135 = .ok (.irem, 1) := by decide +kernel
theorem dX9_count_136 : decode cX9_count 136 = .ok (.invokestatic 144, 3) := by decide +kernel
theorem dX9_count_139 : decode cX9_count 139 = .ok (.ireturn, 1) := by decide +kernel
theorem dX9_count_140 : decode cX9_count 140 = .ok (.aload_n 0, 1) := by decide +kernel
theorem dX9_count_141 : decode cX9_count 141 = .ok (.getfield 192, 3) := by decide +kernel
theorem dX9_count_144 : decode cX9_count 144 = .ok (.ireturn, 1) := by decide +kernel
theorem dX9_count_145 : decode cX9_count 145 = .ok (.aload_n 0, 1) := by decide +kernel
theorem dX9_count_146 : decode cX9_count 146 = .ok (.getfield 92, 3) := by decide +kernel
theorem dX9_count_149 : decode cX9_count 149 = .ok (.ireturn, 1) := by decide +kernel
theorem dX9_count_150 : decode cX9_count 150 = .ok (.bipush (-9), 2) := by decide +kernel
theorem dX9_count_152 : decode cX9_count 152 = .ok (.ireturn, 1) := by decide +kernel
theorem dJ11_isValidCodePoint_9a6ad_0 : decode cJ11_isValidCodePoint_9a6ad 0 = .ok (.iload_n 0, 1) := by decide +kernel
theorem dJ11_isValidCodePoint_9a6ad_1 : decode cJ11_isValidCodePoint_9a6ad 1 = .ok (.bipush 16, 2) := by decide +kernel
theorem dJ11_isValidCodePoint_9a6ad_3 : decode cJ11_isValidCodePoint_9a6ad 3 = .ok (.iushr, 1) := by decide +kernel
theorem dJ11_isValidCodePoint_9a6ad_4 : decode cJ11_isValidCodePoint_9a6ad 4 = .ok (.istore_n 1, 1) := by decide +kernel
theorem dJ11_isValidCodePoint_9a6ad_5 : decode cJ11_isValidCodePoint_9a6ad 5 = .ok (.iload_n 1, 1) := by decide +kernel
theorem dJ11_isValidCodePoint_9a6ad_6 : decode cJ11_isValidCodePoint_9a6ad 6 = .ok (.bipush 17, 2) := by decide +kernel
theorem dJ11_isValidCodePoint_9a6ad_8 : decode cJ11_isValidCodePoint_9a6ad 8 = .ok (.if_icmp .ge 7, 3) := by decide +kernel
theorem dJ11_isValidCodePoint_9a6ad_11 : decode cJ11_isValidCodePoint_9a6ad 11 = .ok (.iconst 1, 1) := by decide +kernel
theorem dJ11_isValidCodePoint_9a6ad_12 : decode cJ11_isValidCodePoint_9a6ad 12 = .ok (.goto 4, 3) := by decide +kernel
theorem dJ11_isValidCodePoint_9a6ad_15 : decode cJ11_isValidCodePoint_9a6ad 15 = .ok (.iconst 0, 1) := by decide +kernel
theorem dJ11_isValidCodePoint_9a6ad_16 : decode cJ11_isValidCodePoint_9a6ad 16 = .ok (.ireturn, 1) := by decide +kernel
theorem dJ11_highSurrogate_5068e_0 : decode cJ11_highSurrogate_5068e 0 = .ok (.iload_n 0, 1) := by decide +kernel
theorem dJ11_highSurrogate_5068e_1 : decode cJ11_highSurrogate_5068e 1 = .ok (.bipush 10, 2) := by decide +kernel
theorem dJ11_highSurrogate_5068e_3 : decode cJ11_highSurrogate_5068e 3 = .ok (.iushr, 1) := by decide +kernel
theorem dJ11_highSurrogate_5068e_4 : decode cJ11_highSurrogate_5068e 4 = .ok (.ldc 110, 2) := by decide +kernel
theorem dJ11_highSurrogate_5068e_6 : decode cJ11_highSurrogate_5068e 6 = .ok (.iadd, 1) := by decide +kernel
theorem dJ11_highSurrogate_5068e_7 : decode cJ11_highSurrogate_5068e 7 = .ok (.i2c, 1) := by decide +kernel
theorem dJ11_highSurrogate_5068e_8 : decode cJ11_highSurrogate_5068e 8 = .ok (.ireturn, 1) := by decide +kernel
theorem dJ11_lowSurrogate_5068e_0 : decode cJ11_lowSurrogate_5068e 0 = .ok (.iload_n 0, 1) := by decide +kernel
theorem dJ11_lowSurrogate_5068e_1 : decode cJ11_lowSurrogate_5068e 1 = .ok (.sipush 1023, 3) := by decide +kernel
theorem dJ11_lowSurrogate_5068e_4 : decode cJ11_lowSurrogate_5068e 4 = .ok (.iand, 1) := by decide +kernel
theorem dJ11_lowSurrogate_5068e_5 : decode cJ11_lowSurrogate_5068e 5 = .ok (.ldc 76, 2) := by decide +kernel
theorem dJ11_lowSurrogate_5068e_7 : decode cJ11_lowSurrogate_5068e 7 = .ok (.iadd, 1) := by decide +kernel
theorem dJ11_lowSurrogate_5068e_8 : decode cJ11_lowSurrogate_5068e 8 = .ok (.i2c, 1) := by decide +kernel
theorem dJ11_lowSurrogate_5068e_9 : decode cJ11_lowSurrogate_5068e 9 = .ok (.ireturn, 1) := by decide +kernel
theorem dJ6_numberOfLeadingZeros_0f7a4_0 : decode cJ6_numberOfLeadingZeros_0f7a4 0 = .ok (.iload_n 0, 1) := by decide +kernel
theorem dJ6_numberOfLeadingZeros_0f7a4_1 : decode cJ6_numberOfLeadingZeros_0f7a4 1 = .ok (.ifCond .gt 14, 3) := by decide +kernel
theorem dJ6_numberOfLeadingZeros_0f7a4_4 : decode cJ6_numberOfLeadingZeros_0f7a4 4 = .ok (.iload_n 0, 1) := by decide +kernel
theorem dJ6_numberOfLeadingZeros_0f7a4_5 : decode cJ6_numberOfLeadingZeros_0f7a4 5 = .ok (.ifCond .ne 8, 3) := by decide +kernel
theorem dJ6_numberOfLeadingZeros_0f7a4_8 : decode cJ6_numberOfLeadingZeros_0f7a4 8 = .ok (.bipush 32, 2) := by decide +kernel
theorem dJ6_numberOfLeadingZeros_0f7a4_10 : decode cJ6_numberOfLeadingZeros_0f7a4 10 = .ok (.goto 4, 3) := by decide +kernel
theorem dJ6_numberOfLeadingZeros_0f7a4_13 : decode cJ6_numberOfLeadingZeros_0f7a4 13 = .ok (.iconst 0, 1) := by decide +kernel
theorem dJ6_numberOfLeadingZeros_0f7a4_14 : decode cJ6_numberOfLeadingZeros_0f7a4 14 = .ok (.ireturn, 1) := by decide +kernel
theorem dJ6_numberOfLeadingZeros_0f7a4_15 : decode cJ6_numberOfLeadingZeros_0f7a4 15 = .ok (.bipush 31, 2) := by decide +kernel
theorem dJ6_numberOfLeadingZeros_0f7a4_17 : decode cJ6_numberOfLeadingZeros_0f7a4 17 = .ok (.istore_n 1, 1) := by decide +kernel
theorem dJ6_numberOfLeadingZeros_0f7a4_18 : decode cJ6_numberOfLeadingZeros_0f7a4 18 = .ok (.iload_n 0, 1) := by decide +kernel
theorem dJ6_numberOfLeadingZeros_0f7a4_19 : decode cJ6_numberOfLeadingZeros_0f7a4 19 = .ok (.ldc_w 264, 3) := by decide +kernel
theorem dJ6_numberOfLeadingZeros_0f7a4_22 : decode cJ6_numberOfLeadingZeros_0f7a4 22 = .ok (.if_icmp .lt 11, 3) := by decide +kernel
theorem dJ6_numberOfLeadingZeros_0f7a4_25 : decode cJ6_numberOfLeadingZeros_0f7a4 25 = .ok (.iinc 1 (-16), 3) := by decide +kernel
theorem dJ6_numberOfLeadingZeros_0f7a4_28 : decode cJ6_numberOfLeadingZeros_0f7a4 28 = .ok (.iload_n 0, 1) := by decide +kernel
theorem dJ6_numberOfLeadingZeros_0f7a4_29 : decode cJ6_numberOfLeadingZeros_0f7a4 29 = .ok (.bipush 16, 2) := by decide +kernel
theorem dJ6_numberOfLeadingZeros_0f7a4_31 : decode cJ6_numberOfLeadingZeros_0f7a4 31 = .ok (.iushr, 1) := by decide +kernel
theorem dJ6_numberOfLeadingZeros_0f7a4_32 : decode cJ6_numberOfLeadingZeros_0f7a4 32 = .ok (.istore_n 0, 1) := by decide +kernel
theorem dJ6_numberOfLeadingZeros_0f7a4_33 : decode cJ6_numberOfLeadingZeros_0f7a4 33 = .ok (.iload_n 0, 1) := by decide +kernel
theorem dJ6_numberOfLeadingZeros_0f7a4_34 : decode cJ6_numberOfLeadingZeros_0f7a4 34 = .ok (.sipush 256, 3) := by decide +kernel
theorem dJ6_numberOfLeadingZeros_0f7a4_37 : decode cJ6_numberOfLeadingZeros_0f7a4 37 = .ok (.if_icmp .lt 11, 3) := by decide +kernel
theorem dJ6_numberOfLeadingZeros_0f7a4_40 : decode cJ6_numberOfLeadingZeros_0f7a4 40 = .ok (.iinc 1 (-8), 3) := by decide +kernel
theorem dJ6_numberOfLeadingZeros_0f7a4_43 : decode cJ6_numberOfLeadingZeros_0f7a4 43 = .ok (.iload_n 0, 1) := by decide +kernel
theorem dJ6_numberOfLeadingZeros_0f7a4_44 : decode cJ6_numberOfLeadingZeros_0f7a4 44 = .ok (.bipush 8, 2) := by decide +kernel
theorem dJ6_numberOfLeadingZeros_0f7a4_46 : decode cJ6_numberOfLeadingZeros_0f7a4 46 = .ok (.iushr, 1) := by decide +kernel
theorem dJ6_numberOfLeadingZeros_0f7a4_47 : decode cJ6_numberOfLeadingZeros_0f7a4 47 = .ok (.istore_n 0, 1) := by decide +kernel
theorem dJ6_numberOfLeadingZeros_0f7a4_48 : decode cJ6_numberOfLeadingZeros_0f7a4 48 = .ok (.iload_n 0, 1) := by decide +kernel
theorem dJ6_numberOfLeadingZeros_0f7a4_49 : decode cJ6_numberOfLeadingZeros_0f7a4 49 = .ok (.bipush 16, 2) := by decide +kernel
theorem dJ6_numberOfLeadingZeros_0f7a4_51 : decode cJ6_numberOfLeadingZeros_0f7a4 51 = .ok (.if_icmp .lt 10, 3) := by decide +kernel
theorem dJ6_numberOfLeadingZeros_0f7a4_54 : decode cJ6_numberOfLeadingZeros_0f7a4 54 = .ok (.iinc 1 (-4), 3) := by decide +kernel
theorem dJ6_numberOfLeadingZeros_0f7a4_57 : decode cJ6_numberOfLeadingZeros_0f7a4 57 = .ok (.iload_n 0, 1) := by decide +kernel
theorem dJ6_numberOfLeadingZeros_0f7a4_58 : decode cJ6_numberOfLeadingZeros_0f7a4 58 = .ok (.iconst 4, 1) := by decide +kernel
theorem dJ6_numberOfLeadingZeros_0f7a4_59 : decode cJ6_numberOfLeadingZeros_0f7a4 59 = .ok (.iushr, 1) := by decide +kernel
theorem dJ6_numberOfLeadingZeros_0f7a4_60 : decode cJ6_numberOfLeadingZeros_0f7a4 60 = .ok (.istore_n 0, 1) := by decide +kernel
theorem dJ6_numberOfLeadingZeros_0f7a4_61 : decode cJ6_numberOfLeadingZeros_0f7a4 61 = .ok (.iload_n 0, 1) := by decide +kernel
theorem dJ6_numberOfLeadingZeros_0f7a4_62 : decode cJ6_numberOfLeadingZeros_0f7a4 62 = .ok (.iconst 4, 1) := by decide +kernel
theorem dJ6_numberOfLeadingZeros_0f7a4_63 : decode cJ6_numberOfLeadingZeros_0f7a4 63 = .ok (.if_icmp .lt 10, 3) := by decide +kernel
theorem dJ6_numberOfLeadingZeros_0f7a4_66 : decode cJ6_numberOfLeadingZeros_0f7a4 66 = .ok (.iinc 1 (-2), 3) := by decide +kernel
theorem dJ6_numberOfLeadingZeros_0f7a4_69 : decode cJ6_numberOfLeadingZeros_0f7a4 69 = .ok (.iload_n 0, 1) := by decide +kernel
theorem dJ6_numberOfLeadingZeros_0f7a4_70 : decode cJ6_numberOfLeadingZeros_0f7a4 70 = .ok (.iconst 2, 1) := by decide +kernel
theorem dJ6_numberOfLeadingZeros_0f7a4_71 : decode cJ6_numberOfLeadingZeros_0f7a4 71 = .ok (.iushr, 1) := by decide +kernel
theorem dJ6_numberOfLeadingZeros_0f7a4_72 : decode cJ6_numberOfLeadingZeros_0f7a4 72 = .ok (.istore_n 0, 1) := by decide +kernel
theorem dJ6_numberOfLeadingZeros_0f7a4_73 : decode cJ6_numberOfLeadingZeros_0f7a4 73 = .ok (.iload_n 1, 1) := by decide +kernel
theorem dJ6_numberOfLeadingZeros_0f7a4_74 : decode cJ6_numberOfLeadingZeros_0f7a4 74 = .ok (.iload_n 0, 1) := by decide +kernel
theorem dJ6_numberOfLeadingZeros_0f7a4_75 : decode cJ6_numberOfLeadingZeros_0f7a4 75 = .ok (.iconst 1, 1) := by decide +kernel
theorem dJ6_numberOfLeadingZeros_0f7a4_76 : decode cJ6_numberOfLeadingZeros_0f7a4 76 = .ok (.iushr, 1) := by decide +kernel
theorem dJ6_numberOfLeadingZeros_0f7a4_77 : decode cJ6_numberOfLeadingZeros_0f7a4 77 = .ok (.isub, 1) := by decide +kernel
theorem dJ6_numberOfLeadingZeros_0f7a4_78 : decode cJ6_numberOfLeadingZeros_0f7a4 78 = .ok (.ireturn, 1) := by decide +kernel
theorem dJ6_numberOfTrailingZeros_0f7a4_0 : decode cJ6_numberOfTrailingZeros_0f7a4 0 = .ok (.iload_n 0, 1) := by decide +kernel
theorem dJ6_numberOfTrailingZeros_0f7a4_1 : decode cJ6_numberOfTrailingZeros_0f7a4 1 = .ok (.iconst (-1), 1) := by decide +kernel
theorem dJ6_numberOfTrailingZeros_0f7a4_2 : decode cJ6_numberOfTrailingZeros_0f7a4 2 = .ok (.ixor, 1) := by decide +kernel
theorem dJ6_numberOfTrailingZeros_0f7a4_3 : decode cJ6_numberOfTrailingZeros_0f7a4 3 = .ok (.iload_n 0, 1) := by decide +kernel
theorem dJ6_numberOfTrailingZeros_0f7a4_4 : decode cJ6_numberOfTrailingZeros_0f7a4 4 = .ok (.iconst 1, 1) := by decide +kernel
theorem dJ6_numberOfTrailingZeros_0f7a4_5 : decode cJ6_numberOfTrailingZeros_0f7a4 5 = .ok (.isub, 1) := by decide +kernel
theorem dJ6_numberOfTrailingZeros_0f7a4_6 : decode cJ6_numberOfTrailingZeros_0f7a4 6 = .ok (.iand, 1) := by decide +kernel
theorem dJ6_numberOfTrailingZeros_0f7a4_7 : decode cJ6_numberOfTrailingZeros_0f7a4 7 = .ok (.istore_n 0, 1) := by decide +kernel
theorem dJ6_numberOfTrailingZeros_0f7a4_8 : decode cJ6_numberOfTrailingZeros_0f7a4 8 = .ok (.iload_n 0, 1) := by decide +kernel
theorem dJ6_numberOfTrailingZeros_0f7a4_9 : decode cJ6_numberOfTrailingZeros_0f7a4 9 = .ok (.ifCond .gt 8, 3) := by decide +kernel
theorem dJ6_numberOfTrailingZeros_0f7a4_12 : decode cJ6_numberOfTrailingZeros_0f7a4 12 = .ok (.iload_n 0, 1) := by decide +kernel
theorem dJ6_numberOfTrailingZeros_0f7a4_13 : decode cJ6_numberOfTrailingZeros_0f7a4 13 = .ok (.bipush 32, 2) := by decide +kernel
theorem dJ6_numberOfTrailingZeros_0f7a4_15 : decode cJ6_numberOfTrailingZeros_0f7a4 15 = .ok (.iand, 1) := by decide +kernel
theorem dJ6_numberOfTrailingZeros_0f7a4_16 : decode cJ6_numberOfTrailingZeros_0f7a4 16 = .ok (.ireturn, 1) := by decide +kernel
theorem dJ6_numberOfTrailingZeros_0f7a4_17 : decode cJ6_numberOfTrailingZeros_0f7a4 17 = .ok (.iconst 1, 1) := by decide +kernel
theorem dJ6_numberOfTrailingZeros_0f7a4_18 : decode cJ6_numberOfTrailingZeros_0f7a4 18 = .ok (.istore_n 1, 1) := by decide +kernel
theorem dJ6_numberOfTrailingZeros_0f7a4_19 : decode cJ6_numberOfTrailingZeros_0f7a4 19 = .ok (.iload_n 0, 1) := by decide +kernel
theorem dJ6_numberOfTrailingZeros_0f7a4_20 : decode cJ6_numberOfTrailingZeros_0f7a4 20 = .ok (.ldc_w 264, 3) := by decide +kernel
theorem dJ6_numberOfTrailingZeros_0f7a4_23 : decode cJ6_numberOfTrailingZeros_0f7a4 23 = .ok (.if_icmp .le 11, 3) := by decide +kernel
theorem dJ6_numberOfTrailingZeros_0f7a4_26 : decode cJ6_numberOfTrailingZeros_0f7a4 26 = .ok (.iinc 1 16, 3) := by decide +kernel
theorem dJ6_numberOfTrailingZeros_0f7a4_29 : decode cJ6_numberOfTrailingZeros_0f7a4 29 = .ok (.iload_n 0, 1) := by decide +kernel
theorem dJ6_numberOfTrailingZeros_0f7a4_30 : decode cJ6_numberOfTrailingZeros_0f7a4 30 = .ok (.bipush 16, 2) := by decide +kernel
theorem dJ6_numberOfTrailingZeros_0f7a4_32 : decode cJ6_numberOfTrailingZeros_0f7a4 32 = .ok (.iushr, 1) := by decide +kernel
theorem dJ6_numberOfTrailingZeros_0f7a4_33 : decode cJ6_numberOfTrailingZeros_0f7a4 33 = .ok (.istore_n 0, 1) := by decide +kernel
theorem dJ6_numberOfTrailingZeros_0f7a4_34 : decode cJ6_numberOfTrailingZeros_0f7a4 34 = .ok (.iload_n 0, 1) := by decide +kernel
theorem dJ6_numberOfTrailingZeros_0f7a4_35 : decode cJ6_numberOfTrailingZeros_0f7a4 35 = .ok (.sipush 256, 3) := by decide +kernel
theorem dJ6_numberOfTrailingZeros_0f7a4_38 : decode cJ6_numberOfTrailingZeros_0f7a4 38 = .ok (.if_icmp .le 11, 3) := by decide +kernel
theorem dJ6_numberOfTrailingZeros_0f7a4_41 : decode cJ6_numberOfTrailingZeros_0f7a4 41 = .ok (.iinc 1 8, 3) := by decide +kernel
theorem dJ6_numberOfTrailingZeros_0f7a4_44 : decode cJ6_numberOfTrailingZeros_0f7a4 44 = .ok (.iload_n 0, 1) := by decide +kernel
theorem dJ6_numberOfTrailingZeros_0f7a4_45 : decode cJ6_numberOfTrailingZeros_0f7a4 45 = .ok (.bipush 8, 2) := by decide +kernel
theorem dJ6_numberOfTrailingZeros_0f7a4_47 : decode cJ6_numberOfTrailingZeros_0f7a4 47 = .ok (.iushr, 1) := by decide +kernel
theorem dJ6_numberOfTrailingZeros_0f7a4_48 : decode cJ6_numberOfTrailingZeros_0f7a4 48 = .ok (.istore_n 0, 1) := by decide +kernel
theorem dJ6_numberOfTrailingZeros_0f7a4_49 : decode cJ6_numberOfTrailingZeros_0f7a4 49 = .ok (.iload_n 0, 1) := by decide +kernel
theorem dJ6_numberOfTrailingZeros_0f7a4_50 : decode cJ6_numberOfTrailingZeros_0f7a4 50 = .ok (.bipush 16, 2) := by decide +kernel
theorem dJ6_numberOfTrailingZeros_0f7a4_52 : decode cJ6_numberOfTrailingZeros_0f7a4 52 = .ok (.if_icmp .le 10, 3) := by decide +kernel
theorem dJ6_numberOfTrailingZeros_0f7a4_55 : decode cJ6_numberOfTrailingZeros_0f7a4 55 = .ok (.iinc 1 4, 3) := by decide +kernel
theorem dJ6_numberOfTrailingZeros_0f7a4_58 : decode cJ6_numberOfTrailingZeros_0f7a4 58 = .ok (.iload_n 0, 1) := by decide +kernel
theorem dJ6_numberOfTrailingZeros_0f7a4_59 : decode cJ6_numberOfTrailingZeros_0f7a4 59 = .ok (.iconst 4, 1) := by decide +kernel
theorem dJ6_numberOfTrailingZeros_0f7a4_60 : decode cJ6_numberOfTrailingZeros_0f7a4 60 = .ok (.iushr, 1) := by decide +kernel
theorem dJ6_numberOfTrailingZeros_0f7a4_61 : decode cJ6_numberOfTrailingZeros_0f7a4 61 = .ok (.istore_n 0, 1) := by decide +kernel
theorem dJ6_numberOfTrailingZeros_0f7a4_62 : decode cJ6_numberOfTrailingZeros_0f7a4 62 = .ok (.iload_n 0, 1) := by decide +kernel
theorem dJ6_numberOfTrailingZeros_0f7a4_63 : decode cJ6_numberOfTrailingZeros_0f7a4 63 = .ok (.iconst 4, 1) := by decide +kernel
theorem dJ6_numberOfTrailingZeros_0f7a4_64 : decode cJ6_numberOfTrailingZeros_0f7a4 64 = .ok (.if_icmp .le 10, 3) := by decide +kernel
theorem dJ6_numberOfTrailingZeros_0f7a4_67 : decode cJ6_numberOfTrailingZeros_0f7a4 67 = .ok (.iinc 1 2, 3) := by decide +kernel
theorem dJ6_numberOfTrailingZeros_0f7a4_70 : decode cJ6_numberOfTrailingZeros_0f7a4 70 = .ok (.iload_n 0, 1) := by decide +kernel
theorem dJ6_numberOfTrailingZeros_0f7a4_71 : decode cJ6_numberOfTrailingZeros_0f7a4 71 = .ok (.iconst 2, 1) := by decide +kernel
theorem dJ6_numberOfTrailingZeros_0f7a4_72 : decode cJ6_numberOfTrailingZeros_0f7a4 72 = .ok (.iushr, 1) := by decide +kernel
theorem dJ6_numberOfTrailingZeros_0f7a4_73 : decode cJ6_numberOfTrailingZeros_0f7a4 73 = .ok (.istore_n 0, 1) := by decide +kernel
theorem dJ6_numberOfTrailingZeros_0f7a4_74 : decode cJ6_numberOfTrailingZeros_0f7a4 74 = .ok (.iload_n 1, 1) := by decide +kernel
theorem dJ6_numberOfTrailingZeros_0f7a4_75 : decode cJ6_numberOfTrailingZeros_0f7a4 75 = .ok (.iload_n 0, 1) := by decide +kernel
theorem dJ6_numberOfTrailingZeros_0f7a4_76 : decode cJ6_numberOfTrailingZeros_0f7a4 76 = .ok (.iconst 1, 1) := by decide +kernel
theorem dJ6_numberOfTrailingZeros_0f7a4_77 : decode cJ6_numberOfTrailingZeros_0f7a4 77 = .ok (.iushr, 1) := by decide +kernel
theorem dJ6_numberOfTrailingZeros_0f7a4_78 : decode cJ6_numberOfTrailingZeros_0f7a4 78 = .ok (.iadd, 1) := by decide +kernel
theorem dJ6_numberOfTrailingZeros_0f7a4_79 : decode cJ6_numberOfTrailingZeros_0f7a4 79 = .ok (.ireturn, 1) := by decide +kernel
theorem dJ6_bitCount_0f7a4_0 : decode cJ6_bitCount_0f7a4 0 = .ok (.iload_n 0, 1) := by decide +kernel
theorem dJ6_bitCount_0f7a4_1 : decode cJ6_bitCount_0f7a4 1 = .ok (.iload_n 0, 1) := by decide +kernel
theorem dJ6_bitCount_0f7a4_2 : decode cJ6_bitCount_0f7a4 2 = .ok (.iconst 1, 1) := by decide +kernel
theorem dJ6_bitCount_0f7a4_3 : decode cJ6_bitCount_0f7a4 3 = .ok (.iushr, 1) := by decide +kernel
theorem dJ6_bitCount_0f7a4_4 : decode cJ6_bitCount_0f7a4 4 = .ok (.ldc_w 265, 3) := by decide +kernel
theorem dJ6_bitCount_0f7a4_7 : decode cJ6_bitCount_0f7a4 7 = .ok (.iand, 1) := by decide +kernel
theorem dJ6_bitCount_0f7a4_8 : decode cJ6_bitCount_0f7a4 8 = .ok (.isub, 1) := by decide +kernel
theorem dJ6_bitCount_0f7a4_9 : decode cJ6_bitCount_0f7a4 9 = .ok (.istore_n 0, 1) := by decide +kernel
theorem dJ6_bitCount_0f7a4_10 : decode cJ6_bitCount_0f7a4 10 = .ok (.iload_n 0, 1) := by decide +kernel
theorem dJ6_bitCount_0f7a4_11 : decode cJ6_bitCount_0f7a4 11 = .ok (.ldc_w 266, 3) := by decide +kernel
theorem dJ6_bitCount_0f7a4_14 : decode cJ6_bitCount_0f7a4 14 = .ok (.iand, 1) := by decide +kernel
theorem dJ6_bitCount_0f7a4_15 : decode cJ6_bitCount_0f7a4 15 = .ok (.iload_n 0, 1) := by decide +kernel
theorem dJ6_bitCount_0f7a4_16 : decode cJ6_bitCount_0f7a4 16 = .ok (.iconst 2, 1) := by decide +kernel
theorem dJ6_bitCount_0f7a4_17 : decode cJ6_bitCount_0f7a4 17 = .ok (.iushr, 1) := by decide +kernel
theorem dJ6_bitCount_0f7a4_18 : decode cJ6_bitCount_0f7a4 18 = .ok (.ldc_w 266, 3) := by decide +kernel
theorem dJ6_bitCount_0f7a4_21 : decode cJ6_bitCount_0f7a4 21 = .ok (.iand, 1) := by decide +kernel
theorem dJ6_bitCount_0f7a4_22 : decode cJ6_bitCount_0f7a4 22 = .ok (.iadd, 1) := by decide +kernel
theorem dJ6_bitCount_0f7a4_23 : decode cJ6_bitCount_0f7a4 23 = .ok (.istore_n 0, 1) := by decide +kernel
theorem dJ6_bitCount_0f7a4_24 : decode cJ6_bitCount_0f7a4 24 = .ok (.iload_n 0, 1) := by decide +kernel
theorem dJ6_bitCount_0f7a4_25 : decode cJ6_bitCount_0f7a4 25 = .ok (.iload_n 0, 1) := by decide +kernel
theorem dJ6_bitCount_0f7a4_26 : decode cJ6_bitCount_0f7a4 26 = .ok (.iconst 4, 1) := by decide +kernel
theorem dJ6_bitCount_0f7a4_27 : decode cJ6_bitCount_0f7a4 27 = .ok (.iushr, 1) := by decide +kernel
theorem dJ6_bitCount_0f7a4_28 : decode cJ6_bitCount_0f7a4 28 = .ok (.iadd, 1) := by decide +kernel
theorem dJ6_bitCount_0f7a4_29 : decode cJ6_bitCount_0f7a4 29 = .ok (.ldc_w 267, 3) := by decide +kernel
theorem dJ6_bitCount_0f7a4_32 : decode cJ6_bitCount_0f7a4 32 = .ok (.iand, 1) := by decide +kernel
theorem dJ6_bitCount_0f7a4_33 : decode cJ6_bitCount_0f7a4 33 = .ok (.istore_n 0, 1) := by decide +kernel
theorem dJ6_bitCount_0f7a4_34 : decode cJ6_bitCount_0f7a4 34 = .ok (.iload_n 0, 1) := by decide +kernel
theorem dJ6_bitCount_0f7a4_35 : decode cJ6_bitCount_0f7a4 35 = .ok (.iload_n 0, 1) := by decide +kernel
theorem dJ6_bitCount_0f7a4_36 : decode cJ6_bitCount_0f7a4 36 = .ok (.bipush 8, 2) := by decide +kernel
theorem dJ6_bitCount_0f7a4_38 : decode cJ6_bitCount_0f7a4 38 = .ok (.iushr, 1) := by decide +kernel
theorem dJ6_bitCount_0f7a4_39 : decode cJ6_bitCount_0f7a4 39 = .ok (.iadd, 1) := by decide +kernel
theorem dJ6_bitCount_0f7a4_40 : decode cJ6_bitCount_0f7a4 40 = .ok (.istore_n 0, 1) := by decide +kernel
theorem dJ6_bitCount_0f7a4_41 : decode cJ6_bitCount_0f7a4 41 = .ok (.iload_n 0, 1) := by decide +kernel
theorem dJ6_bitCount_0f7a4_42 : decode cJ6_bitCount_0f7a4 42 = .ok (.iload_n 0, 1) := by decide +kernel
theorem dJ6_bitCount_0f7a4_43 : decode cJ6_bitCount_0f7a4 43 = .ok (.bipush 16, 2) := by decide +kernel
theorem dJ6_bitCount_0f7a4_45 : decode cJ6_bitCount_0f7a4 45 = .ok (.iushr, 1) := by decide +kernel
theorem dJ6_bitCount_0f7a4_46 : decode cJ6_bitCount_0f7a4 46 = .ok (.iadd, 1) := by decide +kernel
theorem dJ6_bitCount_0f7a4_47 : decode cJ6_bitCount_0f7a4 47 = .ok (.istore_n 0, 1) := by decide +kernel
theorem dJ6_bitCount_0f7a4_48 : decode cJ6_bitCount_0f7a4 48 = .ok (.iload_n 0, 1) := by decide +kernel
theorem dJ6_bitCount_0f7a4_49 : decode cJ6_bitCount_0f7a4 49 = .ok (.bipush 63, 2) := by decide +kernel
theorem dJ6_bitCount_0f7a4_51 : decode cJ6_bitCount_0f7a4 51 = .ok (.iand, 1) := by decide +kernel
theorem dJ6_bitCount_0f7a4_52 : decode cJ6_bitCount_0f7a4 52 = .ok (.ireturn, 1) := by decide +kernel
theorem dJ9_max_7cf53_0 : decode cJ9_max_7cf53 0 = .ok (.iload_n 0, 1) := by decide +kernel
theorem dJ9_max_7cf53_1 : decode cJ9_max_7cf53 1 = .ok (.iload_n 1, 1) := by decide +kernel
theorem dJ9_max_7cf53_2 : decode cJ9_max_7cf53 2 = .ok (.if_icmp .lt 7, 3) := by decide +kernel
theorem dJ9_max_7cf53_5 : decode cJ9_max_7cf53 5 = .ok (.iload_n 0, 1) := by decide +kernel
theorem dJ9_max_7cf53_6 : decode cJ9_max_7cf53 6 = .ok (.goto 4, 3) := by decide +kernel
theorem dJ9_max_7cf53_9 : decode cJ9_max_7cf53 9 = .ok (.iload_n 1, 1) := by decide +kernel
theorem dJ9_max_7cf53_10 : decode cJ9_max_7cf53 10 = .ok (.ireturn, 1) := by decide +kernel
theorem dJ9_min_7cf53_0 : decode cJ9_min_7cf53 0 = .ok (.iload_n 0, 1) := by decide +kernel
theorem dJ9_min_7cf53_1 : decode cJ9_min_7cf53 1 = .ok (.iload_n 1, 1) := by decide +kernel
theorem dJ9_min_7cf53_2 : decode cJ9_min_7cf53 2 = .ok (.if_icmp .gt 7, 3) := by decide +kernel
theorem dJ9_min_7cf53_5 : decode cJ9_min_7cf53 5 = .ok (.iload_n 0, 1) := by decide +kernel
theorem dJ9_min_7cf53_6 : decode cJ9_min_7cf53 6 = .ok (.goto 4, 3) := by decide +kernel
theorem dJ9_min_7cf53_9 : decode cJ9_min_7cf53 9 = .ok (.iload_n 1, 1) := by decide +kernel
theorem dJ9_min_7cf53_10 : decode cJ9_min_7cf53 10 = .ok (.ireturn, 1) := by decide +kernel
theorem dJ0_length_8abf5_0 : decode cJ0_length_8abf5 0 = .ok (.aload_n 0, 1) := by decide +kernel
theorem dJ0_length_8abf5_1 : decode cJ0_length_8abf5 1 = .ok (.getfield 9, 3) := by decide +kernel
theorem dJ0_length_8abf5_4 : decode cJ0_length_8abf5 4 = .ok (.arraylength, 1) := by decide +kernel
theorem dJ0_length_8abf5_5 : decode cJ0_length_8abf5 5 = .ok (.aload_n 0, 1) := by decide +kernel
theorem dJ0_length_8abf5_6 : decode cJ0_length_8abf5 6 = .ok (.invokevirtual 335, 3) := by decide +kernel
theorem dJ0_length_8abf5_9 : decode cJ0_length_8abf5 9 = .ok (.ishr, 1) := by decide +kernel
theorem dJ0_length_8abf5_10 : decode cJ0_length_8abf5 10 = .ok (.ireturn, 1) := by decide +kernel
theorem dJ0_isEmpty_aae02_0 : decode cJ0_isEmpty_aae02 0 = .ok (.aload_n 0, 1) := by decide +kernel
theorem dJ0_isEmpty_aae02_1 : decode cJ0_isEmpty_aae02 1 = .ok (.getfield 9, 3) := by decide +kernel
theorem dJ0_isEmpty_aae02_4 : decode cJ0_isEmpty_aae02 4 = .ok (.arraylength, 1) := by decide +kernel
theorem dJ0_isEmpty_aae02_5 : decode cJ0_isEmpty_aae02 5 = .ok (.ifCond .ne 7, 3) := by decide +kernel
theorem dJ0_isEmpty_aae02_8 : decode cJ0_isEmpty_aae02 8 = .ok (.iconst 1, 1) := by decide +kernel
theorem dJ0_isEmpty_aae02_9 : decode cJ0_isEmpty_aae02 9 = .ok (.goto 4, 3) := by decide +kernel
theorem dJ0_isEmpty_aae02_12 : decode cJ0_isEmpty_aae02 12 = .ok (.iconst 0, 1) := by decide +kernel
theorem dJ0_isEmpty_aae02_13 : decode cJ0_isEmpty_aae02 13 = .ok (.ireturn, 1) := by decide +kernel
theorem dJ0_charAt_5068e_0 : decode cJ0_charAt_5068e 0 = .ok (.aload_n 0, 1) := by decide +kernel
theorem dJ0_charAt_5068e_1 : decode cJ0_charAt_5068e 1 = .ok (.invokevirtual 492, 3) := by decide +kernel
theorem dJ0_charAt_5068e_4 : decode cJ0_charAt_5068e 4 = .ok (.ifCond .eq 12, 3) := by decide +kernel
theorem dJ0_charAt_5068e_7 : decode cJ0_charAt_5068e 7 = .ok (.aload_n 0, 1) := by decide +kernel
theorem dJ0_charAt_5068e_8 : decode cJ0_charAt_5068e 8 = .ok (.getfield 9, 3) := by decide +kernel
theorem dJ0_charAt_5068e_11 : decode cJ0_charAt_5068e 11 = .ok (.iload_n 1, 1) := by decide +kernel
theorem dJ0_charAt_5068e_12 : decode cJ0_charAt_5068e 12 = .ok (.invokestatic 495, 3) := by decide +kernel
theorem dJ0_charAt_5068e_15 : decode cJ0_charAt_5068e 15 = .ok (.ireturn, 1) := by decide +kernel
theorem dJ0_charAt_5068e_16 : decode cJ0_charAt_5068e 16 = .ok (.aload_n 0, 1) := by decide +kernel
theorem dJ0_charAt_5068e_17 : decode cJ0_charAt_5068e 17 = .ok (.getfield 9, 3) := by decide +kernel
theorem dJ0_charAt_5068e_20 : decode cJ0_charAt_5068e 20 = .ok (.iload_n 1, 1) := by decide +kernel
theorem dJ0_charAt_5068e_21 : decode cJ0_charAt_5068e 21 = .ok (.invokestatic 498, 3) := by decide +kernel
theorem dJ0_charAt_5068e_24 : decode cJ0_charAt_5068e 24 = .ok (.ireturn, 1) := by decide +kernel
theorem dJ0_indexOf_0f7a4_0 : decode cJ0_indexOf_0f7a4 0 = .ok (.aload_n 0, 1) := by decide +kernel
theorem dJ0_indexOf_0f7a4_1 : decode cJ0_indexOf_0f7a4 1 = .ok (.iload_n 1, 1) := by decide +kernel
theorem dJ0_indexOf_0f7a4_2 : decode cJ0_indexOf_0f7a4 2 = .ok (.iconst 0, 1) := by decide +kernel
theorem dJ0_indexOf_0f7a4_3 : decode cJ0_indexOf_0f7a4 3 = .ok (.invokevirtual 633, 3) := by decide +kernel
theorem dJ0_indexOf_0f7a4_6 : decode cJ0_indexOf_0f7a4 6 = .ok (.ireturn, 1) := by decide +kernel
theorem dJ0_indexOf_7cf53_0 : decode cJ0_indexOf_7cf53 0 = .ok (.aload_n 0, 1) := by decide +kernel
theorem dJ0_indexOf_7cf53_1 : decode cJ0_indexOf_7cf53 1 = .ok (.invokevirtual 492, 3) := by decide +kernel
theorem dJ0_indexOf_7cf53_4 : decode cJ0_indexOf_7cf53 4 = .ok (.ifCond .eq 19, 3) := by decide +kernel
theorem dJ0_indexOf_7cf53_7 : decode cJ0_indexOf_7cf53 7 = .ok (.aload_n 0, 1) := by decide +kernel
theorem dJ0_indexOf_7cf53_8 : decode cJ0_indexOf_7cf53 8 = .ok (.getfield 9, 3) := by decide +kernel
theorem dJ0_indexOf_7cf53_11 : decode cJ0_indexOf_7cf53 11 = .ok (.iload_n 1, 1) := by decide +kernel
theorem dJ0_indexOf_7cf53_12 : decode cJ0_indexOf_7cf53 12 = .ok (.iload_n 2, 1) := by decide +kernel
theorem dJ0_indexOf_7cf53_13 : decode cJ0_indexOf_7cf53 13 = .ok (.aload_n 0, 1) := by decide +kernel
theorem dJ0_indexOf_7cf53_14 : decode cJ0_indexOf_7cf53 14 = .ok (.invokevirtual 505, 3) := by decide +kernel
theorem dJ0_indexOf_7cf53_17 : decode cJ0_indexOf_7cf53 17 = .ok (.invokestatic 637, 3) := by decide +kernel
theorem dJ0_indexOf_7cf53_20 : decode cJ0_indexOf_7cf53 20 = .ok (.goto 16, 3) := by decide +kernel
theorem dJ0_indexOf_7cf53_23 : decode cJ0_indexOf_7cf53 23 = .ok (.aload_n 0, 1) := by decide +kernel
theorem dJ0_indexOf_7cf53_24 : decode cJ0_indexOf_7cf53 24 = .ok (.getfield 9, 3) := by decide +kernel
theorem dJ0_indexOf_7cf53_27 : decode cJ0_indexOf_7cf53 27 = .ok (.iload_n 1, 1) := by decide +kernel
theorem dJ0_indexOf_7cf53_28 : decode cJ0_indexOf_7cf53 28 = .ok (.iload_n 2, 1) := by decide +kernel
theorem dJ0_indexOf_7cf53_29 : decode cJ0_indexOf_7cf53 29 = .ok (.aload_n 0, 1) := by decide +kernel
theorem dJ0_indexOf_7cf53_30 : decode cJ0_indexOf_7cf53 30 = .ok (.invokevirtual 505, 3) := by decide +kernel
theorem dJ0_indexOf_7cf53_33 : decode cJ0_indexOf_7cf53 33 = .ok (.invokestatic 640, 3) := by decide +kernel
theorem dJ0_indexOf_7cf53_36 : decode cJ0_indexOf_7cf53 36 = .ok (.ireturn, 1) := by decide +kernel
theorem dJ0_coder_7d493_0 : decode cJ0_coder_7d493 0 = .ok (.getstatic 38, 3) := by decide +kernel
theorem dJ0_coder_7d493_3 : decode cJ0_coder_7d493 3 = .ok (.ifCond .eq 10, 3) := by decide +kernel
theorem dJ0_coder_7d493_6 : decode cJ0_coder_7d493 6 = .ok (.aload_n 0, 1) := by decide +kernel
theorem dJ0_coder_7d493_7 : decode cJ0_coder_7d493 7 = .ok (.getfield 15, 3) := by decide +kernel
theorem dJ0_coder_7d493_10 : decode cJ0_coder_7d493 10 = .ok (.goto 4, 3) := by decide +kernel
theorem dJ0_coder_7d493_13 : decode cJ0_coder_7d493 13 = .ok (.iconst 1, 1) := by decide +kernel
theorem dJ0_coder_7d493_14 : decode cJ0_coder_7d493 14 = .ok (.ireturn, 1) := by decide +kernel
theorem dJ0_isLatin1_aae02_0 : decode cJ0_isLatin1_aae02 0 = .ok (.getstatic 38, 3) := by decide +kernel
theorem dJ0_isLatin1_aae02_3 : decode cJ0_isLatin1_aae02 3 = .ok (.ifCond .eq 14, 3) := by decide +kernel
theorem dJ0_isLatin1_aae02_6 : decode cJ0_isLatin1_aae02 6 = .ok (.aload_n 0, 1) := by decide +kernel
theorem dJ0_isLatin1_aae02_7 : decode cJ0_isLatin1_aae02 7 = .ok (.getfield 15, 3) := by decide +kernel
theorem dJ0_isLatin1_aae02_10 : decode cJ0_isLatin1_aae02 10 = .ok (.ifCond .ne 7, 3) := by decide +kernel
theorem dJ0_isLatin1_aae02_13 : decode cJ0_isLatin1_aae02 13 = .ok (.iconst 1, 1) := by decide +kernel
theorem dJ0_isLatin1_aae02_14 : decode cJ0_isLatin1_aae02 14 = .ok (.goto 4, 3) := by decide +kernel
theorem dJ0_isLatin1_aae02_17 : decode cJ0_isLatin1_aae02 17 = .ok (.iconst 0, 1) := by decide +kernel
theorem dJ0_isLatin1_aae02_18 : decode cJ0_isLatin1_aae02 18 = .ok (.ireturn, 1) := by decide +kernel
theorem dJ0_checkIndex_df160_0 : decode cJ0_checkIndex_df160 0 = .ok (.iload_n 0, 1) := by decide +kernel
theorem dJ0_checkIndex_df160_1 : decode cJ0_checkIndex_df160 1 = .ok (.iload_n 1, 1) := by decide +kernel
theorem dJ0_checkIndex_df160_2 : decode cJ0_checkIndex_df160 2 = .ok (.getstatic 1053, 3) := by decide +kernel
theorem dJ0_checkIndex_df160_5 : decode cJ0_checkIndex_df160 5 = .ok (.invokestatic 1059, 3) := by decide +kernel
theorem dJ0_checkIndex_df160_8 : decode cJ0_checkIndex_df160 8 = .ok (.pop, 1) := by decide +kernel
theorem dJ0_checkIndex_df160_9 : decode cJ0_checkIndex_df160 9 = .ok (.return_, 1) := by decide +kernel
theorem dJ0_checkBoundsBeginEnd_23922_0 : decode cJ0_checkBoundsBeginEnd_23922 0 = .ok (.iload_n 0, 1) := by decide +kernel
theorem dJ0_checkBoundsBeginEnd_23922_1 : decode cJ0_checkBoundsBeginEnd_23922 1 = .ok (.iload_n 1, 1) := by decide +kernel
theorem dJ0_checkBoundsBeginEnd_23922_2 : decode cJ0_checkBoundsBeginEnd_23922 2 = .ok (.iload_n 2, 1) := by decide +kernel
theorem dJ0_checkBoundsBeginEnd_23922_3 : decode cJ0_checkBoundsBeginEnd_23922 3 = .ok (.getstatic 1053, 3) := by decide +kernel
theorem dJ0_checkBoundsBeginEnd_23922_6 : decode cJ0_checkBoundsBeginEnd_23922 6 = .ok (.invokestatic 1062, 3) := by decide +kernel
theorem dJ0_checkBoundsBeginEnd_23922_9 : decode cJ0_checkBoundsBeginEnd_23922 9 = .ok (.pop, 1) := by decide +kernel
theorem dJ0_checkBoundsBeginEnd_23922_10 : decode cJ0_checkBoundsBeginEnd_23922 10 = .ok (.return_, 1) := by decide +kernel
theorem dJ1_charAt_3b067_0 : decode cJ1_charAt_3b067 0 = .ok (.iload_n 1, 1) := by decide +kernel
theorem dJ1_charAt_3b067_1 : decode cJ1_charAt_3b067 1 = .ok (.aload_n 0, 1) := by decide +kernel
theorem dJ1_charAt_3b067_2 : decode cJ1_charAt_3b067 2 = .ok (.arraylength, 1) := by decide +kernel
theorem dJ1_charAt_3b067_3 : decode cJ1_charAt_3b067 3 = .ok (.invokestatic 9, 3) := by decide +kernel
theorem dJ1_charAt_3b067_6 : decode cJ1_charAt_3b067 6 = .ok (.aload_n 0, 1) := by decide +kernel
theorem dJ1_charAt_3b067_7 : decode cJ1_charAt_3b067 7 = .ok (.iload_n 1, 1) := by decide +kernel
theorem dJ1_charAt_3b067_8 : decode cJ1_charAt_3b067 8 = .ok (.baload, 1) := by decide +kernel
theorem dJ1_charAt_3b067_9 : decode cJ1_charAt_3b067 9 = .ok (.sipush 255, 3) := by decide +kernel
theorem dJ1_charAt_3b067_12 : decode cJ1_charAt_3b067 12 = .ok (.iand, 1) := by decide +kernel
theorem dJ1_charAt_3b067_13 : decode cJ1_charAt_3b067 13 = .ok (.i2c, 1) := by decide +kernel
theorem dJ1_charAt_3b067_14 : decode cJ1_charAt_3b067 14 = .ok (.ireturn, 1) := by decide +kernel
theorem dJ1_canEncode_9a6ad_0 : decode cJ1_canEncode_9a6ad 0 = .ok (.iload_n 0, 1) := by decide +kernel
theorem dJ1_canEncode_9a6ad_1 : decode cJ1_canEncode_9a6ad 1 = .ok (.ifCond .lt 14, 3) := by decide +kernel
theorem dJ1_canEncode_9a6ad_4 : decode cJ1_canEncode_9a6ad 4 = .ok (.iload_n 0, 1) := by decide +kernel
theorem dJ1_canEncode_9a6ad_5 : decode cJ1_canEncode_9a6ad 5 = .ok (.sipush 255, 3) := by decide +kernel
theorem dJ1_canEncode_9a6ad_8 : decode cJ1_canEncode_9a6ad 8 = .ok (.if_icmp .gt 7, 3) := by decide +kernel
theorem dJ1_canEncode_9a6ad_11 : decode cJ1_canEncode_9a6ad 11 = .ok (.iconst 1, 1) := by decide +kernel
theorem dJ1_canEncode_9a6ad_12 : decode cJ1_canEncode_9a6ad 12 = .ok (.goto 4, 3) := by decide +kernel
theorem dJ1_canEncode_9a6ad_15 : decode cJ1_canEncode_9a6ad 15 = .ok (.iconst 0, 1) := by decide +kernel
theorem dJ1_canEncode_9a6ad_16 : decode cJ1_canEncode_9a6ad 16 = .ok (.ireturn, 1) := by decide +kernel
theorem dJ1_indexOf_4cfef_0 : decode cJ1_indexOf_4cfef 0 = .ok (.iload_n 1, 1) := by decide +kernel
theorem dJ1_indexOf_4cfef_1 : decode cJ1_indexOf_4cfef 1 = .ok (.invokestatic 88, 3) := by decide +kernel
theorem dJ1_indexOf_4cfef_4 : decode cJ1_indexOf_4cfef 4 = .ok (.ifCond .ne 5, 3) := by decide +kernel
theorem dJ1_indexOf_4cfef_7 : decode cJ1_indexOf_4cfef 7 = .ok (.iconst (-1), 1) := by decide +kernel
theorem dJ1_indexOf_4cfef_8 : decode cJ1_indexOf_4cfef 8 = .ok (.ireturn, 1) := by decide +kernel
theorem dJ1_indexOf_4cfef_9 : decode cJ1_indexOf_4cfef 9 = .ok (.iload_n 2, 1) := by decide +kernel
theorem dJ1_indexOf_4cfef_10 : decode cJ1_indexOf_4cfef 10 = .ok (.iconst 0, 1) := by decide +kernel
theorem dJ1_indexOf_4cfef_11 : decode cJ1_indexOf_4cfef 11 = .ok (.invokestatic 92, 3) := by decide +kernel
theorem dJ1_indexOf_4cfef_14 : decode cJ1_indexOf_4cfef 14 = .ok (.istore_n 2, 1) := by decide +kernel
theorem dJ1_indexOf_4cfef_15 : decode cJ1_indexOf_4cfef 15 = .ok (.iload_n 3, 1) := by decide +kernel
theorem dJ1_indexOf_4cfef_16 : decode cJ1_indexOf_4cfef 16 = .ok (.aload_n 0, 1) := by decide +kernel
theorem dJ1_indexOf_4cfef_17 : decode cJ1_indexOf_4cfef 17 = .ok (.arraylength, 1) := by decide +kernel
theorem dJ1_indexOf_4cfef_18 : decode cJ1_indexOf_4cfef 18 = .ok (.invokestatic 38, 3) := by decide +kernel
theorem dJ1_indexOf_4cfef_21 : decode cJ1_indexOf_4cfef 21 = .ok (.istore_n 3, 1) := by decide +kernel
theorem dJ1_indexOf_4cfef_22 : decode cJ1_indexOf_4cfef 22 = .ok (.iload_n 2, 1) := by decide +kernel
theorem dJ1_indexOf_4cfef_23 : decode cJ1_indexOf_4cfef 23 = .ok (.iload_n 3, 1) := by decide +kernel
theorem dJ1_indexOf_4cfef_24 : decode cJ1_indexOf_4cfef 24 = .ok (.if_icmp .lt 5, 3) := by decide +kernel
theorem dJ1_indexOf_4cfef_27 : decode cJ1_indexOf_4cfef 27 = .ok (.iconst (-1), 1) := by decide +kernel
theorem dJ1_indexOf_4cfef_28 : decode cJ1_indexOf_4cfef 28 = .ok (.ireturn, 1) := by decide +kernel
theorem dJ1_indexOf_4cfef_29 : decode cJ1_indexOf_4cfef 29 = .ok (.aload_n 0, 1) := by decide +kernel
theorem dJ1_indexOf_4cfef_30 : decode cJ1_indexOf_4cfef 30 = .ok (.iload_n 1, 1) := by decide +kernel
theorem dJ1_indexOf_4cfef_31 : decode cJ1_indexOf_4cfef 31 = .ok (.iload_n 2, 1) := by decide +kernel
theorem dJ1_indexOf_4cfef_32 : decode cJ1_indexOf_4cfef 32 = .ok (.iload_n 3, 1) := by decide +kernel
theorem dJ1_indexOf_4cfef_33 : decode cJ1_indexOf_4cfef 33 = .ok (.invokestatic 95, 3) := by decide +kernel
theorem dJ1_indexOf_4cfef_36 : decode cJ1_indexOf_4cfef 36 = .ok (.ireturn, 1) := by decide +kernel
theorem dJ1_indexOfChar_4cfef_0 : decode cJ1_indexOfChar_4cfef 0 = .ok (.iload_n 1, 1) := by decide +kernel
theorem dJ1_indexOfChar_4cfef_1 : decode cJ1_indexOfChar_4cfef 1 = .ok (.i2b, 1) := by decide +kernel
theorem dJ1_indexOfChar_4cfef_2 : decode cJ1_indexOfChar_4cfef 2 = .ok (.istore 4, 2) := by decide +kernel
theorem dJ1_indexOfChar_4cfef_4 : decode cJ1_indexOfChar_4cfef 4 = .ok (.iload_n 2, 1) := by decide +kernel
theorem dJ1_indexOfChar_4cfef_5 : decode cJ1_indexOfChar_4cfef 5 = .ok (.istore 5, 2) := by decide +kernel
theorem dJ1_indexOfChar_4cfef_7 : decode cJ1_indexOfChar_4cfef 7 = .ok (.iload 5, 2) := by decide +kernel
theorem dJ1_indexOfChar_4cfef_9 : decode cJ1_indexOfChar_4cfef 9 = .ok (.iload_n 3, 1) := by decide +kernel
theorem dJ1_indexOfChar_4cfef_10 : decode cJ1_indexOfChar_4cfef 10 = .ok (.if_icmp .ge 21, 3) := by decide +kernel
theorem dJ1_indexOfChar_4cfef_13 : decode cJ1_indexOfChar_4cfef 13 = .ok (.aload_n 0, 1) := by decide +kernel
theorem dJ1_indexOfChar_4cfef_14 : decode cJ1_indexOfChar_4cfef 14 = .ok (.iload 5, 2) := by decide +kernel
theorem dJ1_indexOfChar_4cfef_16 : decode cJ1_indexOfChar_4cfef 16 = .ok (.baload, 1) := by decide +kernel
theorem dJ1_indexOfChar_4cfef_17 : decode cJ1_indexOfChar_4cfef 17 = .ok (.iload 4, 2) := by decide +kernel
theorem dJ1_indexOfChar_4cfef_19 : decode cJ1_indexOfChar_4cfef 19 = .ok (.if_icmp .ne 6, 3) := by decide +kernel
theorem dJ1_indexOfChar_4cfef_22 : decode cJ1_indexOfChar_4cfef 22 = .ok (.iload 5, 2) := by decide +kernel
theorem dJ1_indexOfChar_4cfef_24 : decode cJ1_indexOfChar_4cfef 24 = .ok (.ireturn, 1) := by decide +kernel
theorem dJ1_indexOfChar_4cfef_25 : decode cJ1_indexOfChar_4cfef 25 = .ok (.iinc 5 1, 3) := by decide +kernel
theorem dJ1_indexOfChar_4cfef_28 : decode cJ1_indexOfChar_4cfef 28 = .ok (.goto (-21), 3) := by decide +kernel
theorem dJ1_indexOfChar_4cfef_31 : decode cJ1_indexOfChar_4cfef 31 = .ok (.iconst (-1), 1) := by decide +kernel
theorem dJ1_indexOfChar_4cfef_32 : decode cJ1_indexOfChar_4cfef 32 = .ok (.ireturn, 1) := by decide +kernel
theorem dJ2_getChar_3b067_0 : decode cJ2_getChar_3b067 0 = .ok (.getstatic 44, 3) := by decide +kernel
theorem dJ2_getChar_3b067_3 : decode cJ2_getChar_3b067 3 = .ok (.ifCond .ne 25, 3) := by decide +kernel
theorem dJ2_getChar_3b067_6 : decode cJ2_getChar_3b067 6 = .ok (.iload_n 1, 1) := by decide +kernel
theorem dJ2_getChar_3b067_7 : decode cJ2_getChar_3b067 7 = .ok (.ifCond .lt 11, 3) := by decide +kernel
theorem dJ2_getChar_3b067_10 : decode cJ2_getChar_3b067 10 = .ok (.iload_n 1, 1) := by decide +kernel
theorem dJ2_getChar_3b067_11 : decode cJ2_getChar_3b067 11 = .ok (.aload_n 0, 1) := by decide +kernel
theorem dJ2_getChar_3b067_12 : decode cJ2_getChar_3b067 12 = .ok (.invokestatic 48, 3) := by decide +kernel
theorem dJ2_getChar_3b067_15 : decode cJ2_getChar_3b067 15 = .ok (.if_icmp .lt 13, 3) := by decide +kernel
theorem dJ2_getChar_3b067_18 : decode cJ2_getChar_3b067 18 = .ok (.new 52, 3) := by decide +kernel
theorem dJ2_getChar_3b067_21 : decode cJ2_getChar_3b067 21 = .ok (.dup, 1) := by decide +kernel
theorem dJ2_getChar_3b067_22 : decode cJ2_getChar_3b067 22 = .ok (.ldc 54, 2) := by decide +kernel
theorem dJ2_getChar_3b067_24 : decode cJ2_getChar_3b067 24 = .ok (.invokespecial 56, 3) := by decide +kernel
theorem dJ2_getChar_3b067_27 : decode cJ2_getChar_3b067 27 = .ok (.athrow, 1) := by decide +kernel
theorem dJ2_getChar_3b067_28 : decode cJ2_getChar_3b067 28 = .ok (.iload_n 1, 1) := by decide +kernel
theorem dJ2_getChar_3b067_29 : decode cJ2_getChar_3b067 29 = .ok (.iconst 1, 1) := by decide +kernel
theorem dJ2_getChar_3b067_30 : decode cJ2_getChar_3b067 30 = .ok (.ishl, 1) := by decide +kernel
theorem dJ2_getChar_3b067_31 : decode cJ2_getChar_3b067 31 = .ok (.istore_n 1, 1) := by decide +kernel
theorem dJ2_getChar_3b067_32 : decode cJ2_getChar_3b067 32 = .ok (.aload_n 0, 1) := by decide +kernel
theorem dJ2_getChar_3b067_33 : decode cJ2_getChar_3b067 33 = .ok (.iload_n 1, 1) := by decide +kernel
theorem dJ2_getChar_3b067_34 : decode cJ2_getChar_3b067 34 = .ok (.iinc 1 1, 3) := by decide +kernel
theorem dJ2_getChar_3b067_37 : decode cJ2_getChar_3b067 37 = .ok (.baload, 1) := by decide +kernel
theorem dJ2_getChar_3b067_38 : decode cJ2_getChar_3b067 38 = .ok (.sipush 255, 3) := by decide +kernel
theorem dJ2_getChar_3b067_41 : decode cJ2_getChar_3b067 41 = .ok (.iand, 1) := by decide +kernel
theorem dJ2_getChar_3b067_42 : decode cJ2_getChar_3b067 42 = .ok (.getstatic 59, 3) := by decide +kernel
theorem dJ2_getChar_3b067_45 : decode cJ2_getChar_3b067 45 = .ok (.ishl, 1) := by decide +kernel
theorem dJ2_getChar_3b067_46 : decode cJ2_getChar_3b067 46 = .ok (.aload_n 0, 1) := by decide +kernel
theorem dJ2_getChar_3b067_47 : decode cJ2_getChar_3b067 47 = .ok (.iload_n 1, 1) := by decide +kernel
theorem dJ2_getChar_3b067_48 : decode cJ2_getChar_3b067 48 = .ok (.baload, 1) := by decide +kernel
theorem dJ2_getChar_3b067_49 : decode cJ2_getChar_3b067 49 = .ok (.sipush 255, 3) := by decide +kernel
theorem dJ2_getChar_3b067_52 : decode cJ2_getChar_3b067 52 = .ok (.iand, 1) := by decide +kernel
theorem dJ2_getChar_3b067_53 : decode cJ2_getChar_3b067 53 = .ok (.getstatic 63, 3) := by decide +kernel
theorem dJ2_getChar_3b067_56 : decode cJ2_getChar_3b067 56 = .ok (.ishl, 1) := by decide +kernel
theorem dJ2_getChar_3b067_57 : decode cJ2_getChar_3b067 57 = .ok (.ior, 1) := by decide +kernel
theorem dJ2_getChar_3b067_58 : decode cJ2_getChar_3b067 58 = .ok (.i2c, 1) := by decide +kernel
theorem dJ2_getChar_3b067_59 : decode cJ2_getChar_3b067 59 = .ok (.ireturn, 1) := by decide +kernel
theorem dJ2_length_9d52b_0 : decode cJ2_length_9d52b 0 = .ok (.aload_n 0, 1) := by decide +kernel
theorem dJ2_length_9d52b_1 : decode cJ2_length_9d52b 1 = .ok (.arraylength, 1) := by decide +kernel
theorem dJ2_length_9d52b_2 : decode cJ2_length_9d52b 2 = .ok (.iconst 1, 1) := by decide +kernel
