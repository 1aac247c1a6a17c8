theorem dX8_lots_138 : decode cX8_lots 138 = .ok (.invokevirtual 242, 3) := by decide +kernel
theorem dX8_lots_141 : decode cX8_lots 141 = .ok (.iadd, 1) := by decide +kernel
theorem dX8_lots_142 : decode cX8_lots 142 = .ok (.istore 6, 2) := by decide +kernel
theorem dX8_lots_144 : decode cX8_lots 144 = .ok (.iload 7, 2) := by decide +kernel
theorem dX8_lots_146 : decode cX8_lots 146 = .ok (.aload_n 0, 1) := by decide +kernel
theorem dX8_lots_147 : decode cX8_lots 147 = .ok (.getfield 16, 3) := by decide +kernel
theorem dX8_lots_150 : decode cX8_lots 150 = .ok (.getfield 154, 3) := by decide +kernel
theorem dX8_lots_153 : decode cX8_lots 153 = .ok (.aload_n 0, 1) := by decide +kernel
theorem dX8_lots_154 : decode cX8_lots 154 = .ok (.getfield 10, 3) := by decide +kernel
theorem dX8_lots_157 : decode cX8_lots 157 = .ok (.getfield 154, 3) := by decide +kernel
theorem dX8_lots_160 : decode cX8_lots 160 = .ok (.isub, 1) := by decide +kernel
theorem dX8_lots_161 : decode cX8_lots 161 = .ok (.iadd, 1) := by decide +kernel
theorem dX8_lots_162 : decode cX8_lots 162 = .ok (.istore 7, 2) := by decide +kernel
theorem dX8_lots_164 : decode cX8_lots 164 = .ok (.iinc 8 1, 3) := by decide +kernel
theorem dX8_lots_167 : decode cX8_lots 167 = .ok (.goto (-120), 3) := by decide +kernel
theorem dX8_lots_170 : decode cX8_lots 170 = .ok (.iload_n 3, 1) := by decide +kernel
theorem dX8_lots_171 : decode cX8_lots 171 = .ok (.ifCond .ne 8, 3) := by decide +kernel
theorem dX8_lots_174 : decode cX8_lots 174 = .ok (.iload 6, 2) := by decide +kernel
theorem dX8_lots_176 : decode cX8_lots 176 = .ok (.goto 5, 3) := by decide +kernel
theorem dX8_lots_179 : decode cX8_lots 179 = .ok (.iload 7, 2) := by decide +kernel
theorem dX8_lots_181 : decode cX8_lots 181 = .ok (.ireturn, 1) := by decide +kernel
theorem dX8_image_0 : decode cX8_image 0 = .ok (.aload_n 0, 1) := by decide +kernel
theorem dX8_image_1 : decode cX8_image 1 = .ok (.getfield 19, 3) := by decide +kernel
theorem dX8_image_4 : decode cX8_image 4 = .ok (.aload_n 0, 1) := by decide +kernel
theorem dX8_image_5 : decode cX8_image 5 = .ok (.getfield 10, 3) := by decide +kernel
theorem dX8_image_8 : decode cX8_image 8 = .ok (.invokevirtual 63, 3) := by decide +kernel
theorem dX8_image_11 : decode cX8_image 11 = .ok (.aload_n 0, 1) := by decide +kernel
theorem dX8_image_12 : decode cX8_image 12 = .ok (.iconst 1, 1) := by decide +kernel
theorem dX8_image_13 : decode cX8_image 13 = .ok (.putfield 22, 3) := by decide +kernel
theorem dX8_image_16 : decode cX8_image 16 = .ok (.aload_n 0, 1) := by decide +kernel
theorem dX8_image_17 : decode cX8_image 17 = .ok (.getfield 10, 3) := by decide +kernel
theorem dX8_image_20 : decode cX8_image 20 = .ok (.getfield 148, 3) := by decide +kernel
theorem dX8_image_23 : decode cX8_image 23 = .ok (.ireturn, 1) := by decide +kernel
theorem dX8_on_0 : decode cX8_on 0 = .ok (.aload_n 0, 1) := by decide +kernel
theorem dX8_on_1 : decode cX8_on 1 = .ok (.getfield 22, 3) := by decide +kernel
theorem dX8_on_4 : decode cX8_on 4 = .ok (.ifCond .ne 10, 3) := by decide +kernel
theorem dX8_on_7 : decode cX8_on 7 = .ok (.aload_n 0, 1) := by decide +kernel
theorem dX8_on_8 : decode cX8_on 8 = .ok (.bipush (-3), 2) := by decide +kernel
theorem dX8_on_10 : decode cX8_on 10 = .ok (.invokevirtual 52, 3) := by decide +kernel
theorem dX8_on_13 : decode cX8_on 13 = .ok (.ireturn, 1) := by decide +kernel
theorem dX8_on_14 : decode cX8_on 14 = .ok (.aload_n 0, 1) := by decide +kernel
theorem dX8_on_15 : decode cX8_on 15 = .ok (.getfield 10, 3) := by decide +kernel
theorem dX8_on_18 : decode cX8_on 18 = .ok (.aload_n 0, 1) := by decide +kernel
theorem dX8_on_19 : decode cX8_on 19 = .ok (.getfield 19, 3) := by decide +kernel
theorem dX8_on_22 : decode cX8_on 22 = .ok (.invokevirtual 63, 3) := by decide +kernel
theorem dX8_on_25 : decode cX8_on 25 = .ok (.aload_n 0, 1) := by decide +kernel
theorem dX8_on_26 : decode cX8_on 26 = .ok (.getfield 10, 3) := by decide +kernel
theorem dX8_on_29 : decode cX8_on 29 = .ok (.getfield 148, 3) := by decide +kernel
theorem dX8_on_32 : decode cX8_on 32 = .ok (.ireturn, 1) := by decide +kernel
theorem dX8_count_0 : decode cX8_count 0 = .ok (.iload_n 1, 1) := by decide +kernel
theorem dX8_count_1 : decode cX8_count 1 = .ok (.bipush 11, 2) := by decide +kernel
theorem dX8_count_3 : decode cX8_count 3 = .ok (.if_icmp .lt 19, 3) := by decide +kernel
theorem dX8_count_6 : decode cX8_count 6 = .ok (.iload_n 1, 1) := by decide +kernel
theorem dX8_count_7 : decode cX8_count 7 = .ok (.bipush 16, 2) := by decide +kernel
theorem dX8_count_9 : decode cX8_count 9 = .ok (.if_icmp .gt 13, 3) := by decide +kernel
theorem dX8_count_12 : decode cX8_count 12 = .ok (.aload_n 0, 1) := by decide +kernel
theorem dX8_count_13 : decode cX8_count 13 = .ok (.getfield 41, 3) := by decide +kernel
theorem dX8_count_16 : decode cX8_count 16 = .ok (.iload_n 1, 1) := by decide +kernel
theorem dX8_count_17 : decode cX8_count 17 = .ok (.bipush 10, 2) := by decide +kernel
theorem dX8_count_19 : decode cX8_count 19 = .ok (.isub, 1) := by decide +kernel
theorem dX8_count_20 : decode cX8_count 20 = .ok (.iaload, 1) := by decide +kernel
theorem dX8_count_21 : decode cX8_count 21 = .ok (.ireturn, 1) := by decide +kernel
theorem dX8_count_22 : decode cX8_count 22 = .ok (.iload_n 1, 1) := by decide +kernel
theorem dX8_count_23 : decode cX8_count 23 = .ok (.tableswitch 113 0 7 #[45, 53, 61, 69, 77, 85, 100, 105], 45) := by decide +kernel
theorem dX8_count_68 : decode cX8_count 68 = .ok (.aload_n 0, 1) := by decide +kernel
theorem dX8_count_69 : decode cX8_count 69 = .ok (.getfield 10, 3) := by decide +kernel
theorem dX8_count_72 : decode cX8_count 72 = .ok (.getfield 189, 3) := by decide +kernel
theorem dX8_count_75 : decode cX8_count 75 = .ok (.ireturn, 1) := by decide +kernel
theorem dX8_count_76 : decode cX8_count 76 = .ok (.aload_n 0, 1) := by decide +kernel
theorem dX8_count_77 : decode cX8_count 77 = .ok (.getfield 10, 3) := by decide +kernel
theorem dX8_count_80 : decode cX8_count 80 = .ok (.getfield 148, 3) := by decide +kernel
theorem dX8_count_83 : decode cX8_count 83 = .ok (.ireturn, 1) := by decide +kernel
theorem dX8_count_84 : decode cX8_count 84 = .ok (.aload_n 0, 1) := by decide +kernel
theorem dX8_count_85 : decode cX8_count 85 = .ok (.getfield 10, 3) := by decide +kernel
theorem dX8_count_88 : decode cX8_count 88 = .ok (.getfield 154, 3) := by decide +kernel
theorem dX8_count_91 : decode cX8_count 91 = .ok (.ireturn, 1) := by decide +kernel
theorem dX8_count_92 : decode cX8_count 92 = .ok (.aload_n 0, 1) := by decide +kernel
theorem dX8_count_93 : decode cX8_count 93 = .ok (.getfield 10, 3) := by decide +kernel
theorem dX8_count_96 : decode cX8_count 96 = .ok (.invokevirtual 254, 3) := by decide +kernel
theorem dX8_count_99 : decode cX8_count 99 = .ok (.ireturn, 1) := by decide +kernel
theorem dX8_count_100 : decode cX8_count 100 = .ok (.aload_n 0, 1) := by decide +kernel
theorem dX8_count_101 : decode cX8_count 101 = .ok (.getfield 10, 3) := by decide +kernel
theorem dX8_count_104 : decode cX8_count 104 = .ok (.invokevirtual 242, 3) := by decide +kernel
theorem dX8_count_107 : decode cX8_count 107 = .ok (.ireturn, 1) := by decide +kernel
theorem dX8_count_108 : decode cX8_count 108 = .ok (.aload_n 0, 1) := by decide +kernel
theorem dX8_count_109 : decode cX8_count 109 = .ok (.getfield 10, 3) := by decide +kernel
theorem dX8_count_112 : decode cX8_count 112 = .ok (.aload_n 0, 1) := by decide +kernel
theorem dX8_count_113 : decode cX8_count 113 = .ok (.getfield 10, 3) := by decide +kernel
theorem dX8_count_116 : decode cX8_count 116 = .ok (.invokevirtual 157, 3) := by decide +kernel
theorem dX8_count_119 : decode cX8_count 119 = .ok (.invokevirtual 160, 3) := by decide +kernel
theorem dX8_count_122 : decode cX8_count 122 = .ok (.ireturn, 1) := by decide +kernel
theorem dX8_count_123 : decode cX8_count 123 = .ok (.aload_n 0, 1) := by decide +kernel
theorem dX8_count_124 : decode cX8_count 124 = .ok (.getfield 37, 3) := by decide +kernel
theorem dX8_count_127 : decode cX8_count 127 = .ok (.ireturn, 1) := by decide +kernel
theorem dX8_count_128 : decode cX8_count 128 = .ok (.aload_n 0, 1) := by decide +kernel
theorem dX8_count_129 : decode cX8_count 129 = .ok (.getfield 29, 3) := by decide +kernel
theorem dX8_count_132 : decode cX8_count 132 = .ok (.getfield 60, 3) := by decide +kernel
theorem dX8_count_135 : decode cX8_count 135 = .ok (.ireturn, 1) := by decide +kernel
theorem dX8_count_136 : decode cX8_count 136 = .ok (.bipush (-9), 2) := by decide +kernel
theorem dX8_count_138 : decode cX8_count 138 = .ok (.ireturn, 1) := by decide +kernel
theorem dX8_refuse_0 : decode cX8_refuse 0 = .ok (.iload_n 1, 1) := by decide +kernel
theorem dX8_refuse_1 : decode cX8_refuse 1 = .ok (.ineg, 1) := by decide +kernel
theorem dX8_refuse_2 : decode cX8_refuse 2 = .ok (.istore_n 2, 1) := by decide +kernel
theorem dX8_refuse_3 : decode cX8_refuse 3 = .ok (.iload_n 2, 1) := by decide +kernel
theorem dX8_refuse_4 : decode cX8_refuse 4 = .ok (.ifCond .le 22, 3) := by decide +kernel
theorem dX8_refuse_7 : decode cX8_refuse 7 = .ok (.iload_n 2, 1) := by decide +kernel
theorem dX8_refuse_8 : decode cX8_refuse 8 = .ok (.aload_n 0, 1) := by decide +kernel
theorem dX8_refuse_9 : decode cX8_refuse 9 = .ok (.getfield 41, 3) := by decide +kernel
theorem dX8_refuse_12 : decode cX8_refuse 12 = .ok (.arraylength, 1) := by decide +kernel
theorem dX8_refuse_13 : decode cX8_refuse 13 = .ok (.if_icmp .ge 13, 3) := by decide +kernel
theorem dX8_refuse_16 : decode cX8_refuse 16 = .ok (.aload_n 0, 1) := by decide +kernel
theorem dX8_refuse_17 : decode cX8_refuse 17 = .ok (.getfield 41, 3) := by decide +kernel
theorem dX8_refuse_20 : decode cX8_refuse 20 = .ok (.iload_n 2, 1) := by decide +kernel
theorem dX8_refuse_21 : decode cX8_refuse 21 = .ok (.dup2, 1) := by decide +kernel
theorem dX8_refuse_22 : decode cX8_refuse 22 = .ok (.iaload, 1) := by decide +kernel
theorem dX8_refuse_23 : decode cX8_refuse 23 = .ok (.iconst 1, 1) := by decide +kernel
theorem dX8_refuse_24 : decode cX8_refuse 24 = .ok (.iadd, 1) := by decide +kernel
theorem dX8_refuse_25 : decode cX8_refuse 25 = .ok (.iastore, 1) := by decide +kernel
theorem dX8_refuse_26 : decode cX8_refuse 26 = .ok (.iload_n 1, 1) := by decide +kernel
theorem dX8_refuse_27 : decode cX8_refuse 27 = .ok (.ireturn, 1) := by decide +kernel
theorem dX8_refuseLong_0 : decode cX8_refuseLong 0 = .ok (.ldc2_w 257, 3) := by decide +kernel
theorem dX8_refuseLong_3 : decode cX8_refuseLong 3 = .ok (.aload_n 0, 1) := by decide +kernel
theorem dX8_refuseLong_4 : decode cX8_refuseLong 4 = .ok (.iload_n 1, 1) := by decide +kernel
theorem dX8_refuseLong_5 : decode cX8_refuseLong 5 = .ok (.invokevirtual 52, 3) := by decide +kernel
theorem dX8_refuseLong_8 : decode cX8_refuseLong 8 = .ok (.i2l, 1) := by decide +kernel
theorem dX8_refuseLong_9 : decode cX8_refuseLong 9 = .ok (.lsub, 1) := by decide +kernel
theorem dX8_refuseLong_10 : decode cX8_refuseLong 10 = .ok (.lreturn, 1) := by decide +kernel
theorem dX8_outside_0 : decode cX8_outside 0 = .ok (.iload_n 0, 1) := by decide +kernel
theorem dX8_outside_1 : decode cX8_outside 1 = .ok (.iload_n 1, 1) := by decide +kernel
theorem dX8_outside_2 : decode cX8_outside 2 = .ok (.if_icmp .ge 6, 3) := by decide +kernel
theorem dX8_outside_5 : decode cX8_outside 5 = .ok (.bipush (-4), 2) := by decide +kernel
theorem dX8_outside_7 : decode cX8_outside 7 = .ok (.ireturn, 1) := by decide +kernel
theorem dX8_outside_8 : decode cX8_outside 8 = .ok (.iload_n 0, 1) := by decide +kernel
theorem dX8_outside_9 : decode cX8_outside 9 = .ok (.iload_n 2, 1) := by decide +kernel
theorem dX8_outside_10 : decode cX8_outside 10 = .ok (.if_icmp .le 8, 3) := by decide +kernel
theorem dX8_outside_13 : decode cX8_outside 13 = .ok (.bipush (-6), 2) := by decide +kernel
theorem dX8_outside_15 : decode cX8_outside 15 = .ok (.goto 4, 3) := by decide +kernel
theorem dX8_outside_18 : decode cX8_outside 18 = .ok (.iconst 0, 1) := by decide +kernel
theorem dX8_outside_19 : decode cX8_outside 19 = .ok (.ireturn, 1) := by decide +kernel
theorem dX8_isEither_0 : decode cX8_isEither 0 = .ok (.iload_n 0, 1) := by decide +kernel
theorem dX8_isEither_1 : decode cX8_isEither 1 = .ok (.ifCond .eq 8, 3) := by decide +kernel
theorem dX8_isEither_4 : decode cX8_isEither 4 = .ok (.iload_n 0, 1) := by decide +kernel
theorem dX8_isEither_5 : decode cX8_isEither 5 = .ok (.iconst 1, 1) := by decide +kernel
theorem dX8_isEither_6 : decode cX8_isEither 6 = .ok (.if_icmp .ne 7, 3) := by decide +kernel
theorem dX8_isEither_9 : decode cX8_isEither 9 = .ok (.iconst 1, 1) := by decide +kernel
theorem dX8_isEither_10 : decode cX8_isEither 10 = .ok (.goto 4, 3) := by decide +kernel
theorem dX8_isEither_13 : decode cX8_isEither 13 = .ok (.iconst 0, 1) := by decide +kernel
theorem dX8_isEither_14 : decode cX8_isEither 14 = .ok (.ireturn, 1) := by decide +kernel
theorem dX8_isWeekday_0 : decode cX8_isWeekday 0 = .ok (.iload_n 0, 1) := by decide +kernel
theorem dX8_isWeekday_1 : decode cX8_isWeekday 1 = .ok (.ifCond .lt 13, 3) := by decide +kernel
theorem dX8_isWeekday_4 : decode cX8_isWeekday 4 = .ok (.iload_n 0, 1) := by decide +kernel
theorem dX8_isWeekday_5 : decode cX8_isWeekday 5 = .ok (.bipush 7, 2) := by decide +kernel
theorem dX8_isWeekday_7 : decode cX8_isWeekday 7 = .ok (.if_icmp .ge 7, 3) := by decide +kernel
theorem dX8_isWeekday_10 : decode cX8_isWeekday 10 = .ok (.iconst 1, 1) := by decide +kernel
theorem dX8_isWeekday_11 : decode cX8_isWeekday 11 = .ok (.goto 4, 3) := by decide +kernel
theorem dX8_isWeekday_14 : decode cX8_isWeekday 14 = .ok (.iconst 0, 1) := by decide +kernel
theorem dX8_isWeekday_15 : decode cX8_isWeekday 15 = .ok (.ireturn, 1) := by decide +kernel
theorem dX8_hasBit_0 : decode cX8_hasBit 0 = .ok (.iload_n 0, 1) := by decide +kernel
theorem dX8_hasBit_1 : decode cX8_hasBit 1 = .ok (.iload_n 1, 1) := by decide +kernel
theorem dX8_hasBit_2 : decode cX8_hasBit 2 = .ok (.ishr, 1) := by decide +kernel
theorem dX8_hasBit_3 : decode cX8_hasBit 3 = .ok (.iconst 1, 1) := by decide +kernel
theorem dX8_hasBit_4 : decode cX8_hasBit 4 = .ok (.iand, 1) := by decide +kernel
theorem dX8_hasBit_5 : decode cX8_hasBit 5 = .ok (.ifCond .eq 7, 3) := by decide +kernel
theorem dX8_hasBit_8 : decode cX8_hasBit 8 = .ok (.iconst 1, 1) := by decide +kernel
theorem dX8_hasBit_9 : decode cX8_hasBit 9 = .ok (.goto 4, 3) := by decide +kernel
theorem dX8_hasBit_12 : decode cX8_hasBit 12 = .ok (.iconst 0, 1) := by decide +kernel
theorem dX8_hasBit_13 : decode cX8_hasBit 13 = .ok (.ireturn, 1) := by decide +kernel
theorem dX8_areTwo_0 : decode cX8_areTwo 0 = .ok (.aload_n 0, 1) := by decide +kernel
theorem dX8_areTwo_1 : decode cX8_areTwo 1 = .ok (.getfield 10, 3) := by decide +kernel
theorem dX8_areTwo_4 : decode cX8_areTwo 4 = .ok (.iload_n 1, 1) := by decide +kernel
theorem dX8_areTwo_5 : decode cX8_areTwo 5 = .ok (.invokevirtual 87, 3) := by decide +kernel
theorem dX8_areTwo_8 : decode cX8_areTwo 8 = .ok (.ifCond .eq 23, 3) := by decide +kernel
theorem dX8_areTwo_11 : decode cX8_areTwo 11 = .ok (.aload_n 0, 1) := by decide +kernel
theorem dX8_areTwo_12 : decode cX8_areTwo 12 = .ok (.getfield 10, 3) := by decide +kernel
theorem dX8_areTwo_15 : decode cX8_areTwo 15 = .ok (.iload_n 2, 1) := by decide +kernel
theorem dX8_areTwo_16 : decode cX8_areTwo 16 = .ok (.invokevirtual 87, 3) := by decide +kernel
theorem dX8_areTwo_19 : decode cX8_areTwo 19 = .ok (.ifCond .eq 12, 3) := by decide +kernel
theorem dX8_areTwo_22 : decode cX8_areTwo 22 = .ok (.iload_n 1, 1) := by decide +kernel
theorem dX8_areTwo_23 : decode cX8_areTwo 23 = .ok (.iload_n 2, 1) := by decide +kernel
theorem dX8_areTwo_24 : decode cX8_areTwo 24 = .ok (.if_icmp .eq 7, 3) := by decide +kernel
theorem dX8_areTwo_27 : decode cX8_areTwo 27 = .ok (.iconst 1, 1) := by decide +kernel
theorem dX8_areTwo_28 : decode cX8_areTwo 28 = .ok (.goto 4, 3) := by decide +kernel
theorem dX8_areTwo_31 : decode cX8_areTwo 31 = .ok (.iconst 0, 1) := by decide +kernel
theorem dX8_areTwo_32 : decode cX8_areTwo 32 = .ok (.ireturn, 1) := by decide +kernel
theorem dX8_daysTillFall_0 : decode cX8_daysTillFall 0 = .ok (.iconst 0, 1) := by decide +kernel
theorem dX8_daysTillFall_1 : decode cX8_daysTillFall 1 = .ok (.istore_n 3, 1) := by decide +kernel
theorem dX8_daysTillFall_2 : decode cX8_daysTillFall 2 = .ok (.iload_n 3, 1) := by decide +kernel
theorem dX8_daysTillFall_3 : decode cX8_daysTillFall 3 = .ok (.iload_n 2, 1) := by decide +kernel
theorem dX8_daysTillFall_4 : decode cX8_daysTillFall 4 = .ok (.if_icmp .gt 37, 3) := by decide +kernel
theorem dX8_daysTillFall_7 : decode cX8_daysTillFall 7 = .ok (.iload_n 3, 1) := by decide +kernel
theorem dX8_daysTillFall_8 : decode cX8_daysTillFall 8 = .ok (.ifCond .le 13, 3) := by decide +kernel
theorem dX8_daysTillFall_11 : decode cX8_daysTillFall 11 = .ok (.aload_n 0, 1) := by decide +kernel
theorem dX8_daysTillFall_12 : decode cX8_daysTillFall 12 = .ok (.getfield 16, 3) := by decide +kernel
theorem dX8_daysTillFall_15 : decode cX8_daysTillFall 15 = .ok (.iconst 1, 1) := by decide +kernel
theorem dX8_daysTillFall_16 : decode cX8_daysTillFall 16 = .ok (.iconst 0, 1) := by decide +kernel
theorem dX8_daysTillFall_17 : decode cX8_daysTillFall 17 = .ok (.invokevirtual 151, 3) := by decide +kernel
theorem dX8_daysTillFall_20 : decode cX8_daysTillFall 20 = .ok (.pop, 1) := by decide +kernel
theorem dX8_daysTillFall_21 : decode cX8_daysTillFall 21 = .ok (.aload_n 0, 1) := by decide +kernel
theorem dX8_daysTillFall_22 : decode cX8_daysTillFall 22 = .ok (.getfield 16, 3) := by decide +kernel
theorem dX8_daysTillFall_25 : decode cX8_daysTillFall 25 = .ok (.invokevirtual 166, 3) := by decide +kernel
theorem dX8_daysTillFall_28 : decode cX8_daysTillFall 28 = .ok (.iload_n 1, 1) := by decide +kernel
theorem dX8_daysTillFall_29 : decode cX8_daysTillFall 29 = .ok (.iand, 1) := by decide +kernel
theorem dX8_daysTillFall_30 : decode cX8_daysTillFall 30 = .ok (.ifCond .eq 5, 3) := by decide +kernel
theorem dX8_daysTillFall_33 : decode cX8_daysTillFall 33 = .ok (.iload_n 3, 1) := by decide +kernel
theorem dX8_daysTillFall_34 : decode cX8_daysTillFall 34 = .ok (.ireturn, 1) := by decide +kernel
theorem dX8_daysTillFall_35 : decode cX8_daysTillFall 35 = .ok (.iinc 3 1, 3) := by decide +kernel
theorem dX8_daysTillFall_38 : decode cX8_daysTillFall 38 = .ok (.goto (-36), 3) := by decide +kernel
theorem dX8_daysTillFall_41 : decode cX8_daysTillFall 41 = .ok (.bipush (-9), 2) := by decide +kernel
theorem dX8_daysTillFall_43 : decode cX8_daysTillFall 43 = .ok (.ireturn, 1) := by decide +kernel
theorem dX8_nobodyFalls_0 : decode cX8_nobodyFalls 0 = .ok (.aload_n 0, 1) := by decide +kernel
theorem dX8_nobodyFalls_1 : decode cX8_nobodyFalls 1 = .ok (.getfield 16, 3) := by decide +kernel
theorem dX8_nobodyFalls_4 : decode cX8_nobodyFalls 4 = .ok (.aload_n 0, 1) := by decide +kernel
theorem dX8_nobodyFalls_5 : decode cX8_nobodyFalls 5 = .ok (.getfield 10, 3) := by decide +kernel
theorem dX8_nobodyFalls_8 : decode cX8_nobodyFalls 8 = .ok (.invokevirtual 63, 3) := by decide +kernel
theorem dX8_nobodyFalls_11 : decode cX8_nobodyFalls 11 = .ok (.aload_n 0, 1) := by decide +kernel
theorem dX8_nobodyFalls_12 : decode cX8_nobodyFalls 12 = .ok (.getfield 16, 3) := by decide +kernel
theorem dX8_nobodyFalls_15 : decode cX8_nobodyFalls 15 = .ok (.iload_n 1, 1) := by decide +kernel
theorem dX8_nobodyFalls_16 : decode cX8_nobodyFalls 16 = .ok (.bipush 127, 2) := by decide +kernel
theorem dX8_nobodyFalls_18 : decode cX8_nobodyFalls 18 = .ok (.invokevirtual 217, 3) := by decide +kernel
theorem dX8_nobodyFalls_21 : decode cX8_nobodyFalls 21 = .ok (.aload_n 0, 1) := by decide +kernel
theorem dX8_nobodyFalls_22 : decode cX8_nobodyFalls 22 = .ok (.bipush 63, 2) := by decide +kernel
theorem dX8_nobodyFalls_24 : decode cX8_nobodyFalls 24 = .ok (.iload_n 2, 1) := by decide +kernel
theorem dX8_nobodyFalls_25 : decode cX8_nobodyFalls 25 = .ok (.invokevirtual 163, 3) := by decide +kernel
theorem dX8_nobodyFalls_28 : decode cX8_nobodyFalls 28 = .ok (.bipush (-9), 2) := by decide +kernel
theorem dX8_nobodyFalls_30 : decode cX8_nobodyFalls 30 = .ok (.if_icmp .ne 7, 3) := by decide +kernel
theorem dX8_nobodyFalls_33 : decode cX8_nobodyFalls 33 = .ok (.iconst 1, 1) := by decide +kernel
theorem dX8_nobodyFalls_34 : decode cX8_nobodyFalls 34 = .ok (.goto 4, 3) := by decide +kernel
theorem dX8_nobodyFalls_37 : decode cX8_nobodyFalls 37 = .ok (.iconst 0, 1) := by decide +kernel
theorem dX8_nobodyFalls_38 : decode cX8_nobodyFalls 38 = .ok (.ireturn, 1) := by decide +kernel
theorem dX8_allTiredBehind_0 : decode cX8_allTiredBehind 0 = .ok (.aload_n 0, 1) := by decide +kernel
theorem dX8_allTiredBehind_1 : decode cX8_allTiredBehind 1 = .ok (.getfield 16, 3) := by decide +kernel
theorem dX8_allTiredBehind_4 : decode cX8_allTiredBehind 4 = .ok (.iload_n 1, 1) := by decide +kernel
theorem dX8_allTiredBehind_5 : decode cX8_allTiredBehind 5 = .ok (.iconst 0, 1) := by decide +kernel
theorem dX8_allTiredBehind_6 : decode cX8_allTiredBehind 6 = .ok (.invokevirtual 151, 3) := by decide +kernel
theorem dX8_allTiredBehind_9 : decode cX8_allTiredBehind 9 = .ok (.pop, 1) := by decide +kernel
theorem dX8_allTiredBehind_10 : decode cX8_allTiredBehind 10 = .ok (.aload_n 0, 1) := by decide +kernel
theorem dX8_allTiredBehind_11 : decode cX8_allTiredBehind 11 = .ok (.getfield 16, 3) := by decide +kernel
theorem dX8_allTiredBehind_14 : decode cX8_allTiredBehind 14 = .ok (.invokevirtual 242, 3) := by decide +kernel
theorem dX8_allTiredBehind_17 : decode cX8_allTiredBehind 17 = .ok (.ireturn, 1) := by decide +kernel
theorem dX8_bothTiredBehind_0 : decode cX8_bothTiredBehind 0 = .ok (.aload_n 0, 1) := by decide +kernel
theorem dX8_bothTiredBehind_1 : decode cX8_bothTiredBehind 1 = .ok (.getfield 16, 3) := by decide +kernel
theorem dX8_bothTiredBehind_4 : decode cX8_bothTiredBehind 4 = .ok (.iload_n 3, 1) := by decide +kernel
theorem dX8_bothTiredBehind_5 : decode cX8_bothTiredBehind 5 = .ok (.iconst 0, 1) := by decide +kernel
theorem dX8_bothTiredBehind_6 : decode cX8_bothTiredBehind 6 = .ok (.invokevirtual 151, 3) := by decide +kernel
theorem dX8_bothTiredBehind_9 : decode cX8_bothTiredBehind 9 = .ok (.pop, 1) := by decide +kernel
theorem dX8_bothTiredBehind_10 : decode cX8_bothTiredBehind 10 = .ok (.aload_n 0, 1) := by decide +kernel
theorem dX8_bothTiredBehind_11 : decode cX8_bothTiredBehind 11 = .ok (.getfield 16, 3) := by decide +kernel
theorem dX8_bothTiredBehind_14 : decode cX8_bothTiredBehind 14 = .ok (.getfield 100, 3) := by decide +kernel
theorem dX8_bothTiredBehind_17 : decode cX8_bothTiredBehind 17 = .ok (.iload_n 1, 1) := by decide +kernel
theorem dX8_bothTiredBehind_18 : decode cX8_bothTiredBehind 18 = .ok (.iaload, 1) := by decide +kernel
theorem dX8_bothTiredBehind_19 : decode cX8_bothTiredBehind 19 = .ok (.aload_n 0, 1) := by decide +kernel
theorem dX8_bothTiredBehind_20 : decode cX8_bothTiredBehind 20 = .ok (.getfield 16, 3) := by decide +kernel
theorem dX8_bothTiredBehind_23 : decode cX8_bothTiredBehind 23 = .ok (.getfield 100, 3) := by decide +kernel
theorem dX8_bothTiredBehind_26 : decode cX8_bothTiredBehind 26 = .ok (.iload_n 2, 1) := by decide +kernel
theorem dX8_bothTiredBehind_27 : decode cX8_bothTiredBehind 27 = .ok (.iaload, 1) := by decide +kernel
theorem dX8_bothTiredBehind_28 : decode cX8_bothTiredBehind 28 = .ok (.iadd, 1) := by decide +kernel
theorem dX8_bothTiredBehind_29 : decode cX8_bothTiredBehind 29 = .ok (.ireturn, 1) := by decide +kernel
theorem dX8_wagesBehind_0 : decode cX8_wagesBehind 0 = .ok (.aload_n 0, 1) := by decide +kernel
theorem dX8_wagesBehind_1 : decode cX8_wagesBehind 1 = .ok (.getfield 16, 3) := by decide +kernel
theorem dX8_wagesBehind_4 : decode cX8_wagesBehind 4 = .ok (.aload_n 0, 1) := by decide +kernel
theorem dX8_wagesBehind_5 : decode cX8_wagesBehind 5 = .ok (.getfield 10, 3) := by decide +kernel
theorem dX8_wagesBehind_8 : decode cX8_wagesBehind 8 = .ok (.invokevirtual 63, 3) := by decide +kernel
theorem dX8_wagesBehind_11 : decode cX8_wagesBehind 11 = .ok (.aload_n 0, 1) := by decide +kernel
theorem dX8_wagesBehind_12 : decode cX8_wagesBehind 12 = .ok (.getfield 16, 3) := by decide +kernel
theorem dX8_wagesBehind_15 : decode cX8_wagesBehind 15 = .ok (.iload_n 2, 1) := by decide +kernel
theorem dX8_wagesBehind_16 : decode cX8_wagesBehind 16 = .ok (.bipush 127, 2) := by decide +kernel
theorem dX8_wagesBehind_18 : decode cX8_wagesBehind 18 = .ok (.invokevirtual 217, 3) := by decide +kernel
theorem dX8_wagesBehind_21 : decode cX8_wagesBehind 21 = .ok (.aload_n 0, 1) := by decide +kernel
theorem dX8_wagesBehind_22 : decode cX8_wagesBehind 22 = .ok (.getfield 16, 3) := by decide +kernel
theorem dX8_wagesBehind_25 : decode cX8_wagesBehind 25 = .ok (.iload_n 1, 1) := by decide +kernel
theorem dX8_wagesBehind_26 : decode cX8_wagesBehind 26 = .ok (.iconst 0, 1) := by decide +kernel
theorem dX8_wagesBehind_27 : decode cX8_wagesBehind 27 = .ok (.invokevirtual 151, 3) := by decide +kernel
theorem dX8_wagesBehind_30 : decode cX8_wagesBehind 30 = .ok (.pop, 1) := by decide +kernel
theorem dX8_wagesBehind_31 : decode cX8_wagesBehind 31 = .ok (.aload_n 0, 1) := by decide +kernel
theorem dX8_wagesBehind_32 : decode cX8_wagesBehind 32 = .ok (.getfield 16, 3) := by decide +kernel
theorem dX8_wagesBehind_35 : decode cX8_wagesBehind 35 = .ok (.getfield 154, 3) := by decide +kernel
theorem dX8_wagesBehind_38 : decode cX8_wagesBehind 38 = .ok (.ireturn, 1) := by decide +kernel
theorem dX8_keepsTo_0 : decode cX8_keepsTo 0 = .ok (.aload_n 0, 1) := by decide +kernel
theorem dX8_keepsTo_1 : decode cX8_keepsTo 1 = .ok (.iload_n 1, 1) := by decide +kernel
theorem dX8_keepsTo_2 : decode cX8_keepsTo 2 = .ok (.iload_n 2, 1) := by decide +kernel
theorem dX8_keepsTo_3 : decode cX8_keepsTo 3 = .ok (.iload_n 3, 1) := by decide +kernel
theorem dX8_keepsTo_4 : decode cX8_keepsTo 4 = .ok (.invokevirtual 259, 3) := by decide +kernel
theorem dX8_keepsTo_7 : decode cX8_keepsTo 7 = .ok (.aload_n 0, 1) := by decide +kernel
theorem dX8_keepsTo_8 : decode cX8_keepsTo 8 = .ok (.iload_n 1, 1) := by decide +kernel
theorem dX8_keepsTo_9 : decode cX8_keepsTo 9 = .ok (.iload_n 2, 1) := by decide +kernel
theorem dX8_keepsTo_10 : decode cX8_keepsTo 10 = .ok (.iconst 1, 1) := by decide +kernel
theorem dX8_keepsTo_11 : decode cX8_keepsTo 11 = .ok (.iload_n 1, 1) := by decide +kernel
theorem dX8_keepsTo_12 : decode cX8_keepsTo 12 = .ok (.ishl, 1) := by decide +kernel
theorem dX8_keepsTo_13 : decode cX8_keepsTo 13 = .ok (.ixor, 1) := by decide +kernel
theorem dX8_keepsTo_14 : decode cX8_keepsTo 14 = .ok (.iload_n 3, 1) := by decide +kernel
theorem dX8_keepsTo_15 : decode cX8_keepsTo 15 = .ok (.invokevirtual 259, 3) := by decide +kernel
theorem dX8_keepsTo_18 : decode cX8_keepsTo 18 = .ok (.if_icmp .gt 7, 3) := by decide +kernel
theorem dX8_keepsTo_21 : decode cX8_keepsTo 21 = .ok (.iconst 1, 1) := by decide +kernel
theorem dX8_keepsTo_22 : decode cX8_keepsTo 22 = .ok (.goto 4, 3) := by decide +kernel
theorem dX8_keepsTo_25 : decode cX8_keepsTo 25 = .ok (.iconst 0, 1) := by decide +kernel
theorem dX8_keepsTo_26 : decode cX8_keepsTo 26 = .ok (.ireturn, 1) := by decide +kernel
theorem dX8_feltTired_0 : decode cX8_feltTired 0 = .ok (.aload_n 0, 1) := by decide +kernel
theorem dX8_feltTired_1 : decode cX8_feltTired 1 = .ok (.getfield 16, 3) := by decide +kernel
theorem dX8_feltTired_4 : decode cX8_feltTired 4 = .ok (.aload_n 0, 1) := by decide +kernel
theorem dX8_feltTired_5 : decode cX8_feltTired 5 = .ok (.getfield 10, 3) := by decide +kernel
theorem dX8_feltTired_8 : decode cX8_feltTired 8 = .ok (.invokevirtual 63, 3) := by decide +kernel
theorem dX8_feltTired_11 : decode cX8_feltTired 11 = .ok (.aload_n 0, 1) := by decide +kernel
theorem dX8_feltTired_12 : decode cX8_feltTired 12 = .ok (.getfield 16, 3) := by decide +kernel
theorem dX8_feltTired_15 : decode cX8_feltTired 15 = .ok (.iload_n 3, 1) := by decide +kernel
theorem dX8_feltTired_16 : decode cX8_feltTired 16 = .ok (.iload_n 2, 1) := by decide +kernel
theorem dX8_feltTired_17 : decode cX8_feltTired 17 = .ok (.invokevirtual 151, 3) := by decide +kernel
theorem dX8_feltTired_20 : decode cX8_feltTired 20 = .ok (.pop, 1) := by decide +kernel
theorem dX8_feltTired_21 : decode cX8_feltTired 21 = .ok (.iload_n 2, 1) := by decide +kernel
theorem dX8_feltTired_22 : decode cX8_feltTired 22 = .ok (.iload_n 1, 1) := by decide +kernel
theorem dX8_feltTired_23 : decode cX8_feltTired 23 = .ok (.invokestatic 262, 3) := by decide +kernel
theorem dX8_feltTired_26 : decode cX8_feltTired 26 = .ok (.istore 4, 2) := by decide +kernel
theorem dX8_feltTired_28 : decode cX8_feltTired 28 = .ok (.iload 4, 2) := by decide +kernel
theorem dX8_feltTired_30 : decode cX8_feltTired 30 = .ok (.ifCond .eq 17, 3) := by decide +kernel
theorem dX8_feltTired_33 : decode cX8_feltTired 33 = .ok (.aload_n 0, 1) := by decide +kernel
theorem dX8_feltTired_34 : decode cX8_feltTired 34 = .ok (.getfield 16, 3) := by decide +kernel
theorem dX8_feltTired_37 : decode cX8_feltTired 37 = .ok (.getfield 100, 3) := by decide +kernel
theorem dX8_feltTired_40 : decode cX8_feltTired 40 = .ok (.iload_n 1, 1) := by decide +kernel
theorem dX8_feltTired_41 : decode cX8_feltTired 41 = .ok (.iaload, 1) := by decide +kernel
theorem dX8_feltTired_42 : decode cX8_feltTired 42 = .ok (.iconst 2, 1) := by decide +kernel
theorem dX8_feltTired_43 : decode cX8_feltTired 43 = .ok (.isub, 1) := by decide +kernel
theorem dX8_feltTired_44 : decode cX8_feltTired 44 = .ok (.goto 12, 3) := by decide +kernel
theorem dX8_feltTired_47 : decode cX8_feltTired 47 = .ok (.aload_n 0, 1) := by decide +kernel
theorem dX8_feltTired_48 : decode cX8_feltTired 48 = .ok (.getfield 16, 3) := by decide +kernel
theorem dX8_feltTired_51 : decode cX8_feltTired 51 = .ok (.getfield 100, 3) := by decide +kernel
theorem dX8_feltTired_54 : decode cX8_feltTired 54 = .ok (.iload_n 1, 1) := by decide +kernel
theorem dX8_feltTired_55 : decode cX8_feltTired 55 = .ok (.iaload, 1) := by decide +kernel
theorem dX8_feltTired_56 : decode cX8_feltTired 56 = .ok (.ireturn, 1) := by decide +kernel
theorem dX8_feverRefusal_0 : decode cX8_feverRefusal 0 = .ok (.aload_n 0, 1) := by decide +kernel
theorem dX8_feverRefusal_1 : decode cX8_feverRefusal 1 = .ok (.getfield 10, 3) := by decide +kernel
theorem dX8_feverRefusal_4 : decode cX8_feverRefusal 4 = .ok (.iload_n 1, 1) := by decide +kernel
theorem dX8_feverRefusal_5 : decode cX8_feverRefusal 5 = .ok (.invokevirtual 87, 3) := by decide +kernel
theorem dX8_feverRefusal_8 : decode cX8_feverRefusal 8 = .ok (.ifCond .ne 5, 3) := by decide +kernel
theorem dX8_feverRefusal_11 : decode cX8_feverRefusal 11 = .ok (.iconst (-1), 1) := by decide +kernel
theorem dX8_feverRefusal_12 : decode cX8_feverRefusal 12 = .ok (.ireturn, 1) := by decide +kernel
theorem dX8_feverRefusal_13 : decode cX8_feverRefusal 13 = .ok (.iload_n 2, 1) := by decide +kernel
theorem dX8_feverRefusal_14 : decode cX8_feverRefusal 14 = .ok (.ifCond .lt 13, 3) := by decide +kernel
theorem dX8_feverRefusal_17 : decode cX8_feverRefusal 17 = .ok (.iload 4, 2) := by decide +kernel
theorem dX8_feverRefusal_19 : decode cX8_feverRefusal 19 = .ok (.ifCond .lt 8, 3) := by decide +kernel
theorem dX8_feverRefusal_22 : decode cX8_feverRefusal 22 = .ok (.iload_n 3, 1) := by decide +kernel
theorem dX8_feverRefusal_23 : decode cX8_feverRefusal 23 = .ok (.iconst 2, 1) := by decide +kernel
theorem dX8_feverRefusal_24 : decode cX8_feverRefusal 24 = .ok (.if_icmp .ge 6, 3) := by decide +kernel
theorem dX8_feverRefusal_27 : decode cX8_feverRefusal 27 = .ok (.bipush (-4), 2) := by decide +kernel
theorem dX8_feverRefusal_29 : decode cX8_feverRefusal 29 = .ok (.ireturn, 1) := by decide +kernel
theorem dX8_feverRefusal_30 : decode cX8_feverRefusal 30 = .ok (.iload_n 2, 1) := by decide +kernel
theorem dX8_feverRefusal_31 : decode cX8_feverRefusal 31 = .ok (.bipush 7, 2) := by decide +kernel
theorem dX8_feverRefusal_33 : decode cX8_feverRefusal 33 = .ok (.if_icmp .gt 16, 3) := by decide +kernel
theorem dX8_feverRefusal_36 : decode cX8_feverRefusal 36 = .ok (.iload_n 3, 1) := by decide +kernel
theorem dX8_feverRefusal_37 : decode cX8_feverRefusal 37 = .ok (.bipush 20, 2) := by decide +kernel
theorem dX8_feverRefusal_39 : decode cX8_feverRefusal 39 = .ok (.if_icmp .gt 10, 3) := by decide +kernel
theorem dX8_feverRefusal_42 : decode cX8_feverRefusal 42 = .ok (.iload 4, 2) := by decide +kernel
theorem dX8_feverRefusal_44 : decode cX8_feverRefusal 44 = .ok (.bipush 30, 2) := by decide +kernel
theorem dX8_feverRefusal_46 : decode cX8_feverRefusal 46 = .ok (.if_icmp .le 6, 3) := by decide +kernel
theorem dX8_feverRefusal_49 : decode cX8_feverRefusal 49 = .ok (.bipush (-6), 2) := by decide +kernel
theorem dX8_feverRefusal_51 : decode cX8_feverRefusal 51 = .ok (.ireturn, 1) := by decide +kernel
theorem dX8_feverRefusal_52 : decode cX8_feverRefusal 52 = .ok (.iload 5, 2) := by decide +kernel
theorem dX8_feverRefusal_54 : decode cX8_feverRefusal 54 = .ok (.invokestatic 115, 3) := by decide +kernel
theorem dX8_feverRefusal_57 : decode cX8_feverRefusal 57 = .ok (.ifCond .eq 7, 3) := by decide +kernel
theorem dX8_feverRefusal_60 : decode cX8_feverRefusal 60 = .ok (.iconst 0, 1) := by decide +kernel
theorem dX8_feverRefusal_61 : decode cX8_feverRefusal 61 = .ok (.goto 5, 3) := by decide +kernel
theorem dX8_feverRefusal_64 : decode cX8_feverRefusal 64 = .ok (.bipush (-2), 2) := by decide +kernel
theorem dX8_feverRefusal_66 : decode cX8_feverRefusal 66 = .ok (.ireturn, 1) := by decide +kernel
theorem dX8_tiredByFevers_0 : decode cX8_tiredByFevers 0 = .ok (.aload_n 0, 1) := by decide +kernel
theorem dX8_tiredByFevers_1 : decode cX8_tiredByFevers 1 = .ok (.getfield 16, 3) := by decide +kernel
theorem dX8_tiredByFevers_4 : decode cX8_tiredByFevers 4 = .ok (.aload_n 0, 1) := by decide +kernel
theorem dX8_tiredByFevers_5 : decode cX8_tiredByFevers 5 = .ok (.getfield 10, 3) := by decide +kernel
theorem dX8_tiredByFevers_8 : decode cX8_tiredByFevers 8 = .ok (.invokevirtual 63, 3) := by decide +kernel
theorem dX8_tiredByFevers_11 : decode cX8_tiredByFevers 11 = .ok (.iconst 0, 1) := by decide +kernel
theorem dX8_tiredByFevers_12 : decode cX8_tiredByFevers 12 = .ok (.istore 4, 2) := by decide +kernel
theorem dX8_tiredByFevers_14 : decode cX8_tiredByFevers 14 = .ok (.iload 4, 2) := by decide +kernel
theorem dX8_tiredByFevers_16 : decode cX8_tiredByFevers 16 = .ok (.iload_n 2, 1) := by decide +kernel
theorem dX8_tiredByFevers_17 : decode cX8_tiredByFevers 17 = .ok (.if_icmp .ge 33, 3) := by decide +kernel
theorem dX8_tiredByFevers_20 : decode cX8_tiredByFevers 20 = .ok (.aload_n 0, 1) := by decide +kernel
theorem dX8_tiredByFevers_21 : decode cX8_tiredByFevers 21 = .ok (.getfield 16, 3) := by decide +kernel
theorem dX8_tiredByFevers_24 : decode cX8_tiredByFevers 24 = .ok (.iconst 1, 1) := by decide +kernel
theorem dX8_tiredByFevers_25 : decode cX8_tiredByFevers 25 = .ok (.iload_n 3, 1) := by decide +kernel
theorem dX8_tiredByFevers_26 : decode cX8_tiredByFevers 26 = .ok (.iload 4, 2) := by decide +kernel
theorem dX8_tiredByFevers_28 : decode cX8_tiredByFevers 28 = .ok (.invokestatic 262, 3) := by decide +kernel
theorem dX8_tiredByFevers_31 : decode cX8_tiredByFevers 31 = .ok (.ifCond .eq 8, 3) := by decide +kernel
theorem dX8_tiredByFevers_34 : decode cX8_tiredByFevers 34 = .ok (.bipush 63, 2) := by decide +kernel
theorem dX8_tiredByFevers_36 : decode cX8_tiredByFevers 36 = .ok (.goto 4, 3) := by decide +kernel
theorem dX8_tiredByFevers_39 : decode cX8_tiredByFevers 39 = .ok (.iconst 0, 1) := by decide +kernel
theorem dX8_tiredByFevers_40 : decode cX8_tiredByFevers 40 = .ok (.invokevirtual 151, 3) := by decide +kernel
theorem dX8_tiredByFevers_43 : decode cX8_tiredByFevers 43 = .ok (.pop, 1) := by decide +kernel
theorem dX8_tiredByFevers_44 : decode cX8_tiredByFevers 44 = .ok (.iinc 4 1, 3) := by decide +kernel
theorem dX8_tiredByFevers_47 : decode cX8_tiredByFevers 47 = .ok (.goto (-33), 3) := by decide +kernel
theorem dX8_tiredByFevers_50 : decode cX8_tiredByFevers 50 = .ok (.aload_n 0, 1) := by decide +kernel
theorem dX8_tiredByFevers_51 : decode cX8_tiredByFevers 51 = .ok (.getfield 16, 3) := by decide +kernel
theorem dX8_tiredByFevers_54 : decode cX8_tiredByFevers 54 = .ok (.getfield 100, 3) := by decide +kernel
theorem dX8_tiredByFevers_57 : decode cX8_tiredByFevers 57 = .ok (.iload_n 1, 1) := by decide +kernel
theorem dX8_tiredByFevers_58 : decode cX8_tiredByFevers 58 = .ok (.iaload, 1) := by decide +kernel
theorem dX8_tiredByFevers_59 : decode cX8_tiredByFevers 59 = .ok (.ireturn, 1) := by decide +kernel
theorem dX8_waysOfFevers_0 : decode cX8_waysOfFevers 0 = .ok (.lconst 1, 1) := by decide +kernel
theorem dX8_waysOfFevers_1 : decode cX8_waysOfFevers 1 = .ok (.lstore_n 3, 1) := by decide +kernel
theorem dX8_waysOfFevers_2 : decode cX8_waysOfFevers 2 = .ok (.iconst 0, 1) := by decide +kernel
theorem dX8_waysOfFevers_3 : decode cX8_waysOfFevers 3 = .ok (.istore 5, 2) := by decide +kernel
theorem dX8_waysOfFevers_5 : decode cX8_waysOfFevers 5 = .ok (.iload 5, 2) := by decide +kernel
theorem dX8_waysOfFevers_7 : decode cX8_waysOfFevers 7 = .ok (.iload_n 0, 1) := by decide +kernel
theorem dX8_waysOfFevers_8 : decode cX8_waysOfFevers 8 = .ok (.if_icmp .ge 25, 3) := by decide +kernel
theorem dX8_waysOfFevers_11 : decode cX8_waysOfFevers 11 = .ok (.iload_n 1, 1) := by decide +kernel
theorem dX8_waysOfFevers_12 : decode cX8_waysOfFevers 12 = .ok (.iload 5, 2) := by decide +kernel
theorem dX8_waysOfFevers_14 : decode cX8_waysOfFevers 14 = .ok (.invokestatic 262, 3) := by decide +kernel
theorem dX8_waysOfFevers_17 : decode cX8_waysOfFevers 17 = .ok (.ifCond .ne 10, 3) := by decide +kernel
theorem dX8_waysOfFevers_20 : decode cX8_waysOfFevers 20 = .ok (.lload_n 3, 1) := by decide +kernel
theorem dX8_waysOfFevers_21 : decode cX8_waysOfFevers 21 = .ok (.iload_n 2, 1) := by decide +kernel
theorem dX8_waysOfFevers_22 : decode cX8_waysOfFevers 22 = .ok (.iconst 1, 1) := by decide +kernel
theorem dX8_waysOfFevers_23 : decode cX8_waysOfFevers 23 = .ok (.isub, 1) := by decide +kernel
theorem dX8_waysOfFevers_24 : decode cX8_waysOfFevers 24 = .ok (.i2l, 1) := by decide +kernel
theorem dX8_waysOfFevers_25 : decode cX8_waysOfFevers 25 = .ok (.lmul, 1) := by decide +kernel
theorem dX8_waysOfFevers_26 : decode cX8_waysOfFevers 26 = .ok (.lstore_n 3, 1) := by decide +kernel
theorem dX8_waysOfFevers_27 : decode cX8_waysOfFevers 27 = .ok (.iinc 5 1, 3) := by decide +kernel
theorem dX8_waysOfFevers_30 : decode cX8_waysOfFevers 30 = .ok (.goto (-25), 3) := by decide +kernel
theorem dX8_waysOfFevers_33 : decode cX8_waysOfFevers 33 = .ok (.lload_n 3, 1) := by decide +kernel
theorem dX8_waysOfFevers_34 : decode cX8_waysOfFevers 34 = .ok (.lreturn, 1) := by decide +kernel
theorem dX8_partOf_0 : decode cX8_partOf 0 = .ok (.lload_n 0, 1) := by decide +kernel
theorem dX8_partOf_1 : decode cX8_partOf 1 = .ok (.lload_n 2, 1) := by decide +kernel
theorem dX8_partOf_2 : decode cX8_partOf 2 = .ok (.invokestatic 265, 3) := by decide +kernel
theorem dX8_partOf_5 : decode cX8_partOf 5 = .ok (.lstore 5, 2) := by decide +kernel
theorem dX8_partOf_7 : decode cX8_partOf 7 = .ok (.lload 5, 2) := by decide +kernel
theorem dX8_partOf_9 : decode cX8_partOf 9 = .ok (.lconst 0, 1) := by decide +kernel
theorem dX8_partOf_10 : decode cX8_partOf 10 = .ok (.lcmp, 1) := by decide +kernel
theorem dX8_partOf_11 : decode cX8_partOf 11 = .ok (.ifCond .ne 5, 3) := by decide +kernel
theorem dX8_partOf_14 : decode cX8_partOf 14 = .ok (.lconst 0, 1) := by decide +kernel
theorem dX8_partOf_15 : decode cX8_partOf 15 = .ok (.lreturn, 1) := by decide +kernel
theorem dX8_partOf_16 : decode cX8_partOf 16 = .ok (.iload 4, 2) := by decide +kernel
theorem dX8_partOf_18 : decode cX8_partOf 18 = .ok (.ifCond .ne 10, 3) := by decide +kernel
theorem dX8_partOf_21 : decode cX8_partOf 21 = .ok (.lload_n 0, 1) := by decide +kernel
theorem dX8_partOf_22 : decode cX8_partOf 22 = .ok (.lload 5, 2) := by decide +kernel
theorem dX8_partOf_24 : decode cX8_partOf 24 = .ok (.ldiv, 1) := by decide +kernel
theorem dX8_partOf_25 : decode cX8_partOf 25 = .ok (.goto 7, 3) := by decide +kernel
theorem dX8_partOf_28 : decode cX8_partOf 28 = .ok (.lload_n 2, 1) := by decide +kernel
theorem dX8_partOf_29 : decode cX8_partOf 29 = .ok (.lload 5, 2) := by decide +kernel
theorem dX8_partOf_31 : decode cX8_partOf 31 = .ok (.ldiv, 1) := by decide +kernel
theorem dX8_partOf_32 : decode cX8_partOf 32 = .ok (.lreturn, 1) := by decide +kernel
theorem dX8_commonDivisor_0 : decode cX8_commonDivisor 0 = .ok (.lload_n 0, 1) := by decide +kernel
theorem dX8_commonDivisor_1 : decode cX8_commonDivisor 1 = .ok (.lstore 4, 2) := by decide +kernel
theorem dX8_commonDivisor_3 : decode cX8_commonDivisor 3 = .ok (.lload_n 2, 1) := by decide +kernel
theorem dX8_commonDivisor_4 : decode cX8_commonDivisor 4 = .ok (.lstore 6, 2) := by decide +kernel
theorem dX8_commonDivisor_6 : decode cX8_commonDivisor 6 = .ok (.iconst 0, 1) := by decide +kernel
theorem dX8_commonDivisor_7 : decode cX8_commonDivisor 7 = .ok (.istore 8, 2) := by decide +kernel
theorem dX8_commonDivisor_9 : decode cX8_commonDivisor 9 = .ok (.iload 8, 2) := by decide +kernel
theorem dX8_commonDivisor_11 : decode cX8_commonDivisor 11 = .ok (.bipush 100, 2) := by decide +kernel
theorem dX8_commonDivisor_13 : decode cX8_commonDivisor 13 = .ok (.if_icmp .ge 31, 3) := by decide +kernel
theorem dX8_commonDivisor_16 : decode cX8_commonDivisor 16 = .ok (.lload 6, 2) := by decide +kernel
theorem dX8_commonDivisor_18 : decode cX8_commonDivisor 18 = .ok (.lconst 0, 1) := by decide +kernel
theorem dX8_commonDivisor_19 : decode cX8_commonDivisor 19 = .ok (.lcmp, 1) := by decide +kernel
theorem dX8_commonDivisor_20 : decode cX8_commonDivisor 20 = .ok (.ifCond .eq 24, 3) := by decide +kernel
theorem dX8_commonDivisor_23 : decode cX8_commonDivisor 23 = .ok (.lload 4, 2) := by decide +kernel
theorem dX8_commonDivisor_25 : decode cX8_commonDivisor 25 = .ok (.lload 6, 2) := by decide +kernel
theorem dX8_commonDivisor_27 : decode cX8_commonDivisor 27 = .ok (.lrem, 1) := by decide +kernel
theorem dX8_commonDivisor_28 : decode cX8_commonDivisor 28 = .ok (.lstore 9, 2) := by decide +kernel
theorem dX8_commonDivisor_30 : decode cX8_commonDivisor 30 = .ok (.lload 6, 2) := by decide +kernel
theorem dX8_commonDivisor_32 : decode cX8_commonDivisor 32 = .ok (.lstore 4, 2) := by decide +kernel
theorem dX8_commonDivisor_34 : decode cX8_commonDivisor 34 = .ok (.lload 9, 2) := by decide +kernel
theorem dX8_commonDivisor_36 : decode cX8_commonDivisor 36 = .ok (.lstore 6, 2) := by decide +kernel
theorem dX8_commonDivisor_38 : decode cX8_commonDivisor 38 = .ok (.iinc 8 1, 3) := by decide +kernel
theorem dX8_commonDivisor_41 : decode cX8_commonDivisor 41 = .ok (.goto (-32), 3) := by decide +kernel
theorem dX8_commonDivisor_44 : decode cX8_commonDivisor 44 = .ok (.lload 4, 2) := by decide +kernel
theorem dX8_commonDivisor_46 : decode cX8_commonDivisor 46 = .ok (.lreturn, 1) := by decide +kernel
theorem dX8_tiresAsTold_0 : decode cX8_tiresAsTold 0 = .ok (.iconst 0, 1) := by decide +kernel
theorem dX8_tiresAsTold_1 : decode cX8_tiresAsTold 1 = .ok (.istore_n 2, 1) := by decide +kernel
theorem dX8_tiresAsTold_2 : decode cX8_tiresAsTold 2 = .ok (.iload_n 2, 1) := by decide +kernel
theorem dX8_tiresAsTold_3 : decode cX8_tiresAsTold 3 = .ok (.aload_n 0, 1) := by decide +kernel
theorem dX8_tiresAsTold_4 : decode cX8_tiresAsTold 4 = .ok (.getfield 37, 3) := by decide +kernel
theorem dX8_tiresAsTold_7 : decode cX8_tiresAsTold 7 = .ok (.if_icmp .ge 43, 3) := by decide +kernel
theorem dX8_tiresAsTold_10 : decode cX8_tiresAsTold 10 = .ok (.iload_n 2, 1) := by decide +kernel
theorem dX8_tiresAsTold_11 : decode cX8_tiresAsTold 11 = .ok (.ifCond .le 13, 3) := by decide +kernel
theorem dX8_tiresAsTold_14 : decode cX8_tiresAsTold 14 = .ok (.aload_n 0, 1) := by decide +kernel
theorem dX8_tiresAsTold_15 : decode cX8_tiresAsTold 15 = .ok (.getfield 16, 3) := by decide +kernel
theorem dX8_tiresAsTold_18 : decode cX8_tiresAsTold 18 = .ok (.iconst 1, 1) := by decide +kernel
theorem dX8_tiresAsTold_19 : decode cX8_tiresAsTold 19 = .ok (.iconst 0, 1) := by decide +kernel
theorem dX8_tiresAsTold_20 : decode cX8_tiresAsTold 20 = .ok (.invokevirtual 151, 3) := by decide +kernel
theorem dX8_tiresAsTold_23 : decode cX8_tiresAsTold 23 = .ok (.pop, 1) := by decide +kernel
theorem dX8_tiresAsTold_24 : decode cX8_tiresAsTold 24 = .ok (.aload_n 0, 1) := by decide +kernel
theorem dX8_tiresAsTold_25 : decode cX8_tiresAsTold 25 = .ok (.getfield 16, 3) := by decide +kernel
theorem dX8_tiresAsTold_28 : decode cX8_tiresAsTold 28 = .ok (.getfield 100, 3) := by decide +kernel
theorem dX8_tiresAsTold_31 : decode cX8_tiresAsTold 31 = .ok (.iload_n 1, 1) := by decide +kernel
theorem dX8_tiresAsTold_32 : decode cX8_tiresAsTold 32 = .ok (.iaload, 1) := by decide +kernel
theorem dX8_tiresAsTold_33 : decode cX8_tiresAsTold 33 = .ok (.aload_n 0, 1) := by decide +kernel
theorem dX8_tiresAsTold_34 : decode cX8_tiresAsTold 34 = .ok (.getfield 33, 3) := by decide +kernel
theorem dX8_tiresAsTold_37 : decode cX8_tiresAsTold 37 = .ok (.iload_n 2, 1) := by decide +kernel
theorem dX8_tiresAsTold_38 : decode cX8_tiresAsTold 38 = .ok (.iaload, 1) := by decide +kernel
theorem dX8_tiresAsTold_39 : decode cX8_tiresAsTold 39 = .ok (.if_icmp .eq 5, 3) := by decide +kernel
theorem dX8_tiresAsTold_42 : decode cX8_tiresAsTold 42 = .ok (.iconst 0, 1) := by decide +kernel
theorem dX8_tiresAsTold_43 : decode cX8_tiresAsTold 43 = .ok (.ireturn, 1) := by decide +kernel
theorem dX8_tiresAsTold_44 : decode cX8_tiresAsTold 44 = .ok (.iinc 2 1, 3) := by decide +kernel
theorem dX8_tiresAsTold_47 : decode cX8_tiresAsTold 47 = .ok (.goto (-45), 3) := by decide +kernel
theorem dX8_tiresAsTold_50 : decode cX8_tiresAsTold 50 = .ok (.iconst 1, 1) := by decide +kernel
theorem dX8_tiresAsTold_51 : decode cX8_tiresAsTold 51 = .ok (.ireturn, 1) := by decide +kernel
theorem dX8_nextSeed_0 : decode cX8_nextSeed 0 = .ok (.iload_n 0, 1) := by decide +kernel
theorem dX8_nextSeed_1 : decode cX8_nextSeed 1 = .ok (.ldc_w 269, 3) := by decide +kernel
theorem dX8_nextSeed_4 : decode cX8_nextSeed 4 = .ok (.imul, 1) := by decide +kernel
theorem dX8_nextSeed_5 : decode cX8_nextSeed 5 = .ok (.ldc_w 270, 3) := by decide +kernel
theorem dX8_nextSeed_8 : decode cX8_nextSeed 8 = .ok (.iadd, 1) := by decide +kernel
theorem dX8_nextSeed_9 : decode cX8_nextSeed 9 = .ok (.ireturn, 1) := by decide +kernel
theorem dX8_drawn_0 : decode cX8_drawn 0 = .ok (.iload_n 1, 1) := by decide +kernel
theorem dX8_drawn_1 : decode cX8_drawn 1 = .ok (.ifCond .gt 5, 3) := by decide +kernel
theorem dX8_drawn_4 : decode cX8_drawn 4 = .ok (.iconst 0, 1) := by decide +kernel
theorem dX8_drawn_5 : decode cX8_drawn 5 = .ok (.ireturn, 1) := by decide +kernel
theorem dX8_drawn_6 : decode cX8_drawn 6 = .ok (.iload_n 0, 1) := by decide +kernel
theorem dX8_drawn_7 : decode cX8_drawn 7 = .ok (.ldc 207, 2) := by decide +kernel
theorem dX8_drawn_9 : decode cX8_drawn 9 = .ok (.iand, 1) := by decide +kernel
theorem dX8_drawn_10 : decode cX8_drawn 10 = .ok (.sipush 256, 3) := by decide +kernel
theorem dX8_drawn_13 : decode cX8_drawn 13 = .ok (.idiv, 1) := by decide +kernel
theorem dX8_drawn_14 : decode cX8_drawn 14 = .ok (.iload_n 1, 1) := by decide +kernel
theorem dX8_drawn_15 : decode cX8_drawn 15 = .ok (.irem, 1) := by decide +kernel
theorem dX8_drawn_16 : decode cX8_drawn 16 = .ok (.ireturn, 1) := by decide +kernel
theorem dX9_init_0 : decode cX9_init 0 = .ok (.aload_n 0, 1) := by decide +kernel
theorem dX9_init_1 : decode cX9_init 1 = .ok (.invokespecial 1, 3) := by decide +kernel
theorem dX9_init_4 : decode cX9_init 4 = .ok (.aload_n 0, 1) := by decide +kernel
theorem dX9_init_5 : decode cX9_init 5 = .ok (.bipush 33, 2) := by decide +kernel
theorem dX9_init_7 : decode cX9_init 7 = .ok (.newarray .int, 2) := by decide +kernel
theorem dX9_init_9 : decode cX9_init 9 = .ok (.putfield 9, 3) := by decide +kernel
theorem dX9_init_12 : decode cX9_init 12 = .ok (.aload_n 0, 1) := by decide +kernel
theorem dX9_init_13 : decode cX9_init 13 = .ok (.bipush 33, 2) := by decide +kernel
theorem dX9_init_15 : decode cX9_init 15 = .ok (.newarray .int, 2) := by decide +kernel
theorem dX9_init_17 : decode cX9_init 17 = .ok (.putfield 13, 3) := by decide +kernel
theorem dX9_init_20 : decode cX9_init 20 = .ok (.aload_n 0, 1) := by decide +kernel
theorem dX9_init_21 : decode cX9_init 21 = .ok (.bipush 33, 2) := by decide +kernel
theorem dX9_init_23 : decode cX9_init 23 = .ok (.newarray .int, 2) := by decide +kernel
theorem dX9_init_25 : decode cX9_init 25 = .ok (.putfield 16, 3) := by decide +kernel
theorem dX9_init_28 : decode cX9_init 28 = .ok (.aload_n 0, 1) := by decide +kernel
theorem dX9_init_29 : decode cX9_init 29 = .ok (.bipush 33, 2) := by decide +kernel
theorem dX9_init_31 : decode cX9_init 31 = .ok (.newarray .int, 2) := by decide +kernel
theorem dX9_init_33 : decode cX9_init 33 = .ok (.putfield 19, 3) := by decide +kernel
theorem dX9_init_36 : decode cX9_init 36 = .ok (.aload_n 0, 1) := by decide +kernel
theorem dX9_init_37 : decode cX9_init 37 = .ok (.bipush 96, 2) := by decide +kernel
theorem dX9_init_39 : decode cX9_init 39 = .ok (.newarray .int, 2) := by decide +kernel
theorem dX9_init_41 : decode cX9_init 41 = .ok (.putfield 22, 3) := by decide +kernel
theorem dX9_init_44 : decode cX9_init 44 = .ok (.aload_n 0, 1) := by decide +kernel
theorem dX9_init_45 : decode cX9_init 45 = .ok (.bipush 16, 2) := by decide +kernel
theorem dX9_init_47 : decode cX9_init 47 = .ok (.newarray .int, 2) := by decide +kernel
theorem dX9_init_49 : decode cX9_init 49 = .ok (.putfield 25, 3) := by decide +kernel
theorem dX9_init_52 : decode cX9_init 52 = .ok (.aload_n 0, 1) := by decide +kernel
theorem dX9_init_53 : decode cX9_init 53 = .ok (.bipush 7, 2) := by decide +kernel
theorem dX9_init_55 : decode cX9_init 55 = .ok (.newarray .int, 2) := by decide +kernel
theorem dX9_init_57 : decode cX9_init 57 = .ok (.putfield 28, 3) := by decide +kernel
theorem dX9_init_60 : decode cX9_init 60 = .ok (.aload_n 0, 1) := by decide +kernel
theorem dX9_init_61 : decode cX9_init 61 = .ok (.iconst 3, 1) := by decide +kernel
theorem dX9_init_62 : decode cX9_init 62 = .ok (.newarray .int, 2) := by decide +kernel
theorem dX9_init_64 : decode cX9_init 64 = .ok (.putfield 31, 3) := by decide +kernel
theorem dX9_init_67 : decode cX9_init 67 = .ok (.return_, 1) := by decide +kernel
theorem dX9_isIn_0 : decode cX9_isIn 0 = .ok (.iload_n 0, 1) := by decide +kernel
theorem dX9_isIn_1 : decode cX9_isIn 1 = .ok (.iload_n 1, 1) := by decide +kernel
theorem dX9_isIn_2 : decode cX9_isIn 2 = .ok (.if_icmp .lt 12, 3) := by decide +kernel
theorem dX9_isIn_5 : decode cX9_isIn 5 = .ok (.iload_n 0, 1) := by decide +kernel
theorem dX9_isIn_6 : decode cX9_isIn 6 = .ok (.iload_n 2, 1) := by decide +kernel
theorem dX9_isIn_7 : decode cX9_isIn 7 = .ok (.if_icmp .gt 7, 3) := by decide +kernel
theorem dX9_isIn_10 : decode cX9_isIn 10 = .ok (.iconst 1, 1) := by decide +kernel
theorem dX9_isIn_11 : decode cX9_isIn 11 = .ok (.goto 4, 3) := by decide +kernel
theorem dX9_isIn_14 : decode cX9_isIn 14 = .ok (.iconst 0, 1) := by decide +kernel
theorem dX9_isIn_15 : decode cX9_isIn 15 = .ok (.ireturn, 1) := by decide +kernel
theorem dX9_least_0 : decode cX9_least 0 = .ok (.iload_n 0, 1) := by decide +kernel
theorem dX9_least_1 : decode cX9_least 1 = .ok (.iload_n 1, 1) := by decide +kernel
theorem dX9_least_2 : decode cX9_least 2 = .ok (.if_icmp .ge 7, 3) := by decide +kernel
theorem dX9_least_5 : decode cX9_least 5 = .ok (.iload_n 0, 1) := by decide +kernel
theorem dX9_least_6 : decode cX9_least 6 = .ok (.goto 4, 3) := by decide +kernel
theorem dX9_least_9 : decode cX9_least 9 = .ok (.iload_n 1, 1) := by decide +kernel
theorem dX9_least_10 : decode cX9_least 10 = .ok (.ireturn, 1) := by decide +kernel
theorem dX9_copies_0 : decode cX9_copies 0 = .ok (.iconst 0, 1) := by decide +kernel
theorem dX9_copies_1 : decode cX9_copies 1 = .ok (.istore_n 2, 1) := by decide +kernel
theorem dX9_copies_2 : decode cX9_copies 2 = .ok (.iload_n 2, 1) := by decide +kernel
theorem dX9_copies_3 : decode cX9_copies 3 = .ok (.bipush 33, 2) := by decide +kernel
theorem dX9_copies_5 : decode cX9_copies 5 = .ok (.if_icmp .ge 15, 3) := by decide +kernel
theorem dX9_copies_8 : decode cX9_copies 8 = .ok (.aload_n 1, 1) := by decide +kernel
theorem dX9_copies_9 : decode cX9_copies 9 = .ok (.iload_n 2, 1) := by decide +kernel
theorem dX9_copies_10 : decode cX9_copies 10 = .ok (.aload_n 0, 1) := by decide +kernel
theorem dX9_copies_11 : decode cX9_copies 11 = .ok (.iload_n 2, 1) := by decide +kernel
theorem dX9_copies_12 : decode cX9_copies 12 = .ok (.iaload, 1) := by decide +kernel
theorem dX9_copies_13 : decode cX9_copies 13 = .ok (.iastore, 1) := by decide +kernel
theorem dX9_copies_14 : decode cX9_copies 14 = .ok (.iinc 2 1, 3) := by decide +kernel
theorem dX9_copies_17 : decode cX9_copies 17 = .ok (.goto (-15), 3) := by decide +kernel
theorem dX9_copies_20 : decode cX9_copies 20 = .ok (.return_, 1) := by decide +kernel
theorem dX9_no_0 : decode cX9_no 0 = .ok (.aload_n 0, 1) := by decide +kernel
theorem dX9_no_1 : decode cX9_no 1 = .ok (.getfield 28, 3) := by decide +kernel
theorem dX9_no_4 : decode cX9_no 4 = .ok (.iload_n 1, 1) := by decide +kernel
theorem dX9_no_5 : decode cX9_no 5 = .ok (.ineg, 1) := by decide +kernel
theorem dX9_no_6 : decode cX9_no 6 = .ok (.dup2, 1) := by decide +kernel
theorem dX9_no_7 : decode cX9_no 7 = .ok (.iaload, 1) := by decide +kernel
theorem dX9_no_8 : decode cX9_no 8 = .ok (.iconst 1, 1) := by decide +kernel
theorem dX9_no_9 : decode cX9_no 9 = .ok (.iadd, 1) := by decide +kernel
theorem dX9_no_10 : decode cX9_no 10 = .ok (.iastore, 1) := by decide +kernel
theorem dX9_no_11 : decode cX9_no 11 = .ok (.iload_n 1, 1) := by decide +kernel
theorem dX9_no_12 : decode cX9_no 12 = .ok (.ireturn, 1) := by decide +kernel
theorem dX9_noWide_0 : decode cX9_noWide 0 = .ok (.ldc2_w 34, 3) := by decide +kernel
theorem dX9_noWide_3 : decode cX9_noWide 3 = .ok (.aload_n 0, 1) := by decide +kernel
theorem dX9_noWide_4 : decode cX9_noWide 4 = .ok (.iload_n 1, 1) := by decide +kernel
theorem dX9_noWide_5 : decode cX9_noWide 5 = .ok (.invokevirtual 36, 3) := by decide +kernel
theorem dX9_noWide_8 : decode cX9_noWide 8 = .ok (.i2l, 1) := by decide +kernel
theorem dX9_noWide_9 : decode cX9_noWide 9 = .ok (.lsub, 1) := by decide +kernel
theorem dX9_noWide_10 : decode cX9_noWide 10 = .ok (.lreturn, 1) := by decide +kernel
theorem dX9_of_0 : decode cX9_of 0 = .ok (.iconst 3, 1) := by decide +kernel
theorem dX9_of_1 : decode cX9_of 1 = .ok (.iconst 5, 1) := by decide +kernel
theorem dX9_of_2 : decode cX9_of 2 = .ok (.iload_n 0, 1) := by decide +kernel
theorem dX9_of_3 : decode cX9_of 3 = .ok (.imul, 1) := by decide +kernel
theorem dX9_of_4 : decode cX9_of 4 = .ok (.iadd, 1) := by decide +kernel
theorem dX9_of_5 : decode cX9_of 5 = .ok (.iload_n 1, 1) := by decide +kernel
theorem dX9_of_6 : decode cX9_of 6 = .ok (.iadd, 1) := by decide +kernel
theorem dX9_of_7 : decode cX9_of 7 = .ok (.ireturn, 1) := by decide +kernel
theorem dX9_isWorker_0 : decode cX9_isWorker 0 = .ok (.iload_n 1, 1) := by decide +kernel
theorem dX9_isWorker_1 : decode cX9_isWorker 1 = .ok (.iconst 0, 1) := by decide +kernel
theorem dX9_isWorker_2 : decode cX9_isWorker 2 = .ok (.aload_n 0, 1) := by decide +kernel
theorem dX9_isWorker_3 : decode cX9_isWorker 3 = .ok (.getfield 9, 3) := by decide +kernel
theorem dX9_isWorker_6 : decode cX9_isWorker 6 = .ok (.iconst 0, 1) := by decide +kernel
theorem dX9_isWorker_7 : decode cX9_isWorker 7 = .ok (.iaload, 1) := by decide +kernel
theorem dX9_isWorker_8 : decode cX9_isWorker 8 = .ok (.iconst 1, 1) := by decide +kernel
theorem dX9_isWorker_9 : decode cX9_isWorker 9 = .ok (.isub, 1) := by decide +kernel
theorem dX9_isWorker_10 : decode cX9_isWorker 10 = .ok (.invokestatic 40, 3) := by decide +kernel
theorem dX9_isWorker_13 : decode cX9_isWorker 13 = .ok (.ireturn, 1) := by decide +kernel
theorem dX9_isWeekday_0 : decode cX9_isWeekday 0 = .ok (.iload_n 0, 1) := by decide +kernel
theorem dX9_isWeekday_1 : decode cX9_isWeekday 1 = .ok (.iconst 0, 1) := by decide +kernel
theorem dX9_isWeekday_2 : decode cX9_isWeekday 2 = .ok (.bipush 6, 2) := by decide +kernel
theorem dX9_isWeekday_4 : decode cX9_isWeekday 4 = .ok (.invokestatic 40, 3) := by decide +kernel
theorem dX9_isWeekday_7 : decode cX9_isWeekday 7 = .ok (.ireturn, 1) := by decide +kernel
theorem dX9_has_0 : decode cX9_has 0 = .ok (.iload_n 0, 1) := by decide +kernel
theorem dX9_has_1 : decode cX9_has 1 = .ok (.iload_n 1, 1) := by decide +kernel
theorem dX9_has_2 : decode cX9_has 2 = .ok (.ishr, 1) := by decide +kernel
theorem dX9_has_3 : decode cX9_has 3 = .ok (.iconst 1, 1) := by decide +kernel
theorem dX9_has_4 : decode cX9_has 4 = .ok (.iand, 1) := by decide +kernel
theorem dX9_has_5 : decode cX9_has 5 = .ok (.iconst 1, 1) := by decide +kernel
theorem dX9_has_6 : decode cX9_has 6 = .ok (.if_icmp .ne 7, 3) := by decide +kernel
theorem dX9_has_9 : decode cX9_has 9 = .ok (.iconst 1, 1) := by decide +kernel
theorem dX9_has_10 : decode cX9_has 10 = .ok (.goto 4, 3) := by decide +kernel
theorem dX9_has_13 : decode cX9_has 13 = .ok (.iconst 0, 1) := by decide +kernel
theorem dX9_has_14 : decode cX9_has 14 = .ok (.ireturn, 1) := by decide +kernel
theorem dX9_bits_0 : decode cX9_bits 0 = .ok (.iconst 0, 1) := by decide +kernel
theorem dX9_bits_1 : decode cX9_bits 1 = .ok (.istore_n 1, 1) := by decide +kernel
theorem dX9_bits_2 : decode cX9_bits 2 = .ok (.iconst 0, 1) := by decide +kernel
theorem dX9_bits_3 : decode cX9_bits 3 = .ok (.istore_n 2, 1) := by decide +kernel
theorem dX9_bits_4 : decode cX9_bits 4 = .ok (.iload_n 2, 1) := by decide +kernel
theorem dX9_bits_5 : decode cX9_bits 5 = .ok (.bipush 7, 2) := by decide +kernel
theorem dX9_bits_7 : decode cX9_bits 7 = .ok (.if_icmp .ge 17, 3) := by decide +kernel
theorem dX9_bits_10 : decode cX9_bits 10 = .ok (.iload_n 1, 1) := by decide +kernel
theorem dX9_bits_11 : decode cX9_bits 11 = .ok (.iload_n 0, 1) := by decide +kernel
theorem dX9_bits_12 : decode cX9_bits 12 = .ok (.iload_n 2, 1) := by decide +kernel
theorem dX9_bits_13 : decode cX9_bits 13 = .ok (.ishr, 1) := by decide +kernel
theorem dX9_bits_14 : decode cX9_bits 14 = .ok (.iconst 1, 1) := by decide +kernel
theorem dX9_bits_15 : decode cX9_bits 15 = .ok (.iand, 1) := by decide +kernel
theorem dX9_bits_16 : decode cX9_bits 16 = .ok (.iadd, 1) := by decide +kernel
theorem dX9_bits_17 : decode cX9_bits 17 = .ok (.istore_n 1, 1) := by decide +kernel
theorem dX9_bits_18 : decode cX9_bits 18 = .ok (.iinc 2 1, 3) := by decide +kernel
theorem dX9_bits_21 : decode cX9_bits 21 = .ok (.goto (-17), 3) := by decide +kernel
theorem dX9_bits_24 : decode cX9_bits 24 = .ok (.iload_n 1, 1) := by decide +kernel
theorem dX9_bits_25 : decode cX9_bits 25 = .ok (.ireturn, 1) := by decide +kernel
theorem dX9_paidBehind_0 : decode cX9_paidBehind 0 = .ok (.iload_n 1, 1) := by decide +kernel
theorem dX9_paidBehind_1 : decode cX9_paidBehind 1 = .ok (.iconst 3, 1) := by decide +kernel
theorem dX9_paidBehind_2 : decode cX9_paidBehind 2 = .ok (.idiv, 1) := by decide +kernel
theorem dX9_paidBehind_3 : decode cX9_paidBehind 3 = .ok (.iconst 1, 1) := by decide +kernel
theorem dX9_paidBehind_4 : decode cX9_paidBehind 4 = .ok (.iadd, 1) := by decide +kernel
theorem dX9_paidBehind_5 : decode cX9_paidBehind 5 = .ok (.istore_n 2, 1) := by decide +kernel
theorem dX9_paidBehind_6 : decode cX9_paidBehind 6 = .ok (.iload_n 0, 1) := by decide +kernel
theorem dX9_paidBehind_7 : decode cX9_paidBehind 7 = .ok (.tableswitch 37 2 5 #[29, 37, 33, 35], 29) := by decide +kernel
theorem dX9_paidBehind_36 : decode cX9_paidBehind 36 = .ok (.iload_n 2, 1) := by decide +kernel
theorem dX9_paidBehind_37 : decode cX9_paidBehind 37 = .ok (.iconst 1, 1) := by decide +kernel
theorem dX9_paidBehind_38 : decode cX9_paidBehind 38 = .ok (.iadd, 1) := by decide +kernel
theorem dX9_paidBehind_39 : decode cX9_paidBehind 39 = .ok (.ireturn, 1) := by decide +kernel
theorem dX9_paidBehind_40 : decode cX9_paidBehind 40 = .ok (.iconst 0, 1) := by decide +kernel
theorem dX9_paidBehind_41 : decode cX9_paidBehind 41 = .ok (.ireturn, 1) := by decide +kernel
theorem dX9_paidBehind_42 : decode cX9_paidBehind 42 = .ok (.iconst 1, 1) := by decide +kernel
theorem dX9_paidBehind_43 : decode cX9_paidBehind 43 = .ok (.ireturn, 1) := by decide +kernel
theorem dX9_paidBehind_44 : decode cX9_paidBehind 44 = .ok (.iload_n 2, 1) := by decide +kernel
theorem dX9_paidBehind_45 : decode cX9_paidBehind 45 = .ok (.ireturn, 1) := by decide +kernel
theorem dX9_wanted_0 : decode cX9_wanted 0 = .ok (.iload_n 1, 1) := by decide +kernel
theorem dX9_wanted_1 : decode cX9_wanted 1 = .ok (.iload_n 2, 1) := by decide +kernel
theorem dX9_wanted_2 : decode cX9_wanted 2 = .ok (.if_icmp .ne 7, 3) := by decide +kernel
theorem dX9_wanted_5 : decode cX9_wanted 5 = .ok (.iconst 0, 1) := by decide +kernel
theorem dX9_wanted_6 : decode cX9_wanted 6 = .ok (.goto 20, 3) := by decide +kernel
theorem dX9_wanted_9 : decode cX9_wanted 9 = .ok (.aload_n 0, 1) := by decide +kernel
theorem dX9_wanted_10 : decode cX9_wanted 10 = .ok (.iload_n 2, 1) := by decide +kernel
theorem dX9_wanted_11 : decode cX9_wanted 11 = .ok (.iconst 2, 1) := by decide +kernel
theorem dX9_wanted_12 : decode cX9_wanted 12 = .ok (.invokestatic 44, 3) := by decide +kernel
theorem dX9_wanted_15 : decode cX9_wanted 15 = .ok (.iaload, 1) := by decide +kernel
theorem dX9_wanted_16 : decode cX9_wanted 16 = .ok (.aload_n 0, 1) := by decide +kernel
theorem dX9_wanted_17 : decode cX9_wanted 17 = .ok (.iload_n 1, 1) := by decide +kernel
theorem dX9_wanted_18 : decode cX9_wanted 18 = .ok (.iconst 2, 1) := by decide +kernel
theorem dX9_wanted_19 : decode cX9_wanted 19 = .ok (.invokestatic 44, 3) := by decide +kernel
theorem dX9_wanted_22 : decode cX9_wanted 22 = .ok (.iaload, 1) := by decide +kernel
theorem dX9_wanted_23 : decode cX9_wanted 23 = .ok (.iconst (-1), 1) := by decide +kernel
theorem dX9_wanted_24 : decode cX9_wanted 24 = .ok (.ixor, 1) := by decide +kernel
theorem dX9_wanted_25 : decode cX9_wanted 25 = .ok (.iand, 1) := by decide +kernel
theorem dX9_wanted_26 : decode cX9_wanted 26 = .ok (.ireturn, 1) := by decide +kernel
theorem dX9_roundFrom_0 : decode cX9_roundFrom 0 = .ok (.iconst 1, 1) := by decide +kernel
theorem dX9_roundFrom_1 : decode cX9_roundFrom 1 = .ok (.istore_n 3, 1) := by decide +kernel
theorem dX9_roundFrom_2 : decode cX9_roundFrom 2 = .ok (.iload_n 3, 1) := by decide +kernel
theorem dX9_roundFrom_3 : decode cX9_roundFrom 3 = .ok (.aload_n 0, 1) := by decide +kernel
theorem dX9_roundFrom_4 : decode cX9_roundFrom 4 = .ok (.iconst 0, 1) := by decide +kernel
theorem dX9_roundFrom_5 : decode cX9_roundFrom 5 = .ok (.iaload, 1) := by decide +kernel
theorem dX9_roundFrom_6 : decode cX9_roundFrom 6 = .ok (.if_icmp .ge 39, 3) := by decide +kernel
theorem dX9_roundFrom_9 : decode cX9_roundFrom 9 = .ok (.iload_n 1, 1) := by decide +kernel
theorem dX9_roundFrom_10 : decode cX9_roundFrom 10 = .ok (.iload_n 2, 1) := by decide +kernel
theorem dX9_roundFrom_11 : decode cX9_roundFrom 11 = .ok (.iload_n 3, 1) := by decide +kernel
theorem dX9_roundFrom_12 : decode cX9_roundFrom 12 = .ok (.imul, 1) := by decide +kernel
theorem dX9_roundFrom_13 : decode cX9_roundFrom 13 = .ok (.iadd, 1) := by decide +kernel
theorem dX9_roundFrom_14 : decode cX9_roundFrom 14 = .ok (.aload_n 0, 1) := by decide +kernel
theorem dX9_roundFrom_15 : decode cX9_roundFrom 15 = .ok (.iconst 0, 1) := by decide +kernel
theorem dX9_roundFrom_16 : decode cX9_roundFrom 16 = .ok (.iaload, 1) := by decide +kernel
theorem dX9_roundFrom_17 : decode cX9_roundFrom 17 = .ok (.iload_n 3, 1) := by decide +kernel
theorem dX9_roundFrom_18 : decode cX9_roundFrom 18 = .ok (.imul, 1) := by decide +kernel
theorem dX9_roundFrom_19 : decode cX9_roundFrom 19 = .ok (.iadd, 1) := by decide +kernel
theorem dX9_roundFrom_20 : decode cX9_roundFrom 20 = .ok (.aload_n 0, 1) := by decide +kernel
theorem dX9_roundFrom_21 : decode cX9_roundFrom 21 = .ok (.iconst 0, 1) := by decide +kernel
theorem dX9_roundFrom_22 : decode cX9_roundFrom 22 = .ok (.iaload, 1) := by decide +kernel
theorem dX9_roundFrom_23 : decode cX9_roundFrom 23 = .ok (.irem, 1) := by decide +kernel
theorem dX9_roundFrom_24 : decode cX9_roundFrom 24 = .ok (.istore 4, 2) := by decide +kernel
theorem dX9_roundFrom_26 : decode cX9_roundFrom 26 = .ok (.aload_n 0, 1) := by decide +kernel
theorem dX9_roundFrom_27 : decode cX9_roundFrom 27 = .ok (.iload_n 1, 1) := by decide +kernel
theorem dX9_roundFrom_28 : decode cX9_roundFrom 28 = .ok (.iload 4, 2) := by decide +kernel
theorem dX9_roundFrom_30 : decode cX9_roundFrom 30 = .ok (.invokestatic 48, 3) := by decide +kernel
theorem dX9_roundFrom_33 : decode cX9_roundFrom 33 = .ok (.ifCond .eq 6, 3) := by decide +kernel
theorem dX9_roundFrom_36 : decode cX9_roundFrom 36 = .ok (.iload 4, 2) := by decide +kernel
theorem dX9_roundFrom_38 : decode cX9_roundFrom 38 = .ok (.ireturn, 1) := by decide +kernel
theorem dX9_roundFrom_39 : decode cX9_roundFrom 39 = .ok (.iinc 3 1, 3) := by decide +kernel
theorem dX9_roundFrom_42 : decode cX9_roundFrom 42 = .ok (.goto (-40), 3) := by decide +kernel
theorem dX9_roundFrom_45 : decode cX9_roundFrom 45 = .ok (.bipush (-9), 2) := by decide +kernel
theorem dX9_roundFrom_47 : decode cX9_roundFrom 47 = .ok (.ireturn, 1) := by decide +kernel
theorem dX9_richestFrom_0 : decode cX9_richestFrom 0 = .ok (.bipush (-9), 2) := by decide +kernel
theorem dX9_richestFrom_2 : decode cX9_richestFrom 2 = .ok (.istore_n 2, 1) := by decide +kernel
theorem dX9_richestFrom_3 : decode cX9_richestFrom 3 = .ok (.iconst 0, 1) := by decide +kernel
theorem dX9_richestFrom_4 : decode cX9_richestFrom 4 = .ok (.istore_n 3, 1) := by decide +kernel
theorem dX9_richestFrom_5 : decode cX9_richestFrom 5 = .ok (.iload_n 3, 1) := by decide +kernel
theorem dX9_richestFrom_6 : decode cX9_richestFrom 6 = .ok (.aload_n 0, 1) := by decide +kernel
theorem dX9_richestFrom_7 : decode cX9_richestFrom 7 = .ok (.iconst 0, 1) := by decide +kernel
theorem dX9_richestFrom_8 : decode cX9_richestFrom 8 = .ok (.iaload, 1) := by decide +kernel
theorem dX9_richestFrom_9 : decode cX9_richestFrom 9 = .ok (.if_icmp .ge 47, 3) := by decide +kernel
theorem dX9_richestFrom_12 : decode cX9_richestFrom 12 = .ok (.aload_n 0, 1) := by decide +kernel
theorem dX9_richestFrom_13 : decode cX9_richestFrom 13 = .ok (.iload_n 1, 1) := by decide +kernel
theorem dX9_richestFrom_14 : decode cX9_richestFrom 14 = .ok (.iload_n 3, 1) := by decide +kernel
theorem dX9_richestFrom_15 : decode cX9_richestFrom 15 = .ok (.invokestatic 48, 3) := by decide +kernel
theorem dX9_richestFrom_18 : decode cX9_richestFrom 18 = .ok (.ifCond .eq 32, 3) := by decide +kernel
theorem dX9_richestFrom_21 : decode cX9_richestFrom 21 = .ok (.iload_n 2, 1) := by decide +kernel
theorem dX9_richestFrom_22 : decode cX9_richestFrom 22 = .ok (.ifCond .lt 26, 3) := by decide +kernel
theorem dX9_richestFrom_25 : decode cX9_richestFrom 25 = .ok (.aload_n 0, 1) := by decide +kernel
theorem dX9_richestFrom_26 : decode cX9_richestFrom 26 = .ok (.iload_n 3, 1) := by decide +kernel
theorem dX9_richestFrom_27 : decode cX9_richestFrom 27 = .ok (.iconst 2, 1) := by decide +kernel
theorem dX9_richestFrom_28 : decode cX9_richestFrom 28 = .ok (.invokestatic 44, 3) := by decide +kernel
theorem dX9_richestFrom_31 : decode cX9_richestFrom 31 = .ok (.iaload, 1) := by decide +kernel
theorem dX9_richestFrom_32 : decode cX9_richestFrom 32 = .ok (.invokestatic 52, 3) := by decide +kernel
theorem dX9_richestFrom_35 : decode cX9_richestFrom 35 = .ok (.aload_n 0, 1) := by decide +kernel
theorem dX9_richestFrom_36 : decode cX9_richestFrom 36 = .ok (.iload_n 2, 1) := by decide +kernel
theorem dX9_richestFrom_37 : decode cX9_richestFrom 37 = .ok (.iconst 2, 1) := by decide +kernel
theorem dX9_richestFrom_38 : decode cX9_richestFrom 38 = .ok (.invokestatic 44, 3) := by decide +kernel
theorem dX9_richestFrom_41 : decode cX9_richestFrom 41 = .ok (.iaload, 1) := by decide +kernel
theorem dX9_richestFrom_42 : decode cX9_richestFrom 42 = .ok (.invokestatic 52, 3) := by decide +kernel
theorem dX9_richestFrom_45 : decode cX9_richestFrom 45 = .ok (.if_icmp .le 5, 3) := by decide +kernel
theorem dX9_richestFrom_48 : decode cX9_richestFrom 48 = .ok (.iload_n 3, 1) := by decide +kernel
theorem dX9_richestFrom_49 : decode cX9_richestFrom 49 = .ok (.istore_n 2, 1) := by decide +kernel
theorem dX9_richestFrom_50 : decode cX9_richestFrom 50 = .ok (.iinc 3 1, 3) := by decide +kernel
theorem dX9_richestFrom_53 : decode cX9_richestFrom 53 = .ok (.goto (-48), 3) := by decide +kernel
theorem dX9_richestFrom_56 : decode cX9_richestFrom 56 = .ok (.iload_n 2, 1) := by decide +kernel
theorem dX9_richestFrom_57 : decode cX9_richestFrom 57 = .ok (.ireturn, 1) := by decide +kernel
theorem dX9_leastFrom_0 : decode cX9_leastFrom 0 = .ok (.iconst 0, 1) := by decide +kernel
theorem dX9_leastFrom_1 : decode cX9_leastFrom 1 = .ok (.istore_n 2, 1) := by decide +kernel
theorem dX9_leastFrom_2 : decode cX9_leastFrom 2 = .ok (.iload_n 2, 1) := by decide +kernel
theorem dX9_leastFrom_3 : decode cX9_leastFrom 3 = .ok (.aload_n 0, 1) := by decide +kernel
theorem dX9_leastFrom_4 : decode cX9_leastFrom 4 = .ok (.iconst 0, 1) := by decide +kernel
theorem dX9_leastFrom_5 : decode cX9_leastFrom 5 = .ok (.iaload, 1) := by decide +kernel
theorem dX9_leastFrom_6 : decode cX9_leastFrom 6 = .ok (.if_icmp .ge 20, 3) := by decide +kernel
theorem dX9_leastFrom_9 : decode cX9_leastFrom 9 = .ok (.aload_n 0, 1) := by decide +kernel
theorem dX9_leastFrom_10 : decode cX9_leastFrom 10 = .ok (.iload_n 1, 1) := by decide +kernel
theorem dX9_leastFrom_11 : decode cX9_leastFrom 11 = .ok (.iload_n 2, 1) := by decide +kernel
theorem dX9_leastFrom_12 : decode cX9_leastFrom 12 = .ok (.invokestatic 48, 3) := by decide +kernel
theorem dX9_leastFrom_15 : decode cX9_leastFrom 15 = .ok (.ifCond .eq 5, 3) := by decide +kernel
theorem dX9_leastFrom_18 : decode cX9_leastFrom 18 = .ok (.iload_n 2, 1) := by decide +kernel
theorem dX9_leastFrom_19 : decode cX9_leastFrom 19 = .ok (.ireturn, 1) := by decide +kernel
theorem dX9_leastFrom_20 : decode cX9_leastFrom 20 = .ok (.iinc 2 1, 3) := by decide +kernel
theorem dX9_leastFrom_23 : decode cX9_leastFrom 23 = .ok (.goto (-21), 3) := by decide +kernel
theorem dX9_leastFrom_26 : decode cX9_leastFrom 26 = .ok (.bipush (-9), 2) := by decide +kernel
theorem dX9_leastFrom_28 : decode cX9_leastFrom 28 = .ok (.ireturn, 1) := by decide +kernel
theorem dX9_fromWhom_0 : decode cX9_fromWhom 0 = .ok (.aload_n 0, 1) := by decide +kernel
theorem dX9_fromWhom_1 : decode cX9_fromWhom 1 = .ok (.iload_n 1, 1) := by decide +kernel
theorem dX9_fromWhom_2 : decode cX9_fromWhom 2 = .ok (.iconst 0, 1) := by decide +kernel
theorem dX9_fromWhom_3 : decode cX9_fromWhom 3 = .ok (.invokestatic 44, 3) := by decide +kernel
theorem dX9_fromWhom_6 : decode cX9_fromWhom 6 = .ok (.iaload, 1) := by decide +kernel
theorem dX9_fromWhom_7 : decode cX9_fromWhom 7 = .ok (.tableswitch 52 1 5 #[33, 39, 33, 39, 46], 33) := by decide +kernel
theorem dX9_fromWhom_40 : decode cX9_fromWhom 40 = .ok (.aload_n 0, 1) := by decide +kernel
theorem dX9_fromWhom_41 : decode cX9_fromWhom 41 = .ok (.iload_n 1, 1) := by decide +kernel
theorem dX9_fromWhom_42 : decode cX9_fromWhom 42 = .ok (.invokestatic 55, 3) := by decide +kernel
theorem dX9_fromWhom_45 : decode cX9_fromWhom 45 = .ok (.ireturn, 1) := by decide +kernel
theorem dX9_fromWhom_46 : decode cX9_fromWhom 46 = .ok (.aload_n 0, 1) := by decide +kernel
theorem dX9_fromWhom_47 : decode cX9_fromWhom 47 = .ok (.iload_n 1, 1) := by decide +kernel
theorem dX9_fromWhom_48 : decode cX9_fromWhom 48 = .ok (.iconst (-1), 1) := by decide +kernel
theorem dX9_fromWhom_49 : decode cX9_fromWhom 49 = .ok (.invokestatic 59, 3) := by decide +kernel
theorem dX9_fromWhom_52 : decode cX9_fromWhom 52 = .ok (.ireturn, 1) := by decide +kernel
theorem dX9_fromWhom_53 : decode cX9_fromWhom 53 = .ok (.aload_n 0, 1) := by decide +kernel
theorem dX9_fromWhom_54 : decode cX9_fromWhom 54 = .ok (.iload_n 1, 1) := by decide +kernel
theorem dX9_fromWhom_55 : decode cX9_fromWhom 55 = .ok (.invokestatic 62, 3) := by decide +kernel
theorem dX9_fromWhom_58 : decode cX9_fromWhom 58 = .ok (.ireturn, 1) := by decide +kernel
theorem dX9_fromWhom_59 : decode cX9_fromWhom 59 = .ok (.aload_n 0, 1) := by decide +kernel
theorem dX9_fromWhom_60 : decode cX9_fromWhom 60 = .ok (.iload_n 1, 1) := by decide +kernel
theorem dX9_fromWhom_61 : decode cX9_fromWhom 61 = .ok (.iconst 1, 1) := by decide +kernel
theorem dX9_fromWhom_62 : decode cX9_fromWhom 62 = .ok (.invokestatic 59, 3) := by decide +kernel
theorem dX9_fromWhom_65 : decode cX9_fromWhom 65 = .ok (.ireturn, 1) := by decide +kernel
theorem dX9_whichOf_0 : decode cX9_whichOf 0 = .ok (.aload_n 0, 1) := by decide +kernel
theorem dX9_whichOf_1 : decode cX9_whichOf 1 = .ok (.iload_n 1, 1) := by decide +kernel
theorem dX9_whichOf_2 : decode cX9_whichOf 2 = .ok (.iconst 0, 1) := by decide +kernel
theorem dX9_whichOf_3 : decode cX9_whichOf 3 = .ok (.invokestatic 44, 3) := by decide +kernel
theorem dX9_whichOf_6 : decode cX9_whichOf 6 = .ok (.iaload, 1) := by decide +kernel
theorem dX9_whichOf_7 : decode cX9_whichOf 7 = .ok (.iconst 3, 1) := by decide +kernel
theorem dX9_whichOf_8 : decode cX9_whichOf 8 = .ok (.if_icmp .eq 14, 3) := by decide +kernel
theorem dX9_whichOf_11 : decode cX9_whichOf 11 = .ok (.aload_n 0, 1) := by decide +kernel
theorem dX9_whichOf_12 : decode cX9_whichOf 12 = .ok (.iload_n 1, 1) := by decide +kernel
theorem dX9_whichOf_13 : decode cX9_whichOf 13 = .ok (.iconst 0, 1) := by decide +kernel
theorem dX9_whichOf_14 : decode cX9_whichOf 14 = .ok (.invokestatic 44, 3) := by decide +kernel
theorem dX9_whichOf_17 : decode cX9_whichOf 17 = .ok (.iaload, 1) := by decide +kernel
theorem dX9_whichOf_18 : decode cX9_whichOf 18 = .ok (.iconst 5, 1) := by decide +kernel
theorem dX9_whichOf_19 : decode cX9_whichOf 19 = .ok (.if_icmp .ne 7, 3) := by decide +kernel
theorem dX9_whichOf_22 : decode cX9_whichOf 22 = .ok (.iconst 1, 1) := by decide +kernel
theorem dX9_whichOf_23 : decode cX9_whichOf 23 = .ok (.goto 4, 3) := by decide +kernel
theorem dX9_whichOf_26 : decode cX9_whichOf 26 = .ok (.iconst 0, 1) := by decide +kernel
theorem dX9_whichOf_27 : decode cX9_whichOf 27 = .ok (.istore_n 3, 1) := by decide +kernel
theorem dX9_whichOf_28 : decode cX9_whichOf 28 = .ok (.aload_n 0, 1) := by decide +kernel
theorem dX9_whichOf_29 : decode cX9_whichOf 29 = .ok (.iload_n 1, 1) := by decide +kernel
theorem dX9_whichOf_30 : decode cX9_whichOf 30 = .ok (.iload_n 2, 1) := by decide +kernel
theorem dX9_whichOf_31 : decode cX9_whichOf 31 = .ok (.invokestatic 48, 3) := by decide +kernel
theorem dX9_whichOf_34 : decode cX9_whichOf 34 = .ok (.istore 4, 2) := by decide +kernel
theorem dX9_whichOf_36 : decode cX9_whichOf 36 = .ok (.bipush (-9), 2) := by decide +kernel
theorem dX9_whichOf_38 : decode cX9_whichOf 38 = .ok (.istore 5, 2) := by decide +kernel
theorem dX9_whichOf_40 : decode cX9_whichOf 40 = .ok (.iconst 0, 1) := by decide +kernel
theorem dX9_whichOf_41 : decode cX9_whichOf 41 = .ok (.istore 6, 2) := by decide +kernel
theorem dX9_whichOf_43 : decode cX9_whichOf 43 = .ok (.iload 6, 2) := by decide +kernel
theorem dX9_whichOf_45 : decode cX9_whichOf 45 = .ok (.bipush 7, 2) := by decide +kernel
theorem dX9_whichOf_47 : decode cX9_whichOf 47 = .ok (.if_icmp .ge 32, 3) := by decide +kernel
theorem dX9_whichOf_50 : decode cX9_whichOf 50 = .ok (.iload 4, 2) := by decide +kernel
theorem dX9_whichOf_52 : decode cX9_whichOf 52 = .ok (.iload 6, 2) := by decide +kernel
theorem dX9_whichOf_54 : decode cX9_whichOf 54 = .ok (.invokestatic 65, 3) := by decide +kernel
theorem dX9_whichOf_57 : decode cX9_whichOf 57 = .ok (.ifCond .eq 16, 3) := by decide +kernel
theorem dX9_whichOf_60 : decode cX9_whichOf 60 = .ok (.iload 5, 2) := by decide +kernel
theorem dX9_whichOf_62 : decode cX9_whichOf 62 = .ok (.ifCond .lt 7, 3) := by decide +kernel
theorem dX9_whichOf_65 : decode cX9_whichOf 65 = .ok (.iload_n 3, 1) := by decide +kernel
theorem dX9_whichOf_66 : decode cX9_whichOf 66 = .ok (.ifCond .eq 7, 3) := by decide +kernel
theorem dX9_whichOf_69 : decode cX9_whichOf 69 = .ok (.iload 6, 2) := by decide +kernel
theorem dX9_whichOf_71 : decode cX9_whichOf 71 = .ok (.istore 5, 2) := by decide +kernel
theorem dX9_whichOf_73 : decode cX9_whichOf 73 = .ok (.iinc 6 1, 3) := by decide +kernel
theorem dX9_whichOf_76 : decode cX9_whichOf 76 = .ok (.goto (-33), 3) := by decide +kernel
theorem dX9_whichOf_79 : decode cX9_whichOf 79 = .ok (.iload 5, 2) := by decide +kernel
theorem dX9_whichOf_81 : decode cX9_whichOf 81 = .ok (.ireturn, 1) := by decide +kernel
theorem dX9_movesDay_0 : decode cX9_movesDay 0 = .ok (.aload_n 0, 1) := by decide +kernel
theorem dX9_movesDay_1 : decode cX9_movesDay 1 = .ok (.iload_n 1, 1) := by decide +kernel
theorem dX9_movesDay_2 : decode cX9_movesDay 2 = .ok (.iconst 2, 1) := by decide +kernel
theorem dX9_movesDay_3 : decode cX9_movesDay 3 = .ok (.invokestatic 44, 3) := by decide +kernel
theorem dX9_movesDay_6 : decode cX9_movesDay 6 = .ok (.dup2, 1) := by decide +kernel
theorem dX9_movesDay_7 : decode cX9_movesDay 7 = .ok (.iaload, 1) := by decide +kernel
theorem dX9_movesDay_8 : decode cX9_movesDay 8 = .ok (.iconst 1, 1) := by decide +kernel
theorem dX9_movesDay_9 : decode cX9_movesDay 9 = .ok (.iload_n 3, 1) := by decide +kernel
theorem dX9_movesDay_10 : decode cX9_movesDay 10 = .ok (.ishl, 1) := by decide +kernel
theorem dX9_movesDay_11 : decode cX9_movesDay 11 = .ok (.iconst (-1), 1) := by decide +kernel
theorem dX9_movesDay_12 : decode cX9_movesDay 12 = .ok (.ixor, 1) := by decide +kernel
theorem dX9_movesDay_13 : decode cX9_movesDay 13 = .ok (.iand, 1) := by decide +kernel
theorem dX9_movesDay_14 : decode cX9_movesDay 14 = .ok (.iastore, 1) := by decide +kernel
theorem dX9_movesDay_15 : decode cX9_movesDay 15 = .ok (.aload_n 0, 1) := by decide +kernel
theorem dX9_movesDay_16 : decode cX9_movesDay 16 = .ok (.iload_n 2, 1) := by decide +kernel
theorem dX9_movesDay_17 : decode cX9_movesDay 17 = .ok (.iconst 2, 1) := by decide +kernel
theorem dX9_movesDay_18 : decode cX9_movesDay 18 = .ok (.invokestatic 44, 3) := by decide +kernel
theorem dX9_movesDay_21 : decode cX9_movesDay 21 = .ok (.dup2, 1) := by decide +kernel
theorem dX9_movesDay_22 : decode cX9_movesDay 22 = .ok (.iaload, 1) := by decide +kernel
theorem dX9_movesDay_23 : decode cX9_movesDay 23 = .ok (.iconst 1, 1) := by decide +kernel
theorem dX9_movesDay_24 : decode cX9_movesDay 24 = .ok (.iload_n 3, 1) := by decide +kernel
theorem dX9_movesDay_25 : decode cX9_movesDay 25 = .ok (.ishl, 1) := by decide +kernel
theorem dX9_movesDay_26 : decode cX9_movesDay 26 = .ok (.ior, 1) := by decide +kernel
theorem dX9_movesDay_27 : decode cX9_movesDay 27 = .ok (.iastore, 1) := by decide +kernel
theorem dX9_movesDay_28 : decode cX9_movesDay 28 = .ok (.return_, 1) := by decide +kernel
theorem dX9_isPaid_0 : decode cX9_isPaid 0 = .ok (.aload_n 0, 1) := by decide +kernel
theorem dX9_isPaid_1 : decode cX9_isPaid 1 = .ok (.iload_n 1, 1) := by decide +kernel
theorem dX9_isPaid_2 : decode cX9_isPaid 2 = .ok (.invokestatic 69, 3) := by decide +kernel
theorem dX9_isPaid_5 : decode cX9_isPaid 5 = .ok (.istore_n 2, 1) := by decide +kernel
theorem dX9_isPaid_6 : decode cX9_isPaid 6 = .ok (.iload_n 2, 1) := by decide +kernel
theorem dX9_isPaid_7 : decode cX9_isPaid 7 = .ok (.ifCond .ge 4, 3) := by decide +kernel
theorem dX9_isPaid_10 : decode cX9_isPaid 10 = .ok (.return_, 1) := by decide +kernel
theorem dX9_isPaid_11 : decode cX9_isPaid 11 = .ok (.aload_n 0, 1) := by decide +kernel
theorem dX9_isPaid_12 : decode cX9_isPaid 12 = .ok (.iload_n 2, 1) := by decide +kernel
theorem dX9_isPaid_13 : decode cX9_isPaid 13 = .ok (.iload_n 1, 1) := by decide +kernel
theorem dX9_isPaid_14 : decode cX9_isPaid 14 = .ok (.aload_n 0, 1) := by decide +kernel
theorem dX9_isPaid_15 : decode cX9_isPaid 15 = .ok (.iload_n 1, 1) := by decide +kernel
theorem dX9_isPaid_16 : decode cX9_isPaid 16 = .ok (.iload_n 2, 1) := by decide +kernel
theorem dX9_isPaid_17 : decode cX9_isPaid 17 = .ok (.invokestatic 72, 3) := by decide +kernel
theorem dX9_isPaid_20 : decode cX9_isPaid 20 = .ok (.invokestatic 75, 3) := by decide +kernel
theorem dX9_isPaid_23 : decode cX9_isPaid 23 = .ok (.aload_n 0, 1) := by decide +kernel
theorem dX9_isPaid_24 : decode cX9_isPaid 24 = .ok (.iconst 2, 1) := by decide +kernel
theorem dX9_isPaid_25 : decode cX9_isPaid 25 = .ok (.sipush 9999, 3) := by decide +kernel
theorem dX9_isPaid_28 : decode cX9_isPaid 28 = .ok (.aload_n 0, 1) := by decide +kernel
theorem dX9_isPaid_29 : decode cX9_isPaid 29 = .ok (.iconst 2, 1) := by decide +kernel
theorem dX9_isPaid_30 : decode cX9_isPaid 30 = .ok (.iaload, 1) := by decide +kernel
theorem dX9_isPaid_31 : decode cX9_isPaid 31 = .ok (.iconst 1, 1) := by decide +kernel
theorem dX9_isPaid_32 : decode cX9_isPaid 32 = .ok (.iadd, 1) := by decide +kernel
theorem dX9_isPaid_33 : decode cX9_isPaid 33 = .ok (.invokestatic 79, 3) := by decide +kernel
theorem dX9_isPaid_36 : decode cX9_isPaid 36 = .ok (.iastore, 1) := by decide +kernel
theorem dX9_isPaid_37 : decode cX9_isPaid 37 = .ok (.aload_n 0, 1) := by decide +kernel
theorem dX9_isPaid_38 : decode cX9_isPaid 38 = .ok (.iload_n 1, 1) := by decide +kernel
theorem dX9_isPaid_39 : decode cX9_isPaid 39 = .ok (.iconst 4, 1) := by decide +kernel
theorem dX9_isPaid_40 : decode cX9_isPaid 40 = .ok (.invokestatic 44, 3) := by decide +kernel
theorem dX9_isPaid_43 : decode cX9_isPaid 43 = .ok (.iconst 0, 1) := by decide +kernel
theorem dX9_isPaid_44 : decode cX9_isPaid 44 = .ok (.iastore, 1) := by decide +kernel
theorem dX9_isPaid_45 : decode cX9_isPaid 45 = .ok (.return_, 1) := by decide +kernel
theorem dX9_day_0 : decode cX9_day 0 = .ok (.aload_n 0, 1) := by decide +kernel
theorem dX9_day_1 : decode cX9_day 1 = .ok (.iconst 1, 1) := by decide +kernel
theorem dX9_day_2 : decode cX9_day 2 = .ok (.dup2, 1) := by decide +kernel
theorem dX9_day_3 : decode cX9_day 3 = .ok (.iaload, 1) := by decide +kernel
theorem dX9_day_4 : decode cX9_day 4 = .ok (.iconst 1, 1) := by decide +kernel
theorem dX9_day_5 : decode cX9_day 5 = .ok (.iadd, 1) := by decide +kernel
theorem dX9_day_6 : decode cX9_day 6 = .ok (.iastore, 1) := by decide +kernel
theorem dX9_day_7 : decode cX9_day 7 = .ok (.iconst 0, 1) := by decide +kernel
theorem dX9_day_8 : decode cX9_day 8 = .ok (.istore_n 2, 1) := by decide +kernel
theorem dX9_day_9 : decode cX9_day 9 = .ok (.iload_n 2, 1) := by decide +kernel
theorem dX9_day_10 : decode cX9_day 10 = .ok (.aload_n 0, 1) := by decide +kernel
theorem dX9_day_11 : decode cX9_day 11 = .ok (.iconst 0, 1) := by decide +kernel
theorem dX9_day_12 : decode cX9_day 12 = .ok (.iaload, 1) := by decide +kernel
theorem dX9_day_13 : decode cX9_day 13 = .ok (.if_icmp .ge 150, 3) := by decide +kernel
theorem dX9_day_16 : decode cX9_day 16 = .ok (.aload_n 0, 1) := by decide +kernel
theorem dX9_day_17 : decode cX9_day 17 = .ok (.iload_n 2, 1) := by decide +kernel
theorem dX9_day_18 : decode cX9_day 18 = .ok (.iconst 2, 1) := by decide +kernel
theorem dX9_day_19 : decode cX9_day 19 = .ok (.invokestatic 44, 3) := by decide +kernel
theorem dX9_day_22 : decode cX9_day 22 = .ok (.iaload, 1) := by decide +kernel
theorem dX9_day_23 : decode cX9_day 23 = .ok (.aload_n 0, 1) := by decide +kernel
theorem dX9_day_24 : decode cX9_day 24 = .ok (.iconst 1, 1) := by decide +kernel
theorem dX9_day_25 : decode cX9_day 25 = .ok (.iaload, 1) := by decide +kernel
theorem dX9_day_26 : decode cX9_day 26 = .ok (.bipush 7, 2) := by decide +kernel
theorem dX9_day_28 : decode cX9_day 28 = .ok (.irem, 1) := by decide +kernel
theorem dX9_day_29 : decode cX9_day 29 = .ok (.invokestatic 65, 3) := by decide +kernel
theorem dX9_day_32 : decode cX9_day 32 = .ok (.ifCond .eq 37, 3) := by decide +kernel
theorem dX9_day_35 : decode cX9_day 35 = .ok (.aload_n 0, 1) := by decide +kernel
theorem dX9_day_36 : decode cX9_day 36 = .ok (.iload_n 2, 1) := by decide +kernel
theorem dX9_day_37 : decode cX9_day 37 = .ok (.iconst 3, 1) := by decide +kernel
theorem dX9_day_38 : decode cX9_day 38 = .ok (.invokestatic 44, 3) := by decide +kernel
theorem dX9_day_41 : decode cX9_day 41 = .ok (.aload_n 0, 1) := by decide +kernel
theorem dX9_day_42 : decode cX9_day 42 = .ok (.iload_n 2, 1) := by decide +kernel
theorem dX9_day_43 : decode cX9_day 43 = .ok (.iconst 3, 1) := by decide +kernel
theorem dX9_day_44 : decode cX9_day 44 = .ok (.invokestatic 44, 3) := by decide +kernel
theorem dX9_day_47 : decode cX9_day 47 = .ok (.iaload, 1) := by decide +kernel
theorem dX9_day_48 : decode cX9_day 48 = .ok (.iconst 2, 1) := by decide +kernel
theorem dX9_day_49 : decode cX9_day 49 = .ok (.if_icmp .ge 7, 3) := by decide +kernel
theorem dX9_day_52 : decode cX9_day 52 = .ok (.iconst 0, 1) := by decide +kernel
theorem dX9_day_53 : decode cX9_day 53 = .ok (.goto 12, 3) := by decide +kernel
theorem dX9_day_56 : decode cX9_day 56 = .ok (.aload_n 0, 1) := by decide +kernel
theorem dX9_day_57 : decode cX9_day 57 = .ok (.iload_n 2, 1) := by decide +kernel
theorem dX9_day_58 : decode cX9_day 58 = .ok (.iconst 3, 1) := by decide +kernel
theorem dX9_day_59 : decode cX9_day 59 = .ok (.invokestatic 44, 3) := by decide +kernel
theorem dX9_day_62 : decode cX9_day 62 = .ok (.iaload, 1) := by decide +kernel
theorem dX9_day_63 : decode cX9_day 63 = .ok (.iconst 2, 1) := by decide +kernel
theorem dX9_day_64 : decode cX9_day 64 = .ok (.isub, 1) := by decide +kernel
theorem dX9_day_65 : decode cX9_day 65 = .ok (.iastore, 1) := by decide +kernel
theorem dX9_day_66 : decode cX9_day 66 = .ok (.goto 91, 3) := by decide +kernel
theorem dX9_day_69 : decode cX9_day 69 = .ok (.aload_n 0, 1) := by decide +kernel
theorem dX9_day_70 : decode cX9_day 70 = .ok (.iload_n 2, 1) := by decide +kernel
theorem dX9_day_71 : decode cX9_day 71 = .ok (.iconst 3, 1) := by decide +kernel
theorem dX9_day_72 : decode cX9_day 72 = .ok (.invokestatic 44, 3) := by decide +kernel
theorem dX9_day_75 : decode cX9_day 75 = .ok (.bipush 30, 2) := by decide +kernel
theorem dX9_day_77 : decode cX9_day 77 = .ok (.aload_n 0, 1) := by decide +kernel
theorem dX9_day_78 : decode cX9_day 78 = .ok (.iload_n 2, 1) := by decide +kernel
theorem dX9_day_79 : decode cX9_day 79 = .ok (.iconst 3, 1) := by decide +kernel
theorem dX9_day_80 : decode cX9_day 80 = .ok (.invokestatic 44, 3) := by decide +kernel
theorem dX9_day_83 : decode cX9_day 83 = .ok (.iaload, 1) := by decide +kernel
theorem dX9_day_84 : decode cX9_day 84 = .ok (.iconst 1, 1) := by decide +kernel
theorem dX9_day_85 : decode cX9_day 85 = .ok (.iadd, 1) := by decide +kernel
theorem dX9_day_86 : decode cX9_day 86 = .ok (.invokestatic 79, 3) := by decide +kernel
theorem dX9_day_89 : decode cX9_day 89 = .ok (.iastore, 1) := by decide +kernel
theorem dX9_day_90 : decode cX9_day 90 = .ok (.aload_n 0, 1) := by decide +kernel
theorem dX9_day_91 : decode cX9_day 91 = .ok (.iload_n 2, 1) := by decide +kernel
theorem dX9_day_92 : decode cX9_day 92 = .ok (.iconst 4, 1) := by decide +kernel
theorem dX9_day_93 : decode cX9_day 93 = .ok (.invokestatic 44, 3) := by decide +kernel
theorem dX9_day_96 : decode cX9_day 96 = .ok (.bipush 9, 2) := by decide +kernel
theorem dX9_day_98 : decode cX9_day 98 = .ok (.aload_n 0, 1) := by decide +kernel
theorem dX9_day_99 : decode cX9_day 99 = .ok (.iload_n 2, 1) := by decide +kernel
theorem dX9_day_100 : decode cX9_day 100 = .ok (.iconst 4, 1) := by decide +kernel
theorem dX9_day_101 : decode cX9_day 101 = .ok (.invokestatic 44, 3) := by decide +kernel
theorem dX9_day_104 : decode cX9_day 104 = .ok (.iaload, 1) := by decide +kernel
theorem dX9_day_105 : decode cX9_day 105 = .ok (.iconst 1, 1) := by decide +kernel
theorem dX9_day_106 : decode cX9_day 106 = .ok (.iadd, 1) := by decide +kernel
theorem dX9_day_107 : decode cX9_day 107 = .ok (.invokestatic 79, 3) := by decide +kernel
theorem dX9_day_110 : decode cX9_day 110 = .ok (.iastore, 1) := by decide +kernel
theorem dX9_day_111 : decode cX9_day 111 = .ok (.aload_n 0, 1) := by decide +kernel
theorem dX9_day_112 : decode cX9_day 112 = .ok (.iload_n 2, 1) := by decide +kernel
theorem dX9_day_113 : decode cX9_day 113 = .ok (.iconst 0, 1) := by decide +kernel
theorem dX9_day_114 : decode cX9_day 114 = .ok (.invokestatic 44, 3) := by decide +kernel
theorem dX9_day_117 : decode cX9_day 117 = .ok (.iaload, 1) := by decide +kernel
theorem dX9_day_118 : decode cX9_day 118 = .ok (.aload_n 0, 1) := by decide +kernel
theorem dX9_day_119 : decode cX9_day 119 = .ok (.iload_n 2, 1) := by decide +kernel
theorem dX9_day_120 : decode cX9_day 120 = .ok (.iconst 1, 1) := by decide +kernel
theorem dX9_day_121 : decode cX9_day 121 = .ok (.invokestatic 44, 3) := by decide +kernel
theorem dX9_day_124 : decode cX9_day 124 = .ok (.iaload, 1) := by decide +kernel
theorem dX9_day_125 : decode cX9_day 125 = .ok (.invokestatic 82, 3) := by decide +kernel
theorem dX9_day_128 : decode cX9_day 128 = .ok (.istore_n 3, 1) := by decide +kernel
theorem dX9_day_129 : decode cX9_day 129 = .ok (.iload_n 3, 1) := by decide +kernel
theorem dX9_day_130 : decode cX9_day 130 = .ok (.ifCond .le 27, 3) := by decide +kernel
theorem dX9_day_133 : decode cX9_day 133 = .ok (.aload_n 0, 1) := by decide +kernel
theorem dX9_day_134 : decode cX9_day 134 = .ok (.iload_n 2, 1) := by decide +kernel
theorem dX9_day_135 : decode cX9_day 135 = .ok (.iconst 4, 1) := by decide +kernel
theorem dX9_day_136 : decode cX9_day 136 = .ok (.invokestatic 44, 3) := by decide +kernel
theorem dX9_day_139 : decode cX9_day 139 = .ok (.iaload, 1) := by decide +kernel
theorem dX9_day_140 : decode cX9_day 140 = .ok (.iload_n 3, 1) := by decide +kernel
theorem dX9_day_141 : decode cX9_day 141 = .ok (.if_icmp .lt 16, 3) := by decide +kernel
theorem dX9_day_144 : decode cX9_day 144 = .ok (.iload_n 1, 1) := by decide +kernel
theorem dX9_day_145 : decode cX9_day 145 = .ok (.iload_n 2, 1) := by decide +kernel
theorem dX9_day_146 : decode cX9_day 146 = .ok (.invokestatic 65, 3) := by decide +kernel
theorem dX9_day_149 : decode cX9_day 149 = .ok (.ifCond .ne 8, 3) := by decide +kernel
theorem dX9_day_152 : decode cX9_day 152 = .ok (.aload_n 0, 1) := by decide +kernel
theorem dX9_day_153 : decode cX9_day 153 = .ok (.iload_n 2, 1) := by decide +kernel
theorem dX9_day_154 : decode cX9_day 154 = .ok (.invokestatic 85, 3) := by decide +kernel
theorem dX9_day_157 : decode cX9_day 157 = .ok (.iinc 2 1, 3) := by decide +kernel
theorem dX9_day_160 : decode cX9_day 160 = .ok (.goto (-151), 3) := by decide +kernel
theorem dX9_day_163 : decode cX9_day 163 = .ok (.return_, 1) := by decide +kernel
theorem dX9_daysOn_0 : decode cX9_daysOn 0 = .ok (.iconst 0, 1) := by decide +kernel
theorem dX9_daysOn_1 : decode cX9_daysOn 1 = .ok (.istore_n 2, 1) := by decide +kernel
theorem dX9_daysOn_2 : decode cX9_daysOn 2 = .ok (.iload_n 2, 1) := by decide +kernel
theorem dX9_daysOn_3 : decode cX9_daysOn 3 = .ok (.iload_n 1, 1) := by decide +kernel
theorem dX9_daysOn_4 : decode cX9_daysOn 4 = .ok (.if_icmp .ge 14, 3) := by decide +kernel
theorem dX9_daysOn_7 : decode cX9_daysOn 7 = .ok (.aload_n 0, 1) := by decide +kernel
theorem dX9_daysOn_8 : decode cX9_daysOn 8 = .ok (.iconst 0, 1) := by decide +kernel
theorem dX9_daysOn_9 : decode cX9_daysOn 9 = .ok (.invokestatic 89, 3) := by decide +kernel
theorem dX9_daysOn_12 : decode cX9_daysOn 12 = .ok (.iinc 2 1, 3) := by decide +kernel
theorem dX9_daysOn_15 : decode cX9_daysOn 15 = .ok (.goto (-13), 3) := by decide +kernel
theorem dX9_daysOn_18 : decode cX9_daysOn 18 = .ok (.return_, 1) := by decide +kernel
theorem dX9_inOn_0 : decode cX9_inOn 0 = .ok (.iconst 0, 1) := by decide +kernel
theorem dX9_inOn_1 : decode cX9_inOn 1 = .ok (.istore_n 2, 1) := by decide +kernel
theorem dX9_inOn_2 : decode cX9_inOn 2 = .ok (.iconst 0, 1) := by decide +kernel
theorem dX9_inOn_3 : decode cX9_inOn 3 = .ok (.istore_n 3, 1) := by decide +kernel
theorem dX9_inOn_4 : decode cX9_inOn 4 = .ok (.iload_n 3, 1) := by decide +kernel
theorem dX9_inOn_5 : decode cX9_inOn 5 = .ok (.aload_n 0, 1) := by decide +kernel
theorem dX9_inOn_6 : decode cX9_inOn 6 = .ok (.iconst 0, 1) := by decide +kernel
theorem dX9_inOn_7 : decode cX9_inOn 7 = .ok (.iaload, 1) := by decide +kernel
theorem dX9_inOn_8 : decode cX9_inOn 8 = .ok (.if_icmp .ge 33, 3) := by decide +kernel
theorem dX9_inOn_11 : decode cX9_inOn 11 = .ok (.iload_n 2, 1) := by decide +kernel
theorem dX9_inOn_12 : decode cX9_inOn 12 = .ok (.aload_n 0, 1) := by decide +kernel
theorem dX9_inOn_13 : decode cX9_inOn 13 = .ok (.iload_n 3, 1) := by decide +kernel
theorem dX9_inOn_14 : decode cX9_inOn 14 = .ok (.iconst 2, 1) := by decide +kernel
theorem dX9_inOn_15 : decode cX9_inOn 15 = .ok (.invokestatic 44, 3) := by decide +kernel
theorem dX9_inOn_18 : decode cX9_inOn 18 = .ok (.iaload, 1) := by decide +kernel
theorem dX9_inOn_19 : decode cX9_inOn 19 = .ok (.iload_n 1, 1) := by decide +kernel
theorem dX9_inOn_20 : decode cX9_inOn 20 = .ok (.invokestatic 65, 3) := by decide +kernel
theorem dX9_inOn_23 : decode cX9_inOn 23 = .ok (.ifCond .eq 7, 3) := by decide +kernel
theorem dX9_inOn_26 : decode cX9_inOn 26 = .ok (.iconst 0, 1) := by decide +kernel
theorem dX9_inOn_27 : decode cX9_inOn 27 = .ok (.goto 6, 3) := by decide +kernel
theorem dX9_inOn_30 : decode cX9_inOn 30 = .ok (.iconst 1, 1) := by decide +kernel
theorem dX9_inOn_31 : decode cX9_inOn 31 = .ok (.iload_n 3, 1) := by decide +kernel
theorem dX9_inOn_32 : decode cX9_inOn 32 = .ok (.ishl, 1) := by decide +kernel
theorem dX9_inOn_33 : decode cX9_inOn 33 = .ok (.ior, 1) := by decide +kernel
theorem dX9_inOn_34 : decode cX9_inOn 34 = .ok (.istore_n 2, 1) := by decide +kernel
theorem dX9_inOn_35 : decode cX9_inOn 35 = .ok (.iinc 3 1, 3) := by decide +kernel
theorem dX9_inOn_38 : decode cX9_inOn 38 = .ok (.goto (-34), 3) := by decide +kernel
theorem dX9_inOn_41 : decode cX9_inOn 41 = .ok (.iload_n 2, 1) := by decide +kernel
theorem dX9_inOn_42 : decode cX9_inOn 42 = .ok (.ireturn, 1) := by decide +kernel
theorem dX9_allTired_0 : decode cX9_allTired 0 = .ok (.iconst 0, 1) := by decide +kernel
theorem dX9_allTired_1 : decode cX9_allTired 1 = .ok (.istore_n 1, 1) := by decide +kernel
theorem dX9_allTired_2 : decode cX9_allTired 2 = .ok (.iconst 0, 1) := by decide +kernel
theorem dX9_allTired_3 : decode cX9_allTired 3 = .ok (.istore_n 2, 1) := by decide +kernel
theorem dX9_allTired_4 : decode cX9_allTired 4 = .ok (.iload_n 2, 1) := by decide +kernel
theorem dX9_allTired_5 : decode cX9_allTired 5 = .ok (.aload_n 0, 1) := by decide +kernel
theorem dX9_allTired_6 : decode cX9_allTired 6 = .ok (.iconst 0, 1) := by decide +kernel
theorem dX9_allTired_7 : decode cX9_allTired 7 = .ok (.iaload, 1) := by decide +kernel
theorem dX9_allTired_8 : decode cX9_allTired 8 = .ok (.if_icmp .ge 19, 3) := by decide +kernel
theorem dX9_allTired_11 : decode cX9_allTired 11 = .ok (.iload_n 1, 1) := by decide +kernel
theorem dX9_allTired_12 : decode cX9_allTired 12 = .ok (.aload_n 0, 1) := by decide +kernel
theorem dX9_allTired_13 : decode cX9_allTired 13 = .ok (.iload_n 2, 1) := by decide +kernel
theorem dX9_allTired_14 : decode cX9_allTired 14 = .ok (.iconst 3, 1) := by decide +kernel
theorem dX9_allTired_15 : decode cX9_allTired 15 = .ok (.invokestatic 44, 3) := by decide +kernel
theorem dX9_allTired_18 : decode cX9_allTired 18 = .ok (.iaload, 1) := by decide +kernel
theorem dX9_allTired_19 : decode cX9_allTired 19 = .ok (.iadd, 1) := by decide +kernel
theorem dX9_allTired_20 : decode cX9_allTired 20 = .ok (.istore_n 1, 1) := by decide +kernel
theorem dX9_allTired_21 : decode cX9_allTired 21 = .ok (.iinc 2 1, 3) := by decide +kernel
theorem dX9_allTired_24 : decode cX9_allTired 24 = .ok (.goto (-20), 3) := by decide +kernel
theorem dX9_allTired_27 : decode cX9_allTired 27 = .ok (.iload_n 1, 1) := by decide +kernel
theorem dX9_allTired_28 : decode cX9_allTired 28 = .ok (.ireturn, 1) := by decide +kernel
theorem dX9_letter_0 : decode cX9_letter 0 = .ok (.iload_n 1, 1) := by decide +kernel
theorem dX9_letter_1 : decode cX9_letter 1 = .ok (.ifCond .ge 10, 3) := by decide +kernel
theorem dX9_letter_4 : decode cX9_letter 4 = .ok (.aload_n 0, 1) := by decide +kernel
theorem dX9_letter_5 : decode cX9_letter 5 = .ok (.bipush (-4), 2) := by decide +kernel
theorem dX9_letter_7 : decode cX9_letter 7 = .ok (.invokevirtual 36, 3) := by decide +kernel
theorem dX9_letter_10 : decode cX9_letter 10 = .ok (.ireturn, 1) := by decide +kernel
theorem dX9_letter_11 : decode cX9_letter 11 = .ok (.iload_n 1, 1) := by decide +kernel
theorem dX9_letter_12 : decode cX9_letter 12 = .ok (.sipush 255, 3) := by decide +kernel
theorem dX9_letter_15 : decode cX9_letter 15 = .ok (.if_icmp .gt 12, 3) := by decide +kernel
theorem dX9_letter_18 : decode cX9_letter 18 = .ok (.aload_n 0, 1) := by decide +kernel
theorem dX9_letter_19 : decode cX9_letter 19 = .ok (.getfield 92, 3) := by decide +kernel
theorem dX9_letter_22 : decode cX9_letter 22 = .ok (.bipush 96, 2) := by decide +kernel
theorem dX9_letter_24 : decode cX9_letter 24 = .ok (.if_icmp .ne 10, 3) := by decide +kernel
theorem dX9_letter_27 : decode cX9_letter 27 = .ok (.aload_n 0, 1) := by decide +kernel
theorem dX9_letter_28 : decode cX9_letter 28 = .ok (.bipush (-6), 2) := by decide +kernel
theorem dX9_letter_30 : decode cX9_letter 30 = .ok (.invokevirtual 36, 3) := by decide +kernel
theorem dX9_letter_33 : decode cX9_letter 33 = .ok (.ireturn, 1) := by decide +kernel
theorem dX9_letter_34 : decode cX9_letter 34 = .ok (.aload_n 0, 1) := by decide +kernel
theorem dX9_letter_35 : decode cX9_letter 35 = .ok (.getfield 22, 3) := by decide +kernel
theorem dX9_letter_38 : decode cX9_letter 38 = .ok (.aload_n 0, 1) := by decide +kernel
theorem dX9_letter_39 : decode cX9_letter 39 = .ok (.getfield 92, 3) := by decide +kernel
theorem dX9_letter_42 : decode cX9_letter 42 = .ok (.iload_n 1, 1) := by decide +kernel
theorem dX9_letter_43 : decode cX9_letter 43 = .ok (.iastore, 1) := by decide +kernel
theorem dX9_letter_44 : decode cX9_letter 44 = .ok (.aload_n 0, 1) := by decide +kernel
theorem dX9_letter_45 : decode cX9_letter 45 = .ok (.dup, 1) := by decide +kernel
theorem dX9_letter_46 : decode cX9_letter 46 = .ok (.getfield 92, 3) := by decide +kernel
theorem dX9_letter_49 : decode cX9_letter 49 = .ok (.iconst 1, 1) := by decide +kernel
theorem dX9_letter_50 : decode cX9_letter 50 = .ok (.iadd, 1) := by decide +kernel
theorem dX9_letter_51 : decode cX9_letter 51 = .ok (.putfield 92, 3) := by decide +kernel
theorem dX9_letter_54 : decode cX9_letter 54 = .ok (.aload_n 0, 1) := by decide +kernel
theorem dX9_letter_55 : decode cX9_letter 55 = .ok (.getfield 92, 3) := by decide +kernel
theorem dX9_letter_58 : decode cX9_letter 58 = .ok (.ireturn, 1) := by decide +kernel
theorem dX9_here_0 : decode cX9_here 0 = .ok (.aload_n 0, 1) := by decide +kernel
theorem dX9_here_1 : decode cX9_here 1 = .ok (.getfield 96, 3) := by decide +kernel
theorem dX9_here_4 : decode cX9_here 4 = .ok (.aload_n 0, 1) := by decide +kernel
theorem dX9_here_5 : decode cX9_here 5 = .ok (.getfield 92, 3) := by decide +kernel
theorem dX9_here_8 : decode cX9_here 8 = .ok (.if_icmp .ge 15, 3) := by decide +kernel
theorem dX9_here_11 : decode cX9_here 11 = .ok (.aload_n 0, 1) := by decide +kernel
theorem dX9_here_12 : decode cX9_here 12 = .ok (.getfield 22, 3) := by decide +kernel
theorem dX9_here_15 : decode cX9_here 15 = .ok (.aload_n 0, 1) := by decide +kernel
theorem dX9_here_16 : decode cX9_here 16 = .ok (.getfield 96, 3) := by decide +kernel
theorem dX9_here_19 : decode cX9_here 19 = .ok (.iaload, 1) := by decide +kernel
theorem dX9_here_20 : decode cX9_here 20 = .ok (.goto 4, 3) := by decide +kernel
theorem dX9_here_23 : decode cX9_here 23 = .ok (.iconst (-1), 1) := by decide +kernel
theorem dX9_here_24 : decode cX9_here 24 = .ok (.ireturn, 1) := by decide +kernel
theorem dX9_readsNumber_0 : decode cX9_readsNumber 0 = .ok (.aload_n 0, 1) := by decide +kernel
theorem dX9_readsNumber_1 : decode cX9_readsNumber 1 = .ok (.getfield 31, 3) := by decide +kernel
theorem dX9_readsNumber_4 : decode cX9_readsNumber 4 = .ok (.iload_n 1, 1) := by decide +kernel
theorem dX9_readsNumber_5 : decode cX9_readsNumber 5 = .ok (.iconst 0, 1) := by decide +kernel
theorem dX9_readsNumber_6 : decode cX9_readsNumber 6 = .ok (.iastore, 1) := by decide +kernel
theorem dX9_readsNumber_7 : decode cX9_readsNumber 7 = .ok (.iconst 0, 1) := by decide +kernel
theorem dX9_readsNumber_8 : decode cX9_readsNumber 8 = .ok (.istore_n 3, 1) := by decide +kernel
theorem dX9_readsNumber_9 : decode cX9_readsNumber 9 = .ok (.iload_n 3, 1) := by decide +kernel
theorem dX9_readsNumber_10 : decode cX9_readsNumber 10 = .ok (.iload_n 2, 1) := by decide +kernel
theorem dX9_readsNumber_11 : decode cX9_readsNumber 11 = .ok (.if_icmp .ge 58, 3) := by decide +kernel
theorem dX9_readsNumber_14 : decode cX9_readsNumber 14 = .ok (.aload_n 0, 1) := by decide +kernel
theorem dX9_readsNumber_15 : decode cX9_readsNumber 15 = .ok (.invokevirtual 99, 3) := by decide +kernel
theorem dX9_readsNumber_18 : decode cX9_readsNumber 18 = .ok (.bipush 48, 2) := by decide +kernel
theorem dX9_readsNumber_20 : decode cX9_readsNumber 20 = .ok (.bipush 57, 2) := by decide +kernel
theorem dX9_readsNumber_22 : decode cX9_readsNumber 22 = .ok (.invokestatic 40, 3) := by decide +kernel
theorem dX9_readsNumber_25 : decode cX9_readsNumber 25 = .ok (.ifCond .ne 5, 3) := by decide +kernel
theorem dX9_readsNumber_28 : decode cX9_readsNumber 28 = .ok (.iconst 0, 1) := by decide +kernel
theorem dX9_readsNumber_29 : decode cX9_readsNumber 29 = .ok (.ireturn, 1) := by decide +kernel
theorem dX9_readsNumber_30 : decode cX9_readsNumber 30 = .ok (.aload_n 0, 1) := by decide +kernel
theorem dX9_readsNumber_31 : decode cX9_readsNumber 31 = .ok (.getfield 31, 3) := by decide +kernel
theorem dX9_readsNumber_34 : decode cX9_readsNumber 34 = .ok (.iload_n 1, 1) := by decide +kernel
theorem dX9_readsNumber_35 : decode cX9_readsNumber 35 = .ok (.bipush 10, 2) := by decide +kernel
theorem dX9_readsNumber_37 : decode cX9_readsNumber 37 = .ok (.aload_n 0, 1) := by decide +kernel
theorem dX9_readsNumber_38 : decode cX9_readsNumber 38 = .ok (.getfield 31, 3) := by decide +kernel
theorem dX9_readsNumber_41 : decode cX9_readsNumber 41 = .ok (.iload_n 1, 1) := by decide +kernel
theorem dX9_readsNumber_42 : decode cX9_readsNumber 42 = .ok (.iaload, 1) := by decide +kernel
theorem dX9_readsNumber_43 : decode cX9_readsNumber 43 = .ok (.imul, 1) := by decide +kernel
theorem dX9_readsNumber_44 : decode cX9_readsNumber 44 = .ok (.aload_n 0, 1) := by decide +kernel
theorem dX9_readsNumber_45 : decode cX9_readsNumber 45 = .ok (.invokevirtual 99, 3) := by decide +kernel
theorem dX9_readsNumber_48 : decode cX9_readsNumber 48 = .ok (.iadd, 1) := by decide +kernel
theorem dX9_readsNumber_49 : decode cX9_readsNumber 49 = .ok (.bipush 48, 2) := by decide +kernel
theorem dX9_readsNumber_51 : decode cX9_readsNumber 51 = .ok (.isub, 1) := by decide +kernel
theorem dX9_readsNumber_52 : decode cX9_readsNumber 52 = .ok (.iastore, 1) := by decide +kernel
theorem dX9_readsNumber_53 : decode cX9_readsNumber 53 = .ok (.aload_n 0, 1) := by decide +kernel
theorem dX9_readsNumber_54 : decode cX9_readsNumber 54 = .ok (.dup, 1) := by decide +kernel
theorem dX9_readsNumber_55 : decode cX9_readsNumber 55 = .ok (.getfield 96, 3) := by decide +kernel
theorem dX9_readsNumber_58 : decode cX9_readsNumber 58 = .ok (.iconst 1, 1) := by decide +kernel
theorem dX9_readsNumber_59 : decode cX9_readsNumber 59 = .ok (.iadd, 1) := by decide +kernel
theorem dX9_readsNumber_60 : decode cX9_readsNumber 60 = .ok (.putfield 96, 3) := by decide +kernel
theorem dX9_readsNumber_63 : decode cX9_readsNumber 63 = .ok (.iinc 3 1, 3) := by decide +kernel
theorem dX9_readsNumber_66 : decode cX9_readsNumber 66 = .ok (.goto (-57), 3) := by decide +kernel
theorem dX9_readsNumber_69 : decode cX9_readsNumber 69 = .ok (.iconst 1, 1) := by decide +kernel
theorem dX9_readsNumber_70 : decode cX9_readsNumber 70 = .ok (.ireturn, 1) := by decide +kernel
theorem dX9_kindBy_0 : decode cX9_kindBy 0 = .ok (.iload_n 0, 1) := by decide +kernel
theorem dX9_kindBy_1 : decode cX9_kindBy 1 = .ok (.lookupswitch 71 #[(98, 63), (102, 69), (104, 61), (109, 67), (116, 65), (119, 59)], 59) := by decide +kernel
theorem dX9_kindBy_60 : decode cX9_kindBy 60 = .ok (.iconst 0, 1) := by decide +kernel
theorem dX9_kindBy_61 : decode cX9_kindBy 61 = .ok (.ireturn, 1) := by decide +kernel
theorem dX9_kindBy_62 : decode cX9_kindBy 62 = .ok (.iconst 1, 1) := by decide +kernel
theorem dX9_kindBy_63 : decode cX9_kindBy 63 = .ok (.ireturn, 1) := by decide +kernel
theorem dX9_kindBy_64 : decode cX9_kindBy 64 = .ok (.iconst 2, 1) := by decide +kernel
theorem dX9_kindBy_65 : decode cX9_kindBy 65 = .ok (.ireturn, 1) := by decide +kernel
theorem dX9_kindBy_66 : decode cX9_kindBy 66 = .ok (.iconst 3, 1) := by decide +kernel
theorem dX9_kindBy_67 : decode cX9_kindBy 67 = .ok (.ireturn, 1) := by decide +kernel
theorem dX9_kindBy_68 : decode cX9_kindBy 68 = .ok (.iconst 4, 1) := by decide +kernel
theorem dX9_kindBy_69 : decode cX9_kindBy 69 = .ok (.ireturn, 1) := by decide +kernel
theorem dX9_kindBy_70 : decode cX9_kindBy 70 = .ok (.iconst 5, 1) := by decide +kernel
theorem dX9_kindBy_71 : decode cX9_kindBy 71 = .ok (.ireturn, 1) := by decide +kernel
theorem dX9_kindBy_72 : decode cX9_kindBy 72 = .ok (.bipush (-9), 2) := by decide +kernel
theorem dX9_kindBy_74 : decode cX9_kindBy 74 = .ok (.ireturn, 1) := by decide +kernel
theorem dX9_readsKind_0 : decode cX9_readsKind 0 = .ok (.aload_n 0, 1) := by decide +kernel
theorem dX9_readsKind_1 : decode cX9_readsKind 1 = .ok (.getfield 31, 3) := by decide +kernel
theorem dX9_readsKind_4 : decode cX9_readsKind 4 = .ok (.iconst 0, 1) := by decide +kernel
theorem dX9_readsKind_5 : decode cX9_readsKind 5 = .ok (.aload_n 0, 1) := by decide +kernel
theorem dX9_readsKind_6 : decode cX9_readsKind 6 = .ok (.invokevirtual 99, 3) := by decide +kernel
theorem dX9_readsKind_9 : decode cX9_readsKind 9 = .ok (.invokestatic 103, 3) := by decide +kernel
theorem dX9_readsKind_12 : decode cX9_readsKind 12 = .ok (.iastore, 1) := by decide +kernel
theorem dX9_readsKind_13 : decode cX9_readsKind 13 = .ok (.aload_n 0, 1) := by decide +kernel
theorem dX9_readsKind_14 : decode cX9_readsKind 14 = .ok (.dup, 1) := by decide +kernel
theorem dX9_readsKind_15 : decode cX9_readsKind 15 = .ok (.getfield 96, 3) := by decide +kernel
theorem dX9_readsKind_18 : decode cX9_readsKind 18 = .ok (.aload_n 0, 1) := by decide +kernel
theorem dX9_readsKind_19 : decode cX9_readsKind 19 = .ok (.getfield 31, 3) := by decide +kernel
theorem dX9_readsKind_22 : decode cX9_readsKind 22 = .ok (.iconst 0, 1) := by decide +kernel
theorem dX9_readsKind_23 : decode cX9_readsKind 23 = .ok (.iaload, 1) := by decide +kernel
theorem dX9_readsKind_24 : decode cX9_readsKind 24 = .ok (.ifCond .ge 7, 3) := by decide +kernel
theorem dX9_readsKind_27 : decode cX9_readsKind 27 = .ok (.iconst 0, 1) := by decide +kernel
theorem dX9_readsKind_28 : decode cX9_readsKind 28 = .ok (.goto 4, 3) := by decide +kernel
theorem dX9_readsKind_31 : decode cX9_readsKind 31 = .ok (.iconst 1, 1) := by decide +kernel
theorem dX9_readsKind_32 : decode cX9_readsKind 32 = .ok (.iadd, 1) := by decide +kernel
theorem dX9_readsKind_33 : decode cX9_readsKind 33 = .ok (.putfield 96, 3) := by decide +kernel
theorem dX9_readsKind_36 : decode cX9_readsKind 36 = .ok (.aload_n 0, 1) := by decide +kernel
theorem dX9_readsKind_37 : decode cX9_readsKind 37 = .ok (.getfield 31, 3) := by decide +kernel
theorem dX9_readsKind_40 : decode cX9_readsKind 40 = .ok (.iconst 0, 1) := by decide +kernel
theorem dX9_readsKind_41 : decode cX9_readsKind 41 = .ok (.iaload, 1) := by decide +kernel
theorem dX9_readsKind_42 : decode cX9_readsKind 42 = .ok (.ifCond .lt 7, 3) := by decide +kernel
theorem dX9_readsKind_45 : decode cX9_readsKind 45 = .ok (.iconst 1, 1) := by decide +kernel
theorem dX9_readsKind_46 : decode cX9_readsKind 46 = .ok (.goto 4, 3) := by decide +kernel
theorem dX9_readsKind_49 : decode cX9_readsKind 49 = .ok (.iconst 0, 1) := by decide +kernel
theorem dX9_readsKind_50 : decode cX9_readsKind 50 = .ok (.ireturn, 1) := by decide +kernel
theorem dX9_readsStatement_0 : decode cX9_readsStatement 0 = .ok (.aload_n 0, 1) := by decide +kernel
theorem dX9_readsStatement_1 : decode cX9_readsStatement 1 = .ok (.invokevirtual 99, 3) := by decide +kernel
theorem dX9_readsStatement_4 : decode cX9_readsStatement 4 = .ok (.istore_n 1, 1) := by decide +kernel
theorem dX9_readsStatement_5 : decode cX9_readsStatement 5 = .ok (.aload_n 0, 1) := by decide +kernel
theorem dX9_readsStatement_6 : decode cX9_readsStatement 6 = .ok (.dup, 1) := by decide +kernel
theorem dX9_readsStatement_7 : decode cX9_readsStatement 7 = .ok (.getfield 96, 3) := by decide +kernel
theorem dX9_readsStatement_10 : decode cX9_readsStatement 10 = .ok (.iconst 1, 1) := by decide +kernel
theorem dX9_readsStatement_11 : decode cX9_readsStatement 11 = .ok (.iadd, 1) := by decide +kernel
theorem dX9_readsStatement_12 : decode cX9_readsStatement 12 = .ok (.putfield 96, 3) := by decide +kernel
theorem dX9_readsStatement_15 : decode cX9_readsStatement 15 = .ok (.iload_n 1, 1) := by decide +kernel
theorem dX9_readsStatement_16 : decode cX9_readsStatement 16 = .ok (.lookupswitch 186 #[(100, 176), (111, 86), (116, 113), (119, 52), (120, 140)], 52) := by decide +kernel
theorem dX9_readsStatement_68 : decode cX9_readsStatement 68 = .ok (.aload_n 0, 1) := by decide +kernel
theorem dX9_readsStatement_69 : decode cX9_readsStatement 69 = .ok (.invokevirtual 106, 3) := by decide +kernel
theorem dX9_readsStatement_72 : decode cX9_readsStatement 72 = .ok (.ifCond .eq 25, 3) := by decide +kernel
theorem dX9_readsStatement_75 : decode cX9_readsStatement 75 = .ok (.aload_n 0, 1) := by decide +kernel
theorem dX9_readsStatement_76 : decode cX9_readsStatement 76 = .ok (.iconst 1, 1) := by decide +kernel
theorem dX9_readsStatement_77 : decode cX9_readsStatement 77 = .ok (.iconst 1, 1) := by decide +kernel
theorem dX9_readsStatement_78 : decode cX9_readsStatement 78 = .ok (.invokevirtual 110, 3) := by decide +kernel
theorem dX9_readsStatement_81 : decode cX9_readsStatement 81 = .ok (.ifCond .eq 16, 3) := by decide +kernel
theorem dX9_readsStatement_84 : decode cX9_readsStatement 84 = .ok (.aload_n 0, 1) := by decide +kernel
theorem dX9_readsStatement_85 : decode cX9_readsStatement 85 = .ok (.iconst 2, 1) := by decide +kernel
theorem dX9_readsStatement_86 : decode cX9_readsStatement 86 = .ok (.iconst 3, 1) := by decide +kernel
theorem dX9_readsStatement_87 : decode cX9_readsStatement 87 = .ok (.invokevirtual 110, 3) := by decide +kernel
theorem dX9_readsStatement_90 : decode cX9_readsStatement 90 = .ok (.ifCond .eq 7, 3) := by decide +kernel
theorem dX9_readsStatement_93 : decode cX9_readsStatement 93 = .ok (.iconst 1, 1) := by decide +kernel
theorem dX9_readsStatement_94 : decode cX9_readsStatement 94 = .ok (.goto 4, 3) := by decide +kernel
theorem dX9_readsStatement_97 : decode cX9_readsStatement 97 = .ok (.iconst 0, 1) := by decide +kernel
theorem dX9_readsStatement_98 : decode cX9_readsStatement 98 = .ok (.istore_n 2, 1) := by decide +kernel
theorem dX9_readsStatement_99 : decode cX9_readsStatement 99 = .ok (.goto 115, 3) := by decide +kernel
theorem dX9_readsStatement_102 : decode cX9_readsStatement 102 = .ok (.aload_n 0, 1) := by decide +kernel
theorem dX9_readsStatement_103 : decode cX9_readsStatement 103 = .ok (.iconst 0, 1) := by decide +kernel
theorem dX9_readsStatement_104 : decode cX9_readsStatement 104 = .ok (.iconst 1, 1) := by decide +kernel
theorem dX9_readsStatement_105 : decode cX9_readsStatement 105 = .ok (.invokevirtual 110, 3) := by decide +kernel
theorem dX9_readsStatement_108 : decode cX9_readsStatement 108 = .ok (.ifCond .eq 16, 3) := by decide +kernel
theorem dX9_readsStatement_111 : decode cX9_readsStatement 111 = .ok (.aload_n 0, 1) := by decide +kernel
theorem dX9_readsStatement_112 : decode cX9_readsStatement 112 = .ok (.iconst 1, 1) := by decide +kernel
theorem dX9_readsStatement_113 : decode cX9_readsStatement 113 = .ok (.iconst 1, 1) := by decide +kernel
theorem dX9_readsStatement_114 : decode cX9_readsStatement 114 = .ok (.invokevirtual 110, 3) := by decide +kernel
theorem dX9_readsStatement_117 : decode cX9_readsStatement 117 = .ok (.ifCond .eq 7, 3) := by decide +kernel
theorem dX9_readsStatement_120 : decode cX9_readsStatement 120 = .ok (.iconst 1, 1) := by decide +kernel
theorem dX9_readsStatement_121 : decode cX9_readsStatement 121 = .ok (.goto 4, 3) := by decide +kernel
theorem dX9_readsStatement_124 : decode cX9_readsStatement 124 = .ok (.iconst 0, 1) := by decide +kernel
theorem dX9_readsStatement_125 : decode cX9_readsStatement 125 = .ok (.istore_n 2, 1) := by decide +kernel
theorem dX9_readsStatement_126 : decode cX9_readsStatement 126 = .ok (.goto 88, 3) := by decide +kernel
theorem dX9_readsStatement_129 : decode cX9_readsStatement 129 = .ok (.aload_n 0, 1) := by decide +kernel
theorem dX9_readsStatement_130 : decode cX9_readsStatement 130 = .ok (.iconst 0, 1) := by decide +kernel
theorem dX9_readsStatement_131 : decode cX9_readsStatement 131 = .ok (.iconst 1, 1) := by decide +kernel
theorem dX9_readsStatement_132 : decode cX9_readsStatement 132 = .ok (.invokevirtual 110, 3) := by decide +kernel
theorem dX9_readsStatement_135 : decode cX9_readsStatement 135 = .ok (.ifCond .eq 16, 3) := by decide +kernel
theorem dX9_readsStatement_138 : decode cX9_readsStatement 138 = .ok (.aload_n 0, 1) := by decide +kernel
theorem dX9_readsStatement_139 : decode cX9_readsStatement 139 = .ok (.iconst 1, 1) := by decide +kernel
theorem dX9_readsStatement_140 : decode cX9_readsStatement 140 = .ok (.iconst 2, 1) := by decide +kernel
theorem dX9_readsStatement_141 : decode cX9_readsStatement 141 = .ok (.invokevirtual 110, 3) := by decide +kernel
theorem dX9_readsStatement_144 : decode cX9_readsStatement 144 = .ok (.ifCond .eq 7, 3) := by decide +kernel
theorem dX9_readsStatement_147 : decode cX9_readsStatement 147 = .ok (.iconst 1, 1) := by decide +kernel
theorem dX9_readsStatement_148 : decode cX9_readsStatement 148 = .ok (.goto 4, 3) := by decide +kernel
theorem dX9_readsStatement_151 : decode cX9_readsStatement 151 = .ok (.iconst 0, 1) := by decide +kernel
theorem dX9_readsStatement_152 : decode cX9_readsStatement 152 = .ok (.istore_n 2, 1) := by decide +kernel
theorem dX9_readsStatement_153 : decode cX9_readsStatement 153 = .ok (.goto 61, 3) := by decide +kernel
theorem dX9_readsStatement_156 : decode cX9_readsStatement 156 = .ok (.aload_n 0, 1) := by decide +kernel
theorem dX9_readsStatement_157 : decode cX9_readsStatement 157 = .ok (.iconst 0, 1) := by decide +kernel
theorem dX9_readsStatement_158 : decode cX9_readsStatement 158 = .ok (.iconst 1, 1) := by decide +kernel
theorem dX9_readsStatement_159 : decode cX9_readsStatement 159 = .ok (.invokevirtual 110, 3) := by decide +kernel
theorem dX9_readsStatement_162 : decode cX9_readsStatement 162 = .ok (.ifCond .eq 25, 3) := by decide +kernel
theorem dX9_readsStatement_165 : decode cX9_readsStatement 165 = .ok (.aload_n 0, 1) := by decide +kernel
theorem dX9_readsStatement_166 : decode cX9_readsStatement 166 = .ok (.iconst 1, 1) := by decide +kernel
theorem dX9_readsStatement_167 : decode cX9_readsStatement 167 = .ok (.iconst 1, 1) := by decide +kernel
theorem dX9_readsStatement_168 : decode cX9_readsStatement 168 = .ok (.invokevirtual 110, 3) := by decide +kernel
theorem dX9_readsStatement_171 : decode cX9_readsStatement 171 = .ok (.ifCond .eq 16, 3) := by decide +kernel
theorem dX9_readsStatement_174 : decode cX9_readsStatement 174 = .ok (.aload_n 0, 1) := by decide +kernel
theorem dX9_readsStatement_175 : decode cX9_readsStatement 175 = .ok (.iconst 2, 1) := by decide +kernel
theorem dX9_readsStatement_176 : decode cX9_readsStatement 176 = .ok (.iconst 1, 1) := by decide +kernel
theorem dX9_readsStatement_177 : decode cX9_readsStatement 177 = .ok (.invokevirtual 110, 3) := by decide +kernel
theorem dX9_readsStatement_180 : decode cX9_readsStatement 180 = .ok (.ifCond .eq 7, 3) := by decide +kernel
theorem dX9_readsStatement_183 : decode cX9_readsStatement 183 = .ok (.iconst 1, 1) := by decide +kernel
theorem dX9_readsStatement_184 : decode cX9_readsStatement 184 = .ok (.goto 4, 3) := by decide +kernel
theorem dX9_readsStatement_187 : decode cX9_readsStatement 187 = .ok (.iconst 0, 1) := by decide +kernel
theorem dX9_readsStatement_188 : decode cX9_readsStatement 188 = .ok (.istore_n 2, 1) := by decide +kernel
theorem dX9_readsStatement_189 : decode cX9_readsStatement 189 = .ok (.goto 25, 3) := by decide +kernel
theorem dX9_readsStatement_192 : decode cX9_readsStatement 192 = .ok (.aload_n 0, 1) := by decide +kernel
theorem dX9_readsStatement_193 : decode cX9_readsStatement 193 = .ok (.iconst 0, 1) := by decide +kernel
theorem dX9_readsStatement_194 : decode cX9_readsStatement 194 = .ok (.iconst 2, 1) := by decide +kernel
theorem dX9_readsStatement_195 : decode cX9_readsStatement 195 = .ok (.invokevirtual 110, 3) := by decide +kernel
theorem dX9_readsStatement_198 : decode cX9_readsStatement 198 = .ok (.istore_n 2, 1) := by decide +kernel
theorem dX9_readsStatement_199 : decode cX9_readsStatement 199 = .ok (.goto 15, 3) := by decide +kernel
theorem dX9_readsStatement_202 : decode cX9_readsStatement 202 = .ok (.aload_n 0, 1) := by decide +kernel
theorem dX9_readsStatement_203 : decode cX9_readsStatement 203 = .ok (.dup, 1) := by decide +kernel
theorem dX9_readsStatement_204 : decode cX9_readsStatement 204 = .ok (.getfield 96, 3) := by decide +kernel
theorem dX9_readsStatement_207 : decode cX9_readsStatement 207 = .ok (.iconst 1, 1) := by decide +kernel
theorem dX9_readsStatement_208 : decode cX9_readsStatement 208 = .ok (.isub, 1) := by decide +kernel
theorem dX9_readsStatement_209 : decode cX9_readsStatement 209 = .ok (.putfield 96, 3) := by decide +kernel
theorem dX9_readsStatement_212 : decode cX9_readsStatement 212 = .ok (.iconst 0, 1) := by decide +kernel
theorem dX9_readsStatement_213 : decode cX9_readsStatement 213 = .ok (.ireturn, 1) := by decide +kernel
theorem dX9_readsStatement_214 : decode cX9_readsStatement 214 = .ok (.iload_n 2, 1) := by decide +kernel
theorem dX9_readsStatement_215 : decode cX9_readsStatement 215 = .ok (.ifCond .eq 12, 3) := by decide +kernel
theorem dX9_readsStatement_218 : decode cX9_readsStatement 218 = .ok (.aload_n 0, 1) := by decide +kernel
theorem dX9_readsStatement_219 : decode cX9_readsStatement 219 = .ok (.invokevirtual 99, 3) := by decide +kernel
theorem dX9_readsStatement_222 : decode cX9_readsStatement 222 = .ok (.bipush 59, 2) := by decide +kernel
theorem dX9_readsStatement_224 : decode cX9_readsStatement 224 = .ok (.if_icmp .eq 5, 3) := by decide +kernel
theorem dX9_readsStatement_227 : decode cX9_readsStatement 227 = .ok (.iconst 0, 1) := by decide +kernel
theorem dX9_readsStatement_228 : decode cX9_readsStatement 228 = .ok (.ireturn, 1) := by decide +kernel
theorem dX9_readsStatement_229 : decode cX9_readsStatement 229 = .ok (.aload_n 0, 1) := by decide +kernel
theorem dX9_readsStatement_230 : decode cX9_readsStatement 230 = .ok (.dup, 1) := by decide +kernel
theorem dX9_readsStatement_231 : decode cX9_readsStatement 231 = .ok (.getfield 96, 3) := by decide +kernel
theorem dX9_readsStatement_234 : decode cX9_readsStatement 234 = .ok (.iconst 1, 1) := by decide +kernel
theorem dX9_readsStatement_235 : decode cX9_readsStatement 235 = .ok (.iadd, 1) := by decide +kernel
theorem dX9_readsStatement_236 : decode cX9_readsStatement 236 = .ok (.putfield 96, 3) := by decide +kernel
