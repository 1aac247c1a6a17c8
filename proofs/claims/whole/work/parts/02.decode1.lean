theorem dX0_init_0 : decode cX0_init 0 = .ok (.aload_n 0, 1) := by decide +kernel
theorem dX0_init_1 : decode cX0_init 1 = .ok (.invokespecial 3, 3) := by decide +kernel
theorem dX0_init_4 : decode cX0_init 4 = .ok (.return_, 1) := by decide +kernel
theorem dX0_dueAfter_0 : decode cX0_dueAfter 0 = .ok (.aload_n 0, 1) := by decide +kernel
theorem dX0_dueAfter_1 : decode cX0_dueAfter 1 = .ok (.iload_n 1, 1) := by decide +kernel
theorem dX0_dueAfter_2 : decode cX0_dueAfter 2 = .ok (.invokespecial 9, 3) := by decide +kernel
theorem dX0_dueAfter_5 : decode cX0_dueAfter 5 = .ok (.iconst 1, 1) := by decide +kernel
theorem dX0_dueAfter_6 : decode cX0_dueAfter 6 = .ok (.iadd, 1) := by decide +kernel
theorem dX0_dueAfter_7 : decode cX0_dueAfter 7 = .ok (.ireturn, 1) := by decide +kernel
theorem dX0_choosePayer_0 : decode cX0_choosePayer 0 = .ok (.iconst 1, 1) := by decide +kernel
theorem dX0_choosePayer_1 : decode cX0_choosePayer 1 = .ok (.istore_n 3, 1) := by decide +kernel
theorem dX0_choosePayer_2 : decode cX0_choosePayer 2 = .ok (.iload_n 3, 1) := by decide +kernel
theorem dX0_choosePayer_3 : decode cX0_choosePayer 3 = .ok (.aload_n 1, 1) := by decide +kernel
theorem dX0_choosePayer_4 : decode cX0_choosePayer 4 = .ok (.getfield 13, 3) := by decide +kernel
theorem dX0_choosePayer_7 : decode cX0_choosePayer 7 = .ok (.if_icmp .ge 37, 3) := by decide +kernel
theorem dX0_choosePayer_10 : decode cX0_choosePayer 10 = .ok (.iload_n 2, 1) := by decide +kernel
theorem dX0_choosePayer_11 : decode cX0_choosePayer 11 = .ok (.iload_n 3, 1) := by decide +kernel
theorem dX0_choosePayer_12 : decode cX0_choosePayer 12 = .ok (.isub, 1) := by decide +kernel
theorem dX0_choosePayer_13 : decode cX0_choosePayer 13 = .ok (.aload_n 1, 1) := by decide +kernel
theorem dX0_choosePayer_14 : decode cX0_choosePayer 14 = .ok (.getfield 13, 3) := by decide +kernel
theorem dX0_choosePayer_17 : decode cX0_choosePayer 17 = .ok (.iadd, 1) := by decide +kernel
theorem dX0_choosePayer_18 : decode cX0_choosePayer 18 = .ok (.aload_n 1, 1) := by decide +kernel
theorem dX0_choosePayer_19 : decode cX0_choosePayer 19 = .ok (.getfield 13, 3) := by decide +kernel
theorem dX0_choosePayer_22 : decode cX0_choosePayer 22 = .ok (.irem, 1) := by decide +kernel
theorem dX0_choosePayer_23 : decode cX0_choosePayer 23 = .ok (.istore 4, 2) := by decide +kernel
theorem dX0_choosePayer_25 : decode cX0_choosePayer 25 = .ok (.aload_n 1, 1) := by decide +kernel
theorem dX0_choosePayer_26 : decode cX0_choosePayer 26 = .ok (.iload 4, 2) := by decide +kernel
theorem dX0_choosePayer_28 : decode cX0_choosePayer 28 = .ok (.iload_n 2, 1) := by decide +kernel
theorem dX0_choosePayer_29 : decode cX0_choosePayer 29 = .ok (.invokevirtual 19, 3) := by decide +kernel
theorem dX0_choosePayer_32 : decode cX0_choosePayer 32 = .ok (.ifCond .eq 6, 3) := by decide +kernel
theorem dX0_choosePayer_35 : decode cX0_choosePayer 35 = .ok (.iload 4, 2) := by decide +kernel
theorem dX0_choosePayer_37 : decode cX0_choosePayer 37 = .ok (.ireturn, 1) := by decide +kernel
theorem dX0_choosePayer_38 : decode cX0_choosePayer 38 = .ok (.iinc 3 1, 3) := by decide +kernel
theorem dX0_choosePayer_41 : decode cX0_choosePayer 41 = .ok (.goto (-39), 3) := by decide +kernel
theorem dX0_choosePayer_44 : decode cX0_choosePayer 44 = .ok (.bipush (-9), 2) := by decide +kernel
theorem dX0_choosePayer_46 : decode cX0_choosePayer 46 = .ok (.ireturn, 1) := by decide +kernel
theorem dX1_init_0 : decode cX1_init 0 = .ok (.aload_n 0, 1) := by decide +kernel
theorem dX1_init_1 : decode cX1_init 1 = .ok (.invokespecial 3, 3) := by decide +kernel
theorem dX1_init_4 : decode cX1_init 4 = .ok (.aload_n 0, 1) := by decide +kernel
theorem dX1_init_5 : decode cX1_init 5 = .ok (.bipush 6, 2) := by decide +kernel
theorem dX1_init_7 : decode cX1_init 7 = .ok (.anewarray 9, 3) := by decide +kernel
theorem dX1_init_10 : decode cX1_init 10 = .ok (.dup, 1) := by decide +kernel
theorem dX1_init_11 : decode cX1_init 11 = .ok (.iconst 0, 1) := by decide +kernel
theorem dX1_init_12 : decode cX1_init 12 = .ok (.new 9, 3) := by decide +kernel
theorem dX1_init_15 : decode cX1_init 15 = .ok (.dup, 1) := by decide +kernel
theorem dX1_init_16 : decode cX1_init 16 = .ok (.invokespecial 11, 3) := by decide +kernel
theorem dX1_init_19 : decode cX1_init 19 = .ok (.aastore, 1) := by decide +kernel
theorem dX1_init_20 : decode cX1_init 20 = .ok (.dup, 1) := by decide +kernel
theorem dX1_init_21 : decode cX1_init 21 = .ok (.iconst 1, 1) := by decide +kernel
theorem dX1_init_22 : decode cX1_init 22 = .ok (.new 12, 3) := by decide +kernel
theorem dX1_init_25 : decode cX1_init 25 = .ok (.dup, 1) := by decide +kernel
theorem dX1_init_26 : decode cX1_init 26 = .ok (.invokespecial 14, 3) := by decide +kernel
theorem dX1_init_29 : decode cX1_init 29 = .ok (.aastore, 1) := by decide +kernel
theorem dX1_init_30 : decode cX1_init 30 = .ok (.dup, 1) := by decide +kernel
theorem dX1_init_31 : decode cX1_init 31 = .ok (.iconst 2, 1) := by decide +kernel
theorem dX1_init_32 : decode cX1_init 32 = .ok (.new 15, 3) := by decide +kernel
theorem dX1_init_35 : decode cX1_init 35 = .ok (.dup, 1) := by decide +kernel
theorem dX1_init_36 : decode cX1_init 36 = .ok (.invokespecial 17, 3) := by decide +kernel
theorem dX1_init_39 : decode cX1_init 39 = .ok (.aastore, 1) := by decide +kernel
theorem dX1_init_40 : decode cX1_init 40 = .ok (.dup, 1) := by decide +kernel
theorem dX1_init_41 : decode cX1_init 41 = .ok (.iconst 3, 1) := by decide +kernel
theorem dX1_init_42 : decode cX1_init 42 = .ok (.new 18, 3) := by decide +kernel
theorem dX1_init_45 : decode cX1_init 45 = .ok (.dup, 1) := by decide +kernel
theorem dX1_init_46 : decode cX1_init 46 = .ok (.invokespecial 20, 3) := by decide +kernel
theorem dX1_init_49 : decode cX1_init 49 = .ok (.aastore, 1) := by decide +kernel
theorem dX1_init_50 : decode cX1_init 50 = .ok (.dup, 1) := by decide +kernel
theorem dX1_init_51 : decode cX1_init 51 = .ok (.iconst 4, 1) := by decide +kernel
theorem dX1_init_52 : decode cX1_init 52 = .ok (.new 21, 3) := by decide +kernel
theorem dX1_init_55 : decode cX1_init 55 = .ok (.dup, 1) := by decide +kernel
theorem dX1_init_56 : decode cX1_init 56 = .ok (.invokespecial 23, 3) := by decide +kernel
theorem dX1_init_59 : decode cX1_init 59 = .ok (.aastore, 1) := by decide +kernel
theorem dX1_init_60 : decode cX1_init 60 = .ok (.dup, 1) := by decide +kernel
theorem dX1_init_61 : decode cX1_init 61 = .ok (.iconst 5, 1) := by decide +kernel
theorem dX1_init_62 : decode cX1_init 62 = .ok (.new 24, 3) := by decide +kernel
theorem dX1_init_65 : decode cX1_init 65 = .ok (.dup, 1) := by decide +kernel
theorem dX1_init_66 : decode cX1_init 66 = .ok (.invokespecial 26, 3) := by decide +kernel
theorem dX1_init_69 : decode cX1_init 69 = .ok (.aastore, 1) := by decide +kernel
theorem dX1_init_70 : decode cX1_init 70 = .ok (.putfield 27, 3) := by decide +kernel
theorem dX1_init_73 : decode cX1_init 73 = .ok (.aload_n 0, 1) := by decide +kernel
theorem dX1_init_74 : decode cX1_init 74 = .ok (.bipush 6, 2) := by decide +kernel
theorem dX1_init_76 : decode cX1_init 76 = .ok (.newarray .int, 2) := by decide +kernel
theorem dX1_init_78 : decode cX1_init 78 = .ok (.putfield 33, 3) := by decide +kernel
theorem dX1_init_81 : decode cX1_init 81 = .ok (.aload_n 0, 1) := by decide +kernel
theorem dX1_init_82 : decode cX1_init 82 = .ok (.bipush 6, 2) := by decide +kernel
theorem dX1_init_84 : decode cX1_init 84 = .ok (.newarray .int, 2) := by decide +kernel
theorem dX1_init_86 : decode cX1_init 86 = .ok (.putfield 37, 3) := by decide +kernel
theorem dX1_init_89 : decode cX1_init 89 = .ok (.aload_n 0, 1) := by decide +kernel
theorem dX1_init_90 : decode cX1_init 90 = .ok (.bipush 6, 2) := by decide +kernel
theorem dX1_init_92 : decode cX1_init 92 = .ok (.newarray .int, 2) := by decide +kernel
theorem dX1_init_94 : decode cX1_init 94 = .ok (.putfield 40, 3) := by decide +kernel
theorem dX1_init_97 : decode cX1_init 97 = .ok (.aload_n 0, 1) := by decide +kernel
theorem dX1_init_98 : decode cX1_init 98 = .ok (.bipush 6, 2) := by decide +kernel
theorem dX1_init_100 : decode cX1_init 100 = .ok (.newarray .int, 2) := by decide +kernel
theorem dX1_init_102 : decode cX1_init 102 = .ok (.putfield 43, 3) := by decide +kernel
theorem dX1_init_105 : decode cX1_init 105 = .ok (.aload_n 0, 1) := by decide +kernel
theorem dX1_init_106 : decode cX1_init 106 = .ok (.bipush 6, 2) := by decide +kernel
theorem dX1_init_108 : decode cX1_init 108 = .ok (.newarray .int, 2) := by decide +kernel
theorem dX1_init_110 : decode cX1_init 110 = .ok (.putfield 46, 3) := by decide +kernel
theorem dX1_init_113 : decode cX1_init 113 = .ok (.aload_n 0, 1) := by decide +kernel
theorem dX1_init_114 : decode cX1_init 114 = .ok (.iconst 0, 1) := by decide +kernel
theorem dX1_init_115 : decode cX1_init 115 = .ok (.putfield 49, 3) := by decide +kernel
theorem dX1_init_118 : decode cX1_init 118 = .ok (.aload_n 0, 1) := by decide +kernel
theorem dX1_init_119 : decode cX1_init 119 = .ok (.iconst 0, 1) := by decide +kernel
theorem dX1_init_120 : decode cX1_init 120 = .ok (.putfield 53, 3) := by decide +kernel
theorem dX1_init_123 : decode cX1_init 123 = .ok (.aload_n 0, 1) := by decide +kernel
theorem dX1_init_124 : decode cX1_init 124 = .ok (.iconst 0, 1) := by decide +kernel
theorem dX1_init_125 : decode cX1_init 125 = .ok (.putfield 56, 3) := by decide +kernel
theorem dX1_init_128 : decode cX1_init 128 = .ok (.return_, 1) := by decide +kernel
theorem dX1_become_0 : decode cX1_become 0 = .ok (.aload_n 1, 1) := by decide +kernel
theorem dX1_become_1 : decode cX1_become 1 = .ok (.getfield 33, 3) := by decide +kernel
theorem dX1_become_4 : decode cX1_become 4 = .ok (.iconst 0, 1) := by decide +kernel
theorem dX1_become_5 : decode cX1_become 5 = .ok (.aload_n 0, 1) := by decide +kernel
theorem dX1_become_6 : decode cX1_become 6 = .ok (.getfield 33, 3) := by decide +kernel
theorem dX1_become_9 : decode cX1_become 9 = .ok (.iconst 0, 1) := by decide +kernel
theorem dX1_become_10 : decode cX1_become 10 = .ok (.bipush 6, 2) := by decide +kernel
theorem dX1_become_12 : decode cX1_become 12 = .ok (.invokestatic 59, 3) := by decide +kernel
theorem dX1_become_15 : decode cX1_become 15 = .ok (.aload_n 1, 1) := by decide +kernel
theorem dX1_become_16 : decode cX1_become 16 = .ok (.getfield 37, 3) := by decide +kernel
theorem dX1_become_19 : decode cX1_become 19 = .ok (.iconst 0, 1) := by decide +kernel
theorem dX1_become_20 : decode cX1_become 20 = .ok (.aload_n 0, 1) := by decide +kernel
theorem dX1_become_21 : decode cX1_become 21 = .ok (.getfield 37, 3) := by decide +kernel
theorem dX1_become_24 : decode cX1_become 24 = .ok (.iconst 0, 1) := by decide +kernel
theorem dX1_become_25 : decode cX1_become 25 = .ok (.bipush 6, 2) := by decide +kernel
theorem dX1_become_27 : decode cX1_become 27 = .ok (.invokestatic 59, 3) := by decide +kernel
theorem dX1_become_30 : decode cX1_become 30 = .ok (.aload_n 1, 1) := by decide +kernel
theorem dX1_become_31 : decode cX1_become 31 = .ok (.getfield 40, 3) := by decide +kernel
theorem dX1_become_34 : decode cX1_become 34 = .ok (.iconst 0, 1) := by decide +kernel
theorem dX1_become_35 : decode cX1_become 35 = .ok (.aload_n 0, 1) := by decide +kernel
theorem dX1_become_36 : decode cX1_become 36 = .ok (.getfield 40, 3) := by decide +kernel
theorem dX1_become_39 : decode cX1_become 39 = .ok (.iconst 0, 1) := by decide +kernel
theorem dX1_become_40 : decode cX1_become 40 = .ok (.bipush 6, 2) := by decide +kernel
theorem dX1_become_42 : decode cX1_become 42 = .ok (.invokestatic 59, 3) := by decide +kernel
theorem dX1_become_45 : decode cX1_become 45 = .ok (.aload_n 1, 1) := by decide +kernel
theorem dX1_become_46 : decode cX1_become 46 = .ok (.getfield 43, 3) := by decide +kernel
theorem dX1_become_49 : decode cX1_become 49 = .ok (.iconst 0, 1) := by decide +kernel
theorem dX1_become_50 : decode cX1_become 50 = .ok (.aload_n 0, 1) := by decide +kernel
theorem dX1_become_51 : decode cX1_become 51 = .ok (.getfield 43, 3) := by decide +kernel
theorem dX1_become_54 : decode cX1_become 54 = .ok (.iconst 0, 1) := by decide +kernel
theorem dX1_become_55 : decode cX1_become 55 = .ok (.bipush 6, 2) := by decide +kernel
theorem dX1_become_57 : decode cX1_become 57 = .ok (.invokestatic 59, 3) := by decide +kernel
theorem dX1_become_60 : decode cX1_become 60 = .ok (.aload_n 1, 1) := by decide +kernel
theorem dX1_become_61 : decode cX1_become 61 = .ok (.getfield 46, 3) := by decide +kernel
theorem dX1_become_64 : decode cX1_become 64 = .ok (.iconst 0, 1) := by decide +kernel
theorem dX1_become_65 : decode cX1_become 65 = .ok (.aload_n 0, 1) := by decide +kernel
theorem dX1_become_66 : decode cX1_become 66 = .ok (.getfield 46, 3) := by decide +kernel
theorem dX1_become_69 : decode cX1_become 69 = .ok (.iconst 0, 1) := by decide +kernel
theorem dX1_become_70 : decode cX1_become 70 = .ok (.bipush 6, 2) := by decide +kernel
theorem dX1_become_72 : decode cX1_become 72 = .ok (.invokestatic 59, 3) := by decide +kernel
theorem dX1_become_75 : decode cX1_become 75 = .ok (.aload_n 0, 1) := by decide +kernel
theorem dX1_become_76 : decode cX1_become 76 = .ok (.aload_n 1, 1) := by decide +kernel
theorem dX1_become_77 : decode cX1_become 77 = .ok (.getfield 49, 3) := by decide +kernel
theorem dX1_become_80 : decode cX1_become 80 = .ok (.putfield 49, 3) := by decide +kernel
theorem dX1_become_83 : decode cX1_become 83 = .ok (.aload_n 0, 1) := by decide +kernel
theorem dX1_become_84 : decode cX1_become 84 = .ok (.aload_n 1, 1) := by decide +kernel
theorem dX1_become_85 : decode cX1_become 85 = .ok (.getfield 53, 3) := by decide +kernel
theorem dX1_become_88 : decode cX1_become 88 = .ok (.putfield 53, 3) := by decide +kernel
theorem dX1_become_91 : decode cX1_become 91 = .ok (.aload_n 0, 1) := by decide +kernel
theorem dX1_become_92 : decode cX1_become 92 = .ok (.aload_n 1, 1) := by decide +kernel
theorem dX1_become_93 : decode cX1_become 93 = .ok (.getfield 56, 3) := by decide +kernel
theorem dX1_become_96 : decode cX1_become 96 = .ok (.putfield 56, 3) := by decide +kernel
theorem dX1_become_99 : decode cX1_become 99 = .ok (.return_, 1) := by decide +kernel
theorem dX1_hasRoom_0 : decode cX1_hasRoom 0 = .ok (.aload_n 0, 1) := by decide +kernel
theorem dX1_hasRoom_1 : decode cX1_hasRoom 1 = .ok (.getfield 49, 3) := by decide +kernel
theorem dX1_hasRoom_4 : decode cX1_hasRoom 4 = .ok (.bipush 6, 2) := by decide +kernel
theorem dX1_hasRoom_6 : decode cX1_hasRoom 6 = .ok (.if_icmp .ge 7, 3) := by decide +kernel
theorem dX1_hasRoom_9 : decode cX1_hasRoom 9 = .ok (.iconst 1, 1) := by decide +kernel
theorem dX1_hasRoom_10 : decode cX1_hasRoom 10 = .ok (.goto 4, 3) := by decide +kernel
theorem dX1_hasRoom_13 : decode cX1_hasRoom 13 = .ok (.iconst 0, 1) := by decide +kernel
theorem dX1_hasRoom_14 : decode cX1_hasRoom 14 = .ok (.ireturn, 1) := by decide +kernel
theorem dX1_hire_0 : decode cX1_hire 0 = .ok (.aload_n 0, 1) := by decide +kernel
theorem dX1_hire_1 : decode cX1_hire 1 = .ok (.invokevirtual 65, 3) := by decide +kernel
theorem dX1_hire_4 : decode cX1_hire 4 = .ok (.ifCond .eq 63, 3) := by decide +kernel
theorem dX1_hire_7 : decode cX1_hire 7 = .ok (.aload_n 0, 1) := by decide +kernel
theorem dX1_hire_8 : decode cX1_hire 8 = .ok (.getfield 33, 3) := by decide +kernel
theorem dX1_hire_11 : decode cX1_hire 11 = .ok (.aload_n 0, 1) := by decide +kernel
theorem dX1_hire_12 : decode cX1_hire 12 = .ok (.getfield 49, 3) := by decide +kernel
theorem dX1_hire_15 : decode cX1_hire 15 = .ok (.iload_n 1, 1) := by decide +kernel
theorem dX1_hire_16 : decode cX1_hire 16 = .ok (.iastore, 1) := by decide +kernel
theorem dX1_hire_17 : decode cX1_hire 17 = .ok (.aload_n 0, 1) := by decide +kernel
theorem dX1_hire_18 : decode cX1_hire 18 = .ok (.getfield 37, 3) := by decide +kernel
theorem dX1_hire_21 : decode cX1_hire 21 = .ok (.aload_n 0, 1) := by decide +kernel
theorem dX1_hire_22 : decode cX1_hire 22 = .ok (.getfield 49, 3) := by decide +kernel
theorem dX1_hire_25 : decode cX1_hire 25 = .ok (.iload_n 2, 1) := by decide +kernel
theorem dX1_hire_26 : decode cX1_hire 26 = .ok (.iastore, 1) := by decide +kernel
theorem dX1_hire_27 : decode cX1_hire 27 = .ok (.aload_n 0, 1) := by decide +kernel
theorem dX1_hire_28 : decode cX1_hire 28 = .ok (.getfield 40, 3) := by decide +kernel
theorem dX1_hire_31 : decode cX1_hire 31 = .ok (.aload_n 0, 1) := by decide +kernel
theorem dX1_hire_32 : decode cX1_hire 32 = .ok (.getfield 49, 3) := by decide +kernel
theorem dX1_hire_35 : decode cX1_hire 35 = .ok (.iload_n 3, 1) := by decide +kernel
theorem dX1_hire_36 : decode cX1_hire 36 = .ok (.iastore, 1) := by decide +kernel
theorem dX1_hire_37 : decode cX1_hire 37 = .ok (.aload_n 0, 1) := by decide +kernel
theorem dX1_hire_38 : decode cX1_hire 38 = .ok (.getfield 43, 3) := by decide +kernel
theorem dX1_hire_41 : decode cX1_hire 41 = .ok (.aload_n 0, 1) := by decide +kernel
theorem dX1_hire_42 : decode cX1_hire 42 = .ok (.getfield 49, 3) := by decide +kernel
theorem dX1_hire_45 : decode cX1_hire 45 = .ok (.iconst 0, 1) := by decide +kernel
theorem dX1_hire_46 : decode cX1_hire 46 = .ok (.iastore, 1) := by decide +kernel
theorem dX1_hire_47 : decode cX1_hire 47 = .ok (.aload_n 0, 1) := by decide +kernel
theorem dX1_hire_48 : decode cX1_hire 48 = .ok (.getfield 46, 3) := by decide +kernel
theorem dX1_hire_51 : decode cX1_hire 51 = .ok (.aload_n 0, 1) := by decide +kernel
theorem dX1_hire_52 : decode cX1_hire 52 = .ok (.getfield 49, 3) := by decide +kernel
theorem dX1_hire_55 : decode cX1_hire 55 = .ok (.iconst 0, 1) := by decide +kernel
theorem dX1_hire_56 : decode cX1_hire 56 = .ok (.iastore, 1) := by decide +kernel
theorem dX1_hire_57 : decode cX1_hire 57 = .ok (.aload_n 0, 1) := by decide +kernel
theorem dX1_hire_58 : decode cX1_hire 58 = .ok (.dup, 1) := by decide +kernel
theorem dX1_hire_59 : decode cX1_hire 59 = .ok (.getfield 49, 3) := by decide +kernel
theorem dX1_hire_62 : decode cX1_hire 62 = .ok (.iconst 1, 1) := by decide +kernel
theorem dX1_hire_63 : decode cX1_hire 63 = .ok (.iadd, 1) := by decide +kernel
theorem dX1_hire_64 : decode cX1_hire 64 = .ok (.putfield 49, 3) := by decide +kernel
theorem dX1_hire_67 : decode cX1_hire 67 = .ok (.return_, 1) := by decide +kernel
theorem dX1_has_0 : decode cX1_has 0 = .ok (.iload_n 1, 1) := by decide +kernel
theorem dX1_has_1 : decode cX1_has 1 = .ok (.ifCond .lt 15, 3) := by decide +kernel
theorem dX1_has_4 : decode cX1_has 4 = .ok (.iload_n 1, 1) := by decide +kernel
theorem dX1_has_5 : decode cX1_has 5 = .ok (.aload_n 0, 1) := by decide +kernel
theorem dX1_has_6 : decode cX1_has 6 = .ok (.getfield 49, 3) := by decide +kernel
theorem dX1_has_9 : decode cX1_has 9 = .ok (.if_icmp .ge 7, 3) := by decide +kernel
theorem dX1_has_12 : decode cX1_has 12 = .ok (.iconst 1, 1) := by decide +kernel
theorem dX1_has_13 : decode cX1_has 13 = .ok (.goto 4, 3) := by decide +kernel
theorem dX1_has_16 : decode cX1_has 16 = .ok (.iconst 0, 1) := by decide +kernel
theorem dX1_has_17 : decode cX1_has 17 = .ok (.ireturn, 1) := by decide +kernel
theorem dX1_weekday_0 : decode cX1_weekday 0 = .ok (.aload_n 0, 1) := by decide +kernel
theorem dX1_weekday_1 : decode cX1_weekday 1 = .ok (.getfield 56, 3) := by decide +kernel
theorem dX1_weekday_4 : decode cX1_weekday 4 = .ok (.bipush 7, 2) := by decide +kernel
theorem dX1_weekday_6 : decode cX1_weekday 6 = .ok (.irem, 1) := by decide +kernel
theorem dX1_weekday_7 : decode cX1_weekday 7 = .ok (.ireturn, 1) := by decide +kernel
theorem dX1_isOff_0 : decode cX1_isOff 0 = .ok (.aload_n 0, 1) := by decide +kernel
theorem dX1_isOff_1 : decode cX1_isOff 1 = .ok (.getfield 40, 3) := by decide +kernel
theorem dX1_isOff_4 : decode cX1_isOff 4 = .ok (.iload_n 1, 1) := by decide +kernel
theorem dX1_isOff_5 : decode cX1_isOff 5 = .ok (.iaload, 1) := by decide +kernel
theorem dX1_isOff_6 : decode cX1_isOff 6 = .ok (.iload_n 2, 1) := by decide +kernel
theorem dX1_isOff_7 : decode cX1_isOff 7 = .ok (.invokestatic 69, 3) := by decide +kernel
theorem dX1_isOff_10 : decode cX1_isOff 10 = .ok (.ireturn, 1) := by decide +kernel
theorem dX1_change_0 : decode cX1_change 0 = .ok (.aload_n 0, 1) := by decide +kernel
theorem dX1_change_1 : decode cX1_change 1 = .ok (.getfield 40, 3) := by decide +kernel
theorem dX1_change_4 : decode cX1_change 4 = .ok (.iload_n 1, 1) := by decide +kernel
theorem dX1_change_5 : decode cX1_change 5 = .ok (.dup2, 1) := by decide +kernel
theorem dX1_change_6 : decode cX1_change 6 = .ok (.iaload, 1) := by decide +kernel
theorem dX1_change_7 : decode cX1_change 7 = .ok (.iconst 1, 1) := by decide +kernel
theorem dX1_change_8 : decode cX1_change 8 = .ok (.iload_n 2, 1) := by decide +kernel
theorem dX1_change_9 : decode cX1_change 9 = .ok (.ishl, 1) := by decide +kernel
theorem dX1_change_10 : decode cX1_change 10 = .ok (.ixor, 1) := by decide +kernel
theorem dX1_change_11 : decode cX1_change 11 = .ok (.iastore, 1) := by decide +kernel
theorem dX1_change_12 : decode cX1_change 12 = .ok (.return_, 1) := by decide +kernel
theorem dX1_canHand_0 : decode cX1_canHand 0 = .ok (.aload_n 0, 1) := by decide +kernel
theorem dX1_canHand_1 : decode cX1_canHand 1 = .ok (.iload_n 1, 1) := by decide +kernel
theorem dX1_canHand_2 : decode cX1_canHand 2 = .ok (.iload_n 3, 1) := by decide +kernel
theorem dX1_canHand_3 : decode cX1_canHand 3 = .ok (.invokevirtual 73, 3) := by decide +kernel
theorem dX1_canHand_6 : decode cX1_canHand 6 = .ok (.ifCond .eq 16, 3) := by decide +kernel
theorem dX1_canHand_9 : decode cX1_canHand 9 = .ok (.aload_n 0, 1) := by decide +kernel
theorem dX1_canHand_10 : decode cX1_canHand 10 = .ok (.iload_n 2, 1) := by decide +kernel
theorem dX1_canHand_11 : decode cX1_canHand 11 = .ok (.iload_n 3, 1) := by decide +kernel
theorem dX1_canHand_12 : decode cX1_canHand 12 = .ok (.invokevirtual 73, 3) := by decide +kernel
theorem dX1_canHand_15 : decode cX1_canHand 15 = .ok (.ifCond .ne 7, 3) := by decide +kernel
theorem dX1_canHand_18 : decode cX1_canHand 18 = .ok (.iconst 1, 1) := by decide +kernel
theorem dX1_canHand_19 : decode cX1_canHand 19 = .ok (.goto 4, 3) := by decide +kernel
theorem dX1_canHand_22 : decode cX1_canHand 22 = .ok (.iconst 0, 1) := by decide +kernel
theorem dX1_canHand_23 : decode cX1_canHand 23 = .ok (.ireturn, 1) := by decide +kernel
theorem dX1_hand_0 : decode cX1_hand 0 = .ok (.aload_n 0, 1) := by decide +kernel
theorem dX1_hand_1 : decode cX1_hand 1 = .ok (.iload_n 1, 1) := by decide +kernel
theorem dX1_hand_2 : decode cX1_hand 2 = .ok (.iload_n 3, 1) := by decide +kernel
theorem dX1_hand_3 : decode cX1_hand 3 = .ok (.invokevirtual 76, 3) := by decide +kernel
theorem dX1_hand_6 : decode cX1_hand 6 = .ok (.aload_n 0, 1) := by decide +kernel
theorem dX1_hand_7 : decode cX1_hand 7 = .ok (.iload_n 2, 1) := by decide +kernel
theorem dX1_hand_8 : decode cX1_hand 8 = .ok (.iload_n 3, 1) := by decide +kernel
theorem dX1_hand_9 : decode cX1_hand 9 = .ok (.invokevirtual 76, 3) := by decide +kernel
theorem dX1_hand_12 : decode cX1_hand 12 = .ok (.return_, 1) := by decide +kernel
theorem dX1_addOff_0 : decode cX1_addOff 0 = .ok (.iconst 0, 1) := by decide +kernel
theorem dX1_addOff_1 : decode cX1_addOff 1 = .ok (.istore_n 3, 1) := by decide +kernel
theorem dX1_addOff_2 : decode cX1_addOff 2 = .ok (.iload_n 3, 1) := by decide +kernel
theorem dX1_addOff_3 : decode cX1_addOff 3 = .ok (.aload_n 0, 1) := by decide +kernel
theorem dX1_addOff_4 : decode cX1_addOff 4 = .ok (.getfield 49, 3) := by decide +kernel
theorem dX1_addOff_7 : decode cX1_addOff 7 = .ok (.if_icmp .ge 27, 3) := by decide +kernel
theorem dX1_addOff_10 : decode cX1_addOff 10 = .ok (.iload_n 1, 1) := by decide +kernel
theorem dX1_addOff_11 : decode cX1_addOff 11 = .ok (.iload_n 3, 1) := by decide +kernel
theorem dX1_addOff_12 : decode cX1_addOff 12 = .ok (.invokestatic 69, 3) := by decide +kernel
theorem dX1_addOff_15 : decode cX1_addOff 15 = .ok (.ifCond .eq 13, 3) := by decide +kernel
theorem dX1_addOff_18 : decode cX1_addOff 18 = .ok (.aload_n 0, 1) := by decide +kernel
theorem dX1_addOff_19 : decode cX1_addOff 19 = .ok (.getfield 40, 3) := by decide +kernel
theorem dX1_addOff_22 : decode cX1_addOff 22 = .ok (.iload_n 3, 1) := by decide +kernel
theorem dX1_addOff_23 : decode cX1_addOff 23 = .ok (.dup2, 1) := by decide +kernel
theorem dX1_addOff_24 : decode cX1_addOff 24 = .ok (.iaload, 1) := by decide +kernel
theorem dX1_addOff_25 : decode cX1_addOff 25 = .ok (.iload_n 2, 1) := by decide +kernel
theorem dX1_addOff_26 : decode cX1_addOff 26 = .ok (.ior, 1) := by decide +kernel
theorem dX1_addOff_27 : decode cX1_addOff 27 = .ok (.iastore, 1) := by decide +kernel
theorem dX1_addOff_28 : decode cX1_addOff 28 = .ok (.iinc 3 1, 3) := by decide +kernel
theorem dX1_addOff_31 : decode cX1_addOff 31 = .ok (.goto (-29), 3) := by decide +kernel
theorem dX1_addOff_34 : decode cX1_addOff 34 = .ok (.return_, 1) := by decide +kernel
theorem dX1_passDays_0 : decode cX1_passDays 0 = .ok (.iconst 0, 1) := by decide +kernel
theorem dX1_passDays_1 : decode cX1_passDays 1 = .ok (.istore_n 3, 1) := by decide +kernel
theorem dX1_passDays_2 : decode cX1_passDays 2 = .ok (.iconst 0, 1) := by decide +kernel
theorem dX1_passDays_3 : decode cX1_passDays 3 = .ok (.istore 4, 2) := by decide +kernel
theorem dX1_passDays_5 : decode cX1_passDays 5 = .ok (.iload 4, 2) := by decide +kernel
theorem dX1_passDays_7 : decode cX1_passDays 7 = .ok (.iload_n 1, 1) := by decide +kernel
theorem dX1_passDays_8 : decode cX1_passDays 8 = .ok (.if_icmp .ge 102, 3) := by decide +kernel
theorem dX1_passDays_11 : decode cX1_passDays 11 = .ok (.aload_n 0, 1) := by decide +kernel
theorem dX1_passDays_12 : decode cX1_passDays 12 = .ok (.dup, 1) := by decide +kernel
theorem dX1_passDays_13 : decode cX1_passDays 13 = .ok (.getfield 56, 3) := by decide +kernel
theorem dX1_passDays_16 : decode cX1_passDays 16 = .ok (.iconst 1, 1) := by decide +kernel
theorem dX1_passDays_17 : decode cX1_passDays 17 = .ok (.iadd, 1) := by decide +kernel
theorem dX1_passDays_18 : decode cX1_passDays 18 = .ok (.putfield 56, 3) := by decide +kernel
theorem dX1_passDays_21 : decode cX1_passDays 21 = .ok (.iconst 0, 1) := by decide +kernel
theorem dX1_passDays_22 : decode cX1_passDays 22 = .ok (.istore 5, 2) := by decide +kernel
theorem dX1_passDays_24 : decode cX1_passDays 24 = .ok (.iload 5, 2) := by decide +kernel
theorem dX1_passDays_26 : decode cX1_passDays 26 = .ok (.aload_n 0, 1) := by decide +kernel
theorem dX1_passDays_27 : decode cX1_passDays 27 = .ok (.getfield 49, 3) := by decide +kernel
theorem dX1_passDays_30 : decode cX1_passDays 30 = .ok (.if_icmp .ge 74, 3) := by decide +kernel
theorem dX1_passDays_33 : decode cX1_passDays 33 = .ok (.aload_n 0, 1) := by decide +kernel
theorem dX1_passDays_34 : decode cX1_passDays 34 = .ok (.iload 5, 2) := by decide +kernel
theorem dX1_passDays_36 : decode cX1_passDays 36 = .ok (.aload_n 0, 1) := by decide +kernel
theorem dX1_passDays_37 : decode cX1_passDays 37 = .ok (.getfield 56, 3) := by decide +kernel
theorem dX1_passDays_40 : decode cX1_passDays 40 = .ok (.bipush 7, 2) := by decide +kernel
theorem dX1_passDays_42 : decode cX1_passDays 42 = .ok (.irem, 1) := by decide +kernel
theorem dX1_passDays_43 : decode cX1_passDays 43 = .ok (.invokevirtual 73, 3) := by decide +kernel
theorem dX1_passDays_46 : decode cX1_passDays 46 = .ok (.ifCond .eq 26, 3) := by decide +kernel
theorem dX1_passDays_49 : decode cX1_passDays 49 = .ok (.aload_n 0, 1) := by decide +kernel
theorem dX1_passDays_50 : decode cX1_passDays 50 = .ok (.getfield 43, 3) := by decide +kernel
theorem dX1_passDays_53 : decode cX1_passDays 53 = .ok (.iload 5, 2) := by decide +kernel
theorem dX1_passDays_55 : decode cX1_passDays 55 = .ok (.aload_n 0, 1) := by decide +kernel
theorem dX1_passDays_56 : decode cX1_passDays 56 = .ok (.getfield 43, 3) := by decide +kernel
theorem dX1_passDays_59 : decode cX1_passDays 59 = .ok (.iload 5, 2) := by decide +kernel
theorem dX1_passDays_61 : decode cX1_passDays 61 = .ok (.iaload, 1) := by decide +kernel
theorem dX1_passDays_62 : decode cX1_passDays 62 = .ok (.iconst 2, 1) := by decide +kernel
theorem dX1_passDays_63 : decode cX1_passDays 63 = .ok (.isub, 1) := by decide +kernel
theorem dX1_passDays_64 : decode cX1_passDays 64 = .ok (.iconst 0, 1) := by decide +kernel
theorem dX1_passDays_65 : decode cX1_passDays 65 = .ok (.invokestatic 80, 3) := by decide +kernel
theorem dX1_passDays_68 : decode cX1_passDays 68 = .ok (.iastore, 1) := by decide +kernel
theorem dX1_passDays_69 : decode cX1_passDays 69 = .ok (.goto 29, 3) := by decide +kernel
theorem dX1_passDays_72 : decode cX1_passDays 72 = .ok (.aload_n 0, 1) := by decide +kernel
theorem dX1_passDays_73 : decode cX1_passDays 73 = .ok (.iload 5, 2) := by decide +kernel
theorem dX1_passDays_75 : decode cX1_passDays 75 = .ok (.iload_n 2, 1) := by decide +kernel
theorem dX1_passDays_76 : decode cX1_passDays 76 = .ok (.iload 5, 2) := by decide +kernel
theorem dX1_passDays_78 : decode cX1_passDays 78 = .ok (.invokestatic 69, 3) := by decide +kernel
theorem dX1_passDays_81 : decode cX1_passDays 81 = .ok (.ifCond .ne 7, 3) := by decide +kernel
theorem dX1_passDays_84 : decode cX1_passDays 84 = .ok (.iconst 1, 1) := by decide +kernel
theorem dX1_passDays_85 : decode cX1_passDays 85 = .ok (.goto 4, 3) := by decide +kernel
theorem dX1_passDays_88 : decode cX1_passDays 88 = .ok (.iconst 0, 1) := by decide +kernel
theorem dX1_passDays_89 : decode cX1_passDays 89 = .ok (.invokevirtual 86, 3) := by decide +kernel
theorem dX1_passDays_92 : decode cX1_passDays 92 = .ok (.ifCond .eq 6, 3) := by decide +kernel
theorem dX1_passDays_95 : decode cX1_passDays 95 = .ok (.iinc 3 1, 3) := by decide +kernel
theorem dX1_passDays_98 : decode cX1_passDays 98 = .ok (.iinc 5 1, 3) := by decide +kernel
theorem dX1_passDays_101 : decode cX1_passDays 101 = .ok (.goto (-77), 3) := by decide +kernel
theorem dX1_passDays_104 : decode cX1_passDays 104 = .ok (.iinc 4 1, 3) := by decide +kernel
theorem dX1_passDays_107 : decode cX1_passDays 107 = .ok (.goto (-102), 3) := by decide +kernel
theorem dX1_passDays_110 : decode cX1_passDays 110 = .ok (.iload_n 3, 1) := by decide +kernel
theorem dX1_passDays_111 : decode cX1_passDays 111 = .ok (.ireturn, 1) := by decide +kernel
theorem dX1_isPaidAtWork_0 : decode cX1_isPaidAtWork 0 = .ok (.aload_n 0, 1) := by decide +kernel
theorem dX1_isPaidAtWork_1 : decode cX1_isPaidAtWork 1 = .ok (.getfield 43, 3) := by decide +kernel
theorem dX1_isPaidAtWork_4 : decode cX1_isPaidAtWork 4 = .ok (.iload_n 1, 1) := by decide +kernel
theorem dX1_isPaidAtWork_5 : decode cX1_isPaidAtWork 5 = .ok (.aload_n 0, 1) := by decide +kernel
theorem dX1_isPaidAtWork_6 : decode cX1_isPaidAtWork 6 = .ok (.getfield 43, 3) := by decide +kernel
theorem dX1_isPaidAtWork_9 : decode cX1_isPaidAtWork 9 = .ok (.iload_n 1, 1) := by decide +kernel
theorem dX1_isPaidAtWork_10 : decode cX1_isPaidAtWork 10 = .ok (.iaload, 1) := by decide +kernel
theorem dX1_isPaidAtWork_11 : decode cX1_isPaidAtWork 11 = .ok (.iconst 1, 1) := by decide +kernel
theorem dX1_isPaidAtWork_12 : decode cX1_isPaidAtWork 12 = .ok (.iadd, 1) := by decide +kernel
theorem dX1_isPaidAtWork_13 : decode cX1_isPaidAtWork 13 = .ok (.bipush 30, 2) := by decide +kernel
theorem dX1_isPaidAtWork_15 : decode cX1_isPaidAtWork 15 = .ok (.invokestatic 90, 3) := by decide +kernel
theorem dX1_isPaidAtWork_18 : decode cX1_isPaidAtWork 18 = .ok (.iastore, 1) := by decide +kernel
theorem dX1_isPaidAtWork_19 : decode cX1_isPaidAtWork 19 = .ok (.aload_n 0, 1) := by decide +kernel
theorem dX1_isPaidAtWork_20 : decode cX1_isPaidAtWork 20 = .ok (.getfield 46, 3) := by decide +kernel
theorem dX1_isPaidAtWork_23 : decode cX1_isPaidAtWork 23 = .ok (.iload_n 1, 1) := by decide +kernel
theorem dX1_isPaidAtWork_24 : decode cX1_isPaidAtWork 24 = .ok (.aload_n 0, 1) := by decide +kernel
theorem dX1_isPaidAtWork_25 : decode cX1_isPaidAtWork 25 = .ok (.getfield 46, 3) := by decide +kernel
theorem dX1_isPaidAtWork_28 : decode cX1_isPaidAtWork 28 = .ok (.iload_n 1, 1) := by decide +kernel
theorem dX1_isPaidAtWork_29 : decode cX1_isPaidAtWork 29 = .ok (.iaload, 1) := by decide +kernel
theorem dX1_isPaidAtWork_30 : decode cX1_isPaidAtWork 30 = .ok (.iconst 1, 1) := by decide +kernel
theorem dX1_isPaidAtWork_31 : decode cX1_isPaidAtWork 31 = .ok (.iadd, 1) := by decide +kernel
theorem dX1_isPaidAtWork_32 : decode cX1_isPaidAtWork 32 = .ok (.bipush 9, 2) := by decide +kernel
theorem dX1_isPaidAtWork_34 : decode cX1_isPaidAtWork 34 = .ok (.invokestatic 90, 3) := by decide +kernel
theorem dX1_isPaidAtWork_37 : decode cX1_isPaidAtWork 37 = .ok (.iastore, 1) := by decide +kernel
theorem dX1_isPaidAtWork_38 : decode cX1_isPaidAtWork 38 = .ok (.aload_n 0, 1) := by decide +kernel
theorem dX1_isPaidAtWork_39 : decode cX1_isPaidAtWork 39 = .ok (.iload_n 1, 1) := by decide +kernel
theorem dX1_isPaidAtWork_40 : decode cX1_isPaidAtWork 40 = .ok (.invokevirtual 93, 3) := by decide +kernel
theorem dX1_isPaidAtWork_43 : decode cX1_isPaidAtWork 43 = .ok (.astore_n 3, 1) := by decide +kernel
theorem dX1_isPaidAtWork_44 : decode cX1_isPaidAtWork 44 = .ok (.aload_n 3, 1) := by decide +kernel
theorem dX1_isPaidAtWork_45 : decode cX1_isPaidAtWork 45 = .ok (.aload_n 0, 1) := by decide +kernel
theorem dX1_isPaidAtWork_46 : decode cX1_isPaidAtWork 46 = .ok (.getfield 37, 3) := by decide +kernel
theorem dX1_isPaidAtWork_49 : decode cX1_isPaidAtWork 49 = .ok (.iload_n 1, 1) := by decide +kernel
theorem dX1_isPaidAtWork_50 : decode cX1_isPaidAtWork 50 = .ok (.iaload, 1) := by decide +kernel
theorem dX1_isPaidAtWork_51 : decode cX1_isPaidAtWork 51 = .ok (.invokevirtual 97, 3) := by decide +kernel
theorem dX1_isPaidAtWork_54 : decode cX1_isPaidAtWork 54 = .ok (.istore 4, 2) := by decide +kernel
theorem dX1_isPaidAtWork_56 : decode cX1_isPaidAtWork 56 = .ok (.iload_n 2, 1) := by decide +kernel
theorem dX1_isPaidAtWork_57 : decode cX1_isPaidAtWork 57 = .ok (.ifCond .eq 19, 3) := by decide +kernel
theorem dX1_isPaidAtWork_60 : decode cX1_isPaidAtWork 60 = .ok (.iload 4, 2) := by decide +kernel
theorem dX1_isPaidAtWork_62 : decode cX1_isPaidAtWork 62 = .ok (.ifCond .eq 14, 3) := by decide +kernel
theorem dX1_isPaidAtWork_65 : decode cX1_isPaidAtWork 65 = .ok (.aload_n 0, 1) := by decide +kernel
theorem dX1_isPaidAtWork_66 : decode cX1_isPaidAtWork 66 = .ok (.getfield 46, 3) := by decide +kernel
theorem dX1_isPaidAtWork_69 : decode cX1_isPaidAtWork 69 = .ok (.iload_n 1, 1) := by decide +kernel
theorem dX1_isPaidAtWork_70 : decode cX1_isPaidAtWork 70 = .ok (.iaload, 1) := by decide +kernel
theorem dX1_isPaidAtWork_71 : decode cX1_isPaidAtWork 71 = .ok (.iload 4, 2) := by decide +kernel
theorem dX1_isPaidAtWork_73 : decode cX1_isPaidAtWork 73 = .ok (.if_icmp .ge 5, 3) := by decide +kernel
theorem dX1_isPaidAtWork_76 : decode cX1_isPaidAtWork 76 = .ok (.iconst 0, 1) := by decide +kernel
theorem dX1_isPaidAtWork_77 : decode cX1_isPaidAtWork 77 = .ok (.ireturn, 1) := by decide +kernel
theorem dX1_isPaidAtWork_78 : decode cX1_isPaidAtWork 78 = .ok (.aload_n 3, 1) := by decide +kernel
theorem dX1_isPaidAtWork_79 : decode cX1_isPaidAtWork 79 = .ok (.aload_n 0, 1) := by decide +kernel
theorem dX1_isPaidAtWork_80 : decode cX1_isPaidAtWork 80 = .ok (.iload_n 1, 1) := by decide +kernel
theorem dX1_isPaidAtWork_81 : decode cX1_isPaidAtWork 81 = .ok (.invokevirtual 101, 3) := by decide +kernel
theorem dX1_isPaidAtWork_84 : decode cX1_isPaidAtWork 84 = .ok (.istore 5, 2) := by decide +kernel
theorem dX1_isPaidAtWork_86 : decode cX1_isPaidAtWork 86 = .ok (.iload 5, 2) := by decide +kernel
theorem dX1_isPaidAtWork_88 : decode cX1_isPaidAtWork 88 = .ok (.bipush (-9), 2) := by decide +kernel
theorem dX1_isPaidAtWork_90 : decode cX1_isPaidAtWork 90 = .ok (.if_icmp .ne 5, 3) := by decide +kernel
theorem dX1_isPaidAtWork_93 : decode cX1_isPaidAtWork 93 = .ok (.iconst 0, 1) := by decide +kernel
theorem dX1_isPaidAtWork_94 : decode cX1_isPaidAtWork 94 = .ok (.ireturn, 1) := by decide +kernel
theorem dX1_isPaidAtWork_95 : decode cX1_isPaidAtWork 95 = .ok (.aload_n 0, 1) := by decide +kernel
theorem dX1_isPaidAtWork_96 : decode cX1_isPaidAtWork 96 = .ok (.iload 5, 2) := by decide +kernel
theorem dX1_isPaidAtWork_98 : decode cX1_isPaidAtWork 98 = .ok (.iload_n 1, 1) := by decide +kernel
theorem dX1_isPaidAtWork_99 : decode cX1_isPaidAtWork 99 = .ok (.aload_n 3, 1) := by decide +kernel
theorem dX1_isPaidAtWork_100 : decode cX1_isPaidAtWork 100 = .ok (.aload_n 0, 1) := by decide +kernel
theorem dX1_isPaidAtWork_101 : decode cX1_isPaidAtWork 101 = .ok (.iload 5, 2) := by decide +kernel
theorem dX1_isPaidAtWork_103 : decode cX1_isPaidAtWork 103 = .ok (.iload_n 1, 1) := by decide +kernel
theorem dX1_isPaidAtWork_104 : decode cX1_isPaidAtWork 104 = .ok (.invokevirtual 105, 3) := by decide +kernel
theorem dX1_isPaidAtWork_107 : decode cX1_isPaidAtWork 107 = .ok (.invokevirtual 108, 3) := by decide +kernel
theorem dX1_isPaidAtWork_110 : decode cX1_isPaidAtWork 110 = .ok (.invokevirtual 111, 3) := by decide +kernel
theorem dX1_isPaidAtWork_113 : decode cX1_isPaidAtWork 113 = .ok (.aload_n 0, 1) := by decide +kernel
theorem dX1_isPaidAtWork_114 : decode cX1_isPaidAtWork 114 = .ok (.aload_n 0, 1) := by decide +kernel
theorem dX1_isPaidAtWork_115 : decode cX1_isPaidAtWork 115 = .ok (.getfield 53, 3) := by decide +kernel
theorem dX1_isPaidAtWork_118 : decode cX1_isPaidAtWork 118 = .ok (.iconst 1, 1) := by decide +kernel
theorem dX1_isPaidAtWork_119 : decode cX1_isPaidAtWork 119 = .ok (.iadd, 1) := by decide +kernel
theorem dX1_isPaidAtWork_120 : decode cX1_isPaidAtWork 120 = .ok (.sipush 9999, 3) := by decide +kernel
theorem dX1_isPaidAtWork_123 : decode cX1_isPaidAtWork 123 = .ok (.invokestatic 90, 3) := by decide +kernel
theorem dX1_isPaidAtWork_126 : decode cX1_isPaidAtWork 126 = .ok (.putfield 53, 3) := by decide +kernel
theorem dX1_isPaidAtWork_129 : decode cX1_isPaidAtWork 129 = .ok (.aload_n 0, 1) := by decide +kernel
theorem dX1_isPaidAtWork_130 : decode cX1_isPaidAtWork 130 = .ok (.getfield 46, 3) := by decide +kernel
theorem dX1_isPaidAtWork_133 : decode cX1_isPaidAtWork 133 = .ok (.iload_n 1, 1) := by decide +kernel
theorem dX1_isPaidAtWork_134 : decode cX1_isPaidAtWork 134 = .ok (.iconst 0, 1) := by decide +kernel
theorem dX1_isPaidAtWork_135 : decode cX1_isPaidAtWork 135 = .ok (.iastore, 1) := by decide +kernel
theorem dX1_isPaidAtWork_136 : decode cX1_isPaidAtWork 136 = .ok (.iconst 1, 1) := by decide +kernel
theorem dX1_isPaidAtWork_137 : decode cX1_isPaidAtWork 137 = .ok (.ireturn, 1) := by decide +kernel
theorem dX1_ruleOf_0 : decode cX1_ruleOf 0 = .ok (.aload_n 0, 1) := by decide +kernel
theorem dX1_ruleOf_1 : decode cX1_ruleOf 1 = .ok (.getfield 27, 3) := by decide +kernel
theorem dX1_ruleOf_4 : decode cX1_ruleOf 4 = .ok (.aload_n 0, 1) := by decide +kernel
theorem dX1_ruleOf_5 : decode cX1_ruleOf 5 = .ok (.getfield 33, 3) := by decide +kernel
theorem dX1_ruleOf_8 : decode cX1_ruleOf 8 = .ok (.iload_n 1, 1) := by decide +kernel
theorem dX1_ruleOf_9 : decode cX1_ruleOf 9 = .ok (.iaload, 1) := by decide +kernel
theorem dX1_ruleOf_10 : decode cX1_ruleOf 10 = .ok (.aaload, 1) := by decide +kernel
theorem dX1_ruleOf_11 : decode cX1_ruleOf 11 = .ok (.areturn, 1) := by decide +kernel
theorem dX1_offered_0 : decode cX1_offered 0 = .ok (.aload_n 0, 1) := by decide +kernel
theorem dX1_offered_1 : decode cX1_offered 1 = .ok (.getfield 40, 3) := by decide +kernel
theorem dX1_offered_4 : decode cX1_offered 4 = .ok (.iload_n 1, 1) := by decide +kernel
theorem dX1_offered_5 : decode cX1_offered 5 = .ok (.iaload, 1) := by decide +kernel
theorem dX1_offered_6 : decode cX1_offered 6 = .ok (.aload_n 0, 1) := by decide +kernel
theorem dX1_offered_7 : decode cX1_offered 7 = .ok (.getfield 40, 3) := by decide +kernel
theorem dX1_offered_10 : decode cX1_offered 10 = .ok (.iload_n 2, 1) := by decide +kernel
theorem dX1_offered_11 : decode cX1_offered 11 = .ok (.iaload, 1) := by decide +kernel
theorem dX1_offered_12 : decode cX1_offered 12 = .ok (.iconst (-1), 1) := by decide +kernel
theorem dX1_offered_13 : decode cX1_offered 13 = .ok (.ixor, 1) := by decide +kernel
theorem dX1_offered_14 : decode cX1_offered 14 = .ok (.iand, 1) := by decide +kernel
theorem dX1_offered_15 : decode cX1_offered 15 = .ok (.ireturn, 1) := by decide +kernel
theorem dX1_whoIsIn_0 : decode cX1_whoIsIn 0 = .ok (.iconst 0, 1) := by decide +kernel
theorem dX1_whoIsIn_1 : decode cX1_whoIsIn 1 = .ok (.istore_n 2, 1) := by decide +kernel
theorem dX1_whoIsIn_2 : decode cX1_whoIsIn 2 = .ok (.iconst 0, 1) := by decide +kernel
theorem dX1_whoIsIn_3 : decode cX1_whoIsIn 3 = .ok (.istore_n 3, 1) := by decide +kernel
theorem dX1_whoIsIn_4 : decode cX1_whoIsIn 4 = .ok (.iload_n 3, 1) := by decide +kernel
theorem dX1_whoIsIn_5 : decode cX1_whoIsIn 5 = .ok (.aload_n 0, 1) := by decide +kernel
theorem dX1_whoIsIn_6 : decode cX1_whoIsIn 6 = .ok (.getfield 49, 3) := by decide +kernel
theorem dX1_whoIsIn_9 : decode cX1_whoIsIn 9 = .ok (.if_icmp .ge 24, 3) := by decide +kernel
theorem dX1_whoIsIn_12 : decode cX1_whoIsIn 12 = .ok (.aload_n 0, 1) := by decide +kernel
theorem dX1_whoIsIn_13 : decode cX1_whoIsIn 13 = .ok (.iload_n 3, 1) := by decide +kernel
theorem dX1_whoIsIn_14 : decode cX1_whoIsIn 14 = .ok (.iload_n 1, 1) := by decide +kernel
theorem dX1_whoIsIn_15 : decode cX1_whoIsIn 15 = .ok (.invokevirtual 73, 3) := by decide +kernel
theorem dX1_whoIsIn_18 : decode cX1_whoIsIn 18 = .ok (.ifCond .ne 9, 3) := by decide +kernel
theorem dX1_whoIsIn_21 : decode cX1_whoIsIn 21 = .ok (.iload_n 2, 1) := by decide +kernel
theorem dX1_whoIsIn_22 : decode cX1_whoIsIn 22 = .ok (.iconst 1, 1) := by decide +kernel
theorem dX1_whoIsIn_23 : decode cX1_whoIsIn 23 = .ok (.iload_n 3, 1) := by decide +kernel
theorem dX1_whoIsIn_24 : decode cX1_whoIsIn 24 = .ok (.ishl, 1) := by decide +kernel
theorem dX1_whoIsIn_25 : decode cX1_whoIsIn 25 = .ok (.ior, 1) := by decide +kernel
theorem dX1_whoIsIn_26 : decode cX1_whoIsIn 26 = .ok (.istore_n 2, 1) := by decide +kernel
theorem dX1_whoIsIn_27 : decode cX1_whoIsIn 27 = .ok (.iinc 3 1, 3) := by decide +kernel
theorem dX1_whoIsIn_30 : decode cX1_whoIsIn 30 = .ok (.goto (-26), 3) := by decide +kernel
theorem dX1_whoIsIn_33 : decode cX1_whoIsIn 33 = .ok (.iload_n 2, 1) := by decide +kernel
theorem dX1_whoIsIn_34 : decode cX1_whoIsIn 34 = .ok (.ireturn, 1) := by decide +kernel
theorem dX1_whoFell_0 : decode cX1_whoFell 0 = .ok (.iconst 0, 1) := by decide +kernel
theorem dX1_whoFell_1 : decode cX1_whoFell 1 = .ok (.istore_n 1, 1) := by decide +kernel
theorem dX1_whoFell_2 : decode cX1_whoFell 2 = .ok (.iconst 0, 1) := by decide +kernel
theorem dX1_whoFell_3 : decode cX1_whoFell 3 = .ok (.istore_n 2, 1) := by decide +kernel
theorem dX1_whoFell_4 : decode cX1_whoFell 4 = .ok (.iload_n 2, 1) := by decide +kernel
theorem dX1_whoFell_5 : decode cX1_whoFell 5 = .ok (.aload_n 0, 1) := by decide +kernel
theorem dX1_whoFell_6 : decode cX1_whoFell 6 = .ok (.getfield 49, 3) := by decide +kernel
theorem dX1_whoFell_9 : decode cX1_whoFell 9 = .ok (.if_icmp .ge 26, 3) := by decide +kernel
theorem dX1_whoFell_12 : decode cX1_whoFell 12 = .ok (.aload_n 0, 1) := by decide +kernel
theorem dX1_whoFell_13 : decode cX1_whoFell 13 = .ok (.getfield 43, 3) := by decide +kernel
theorem dX1_whoFell_16 : decode cX1_whoFell 16 = .ok (.iload_n 2, 1) := by decide +kernel
theorem dX1_whoFell_17 : decode cX1_whoFell 17 = .ok (.iaload, 1) := by decide +kernel
theorem dX1_whoFell_18 : decode cX1_whoFell 18 = .ok (.bipush 20, 2) := by decide +kernel
theorem dX1_whoFell_20 : decode cX1_whoFell 20 = .ok (.if_icmp .lt 9, 3) := by decide +kernel
theorem dX1_whoFell_23 : decode cX1_whoFell 23 = .ok (.iload_n 1, 1) := by decide +kernel
theorem dX1_whoFell_24 : decode cX1_whoFell 24 = .ok (.iconst 1, 1) := by decide +kernel
theorem dX1_whoFell_25 : decode cX1_whoFell 25 = .ok (.iload_n 2, 1) := by decide +kernel
theorem dX1_whoFell_26 : decode cX1_whoFell 26 = .ok (.ishl, 1) := by decide +kernel
theorem dX1_whoFell_27 : decode cX1_whoFell 27 = .ok (.ior, 1) := by decide +kernel
theorem dX1_whoFell_28 : decode cX1_whoFell 28 = .ok (.istore_n 1, 1) := by decide +kernel
theorem dX1_whoFell_29 : decode cX1_whoFell 29 = .ok (.iinc 2 1, 3) := by decide +kernel
theorem dX1_whoFell_32 : decode cX1_whoFell 32 = .ok (.goto (-28), 3) := by decide +kernel
theorem dX1_whoFell_35 : decode cX1_whoFell 35 = .ok (.iload_n 1, 1) := by decide +kernel
theorem dX1_whoFell_36 : decode cX1_whoFell 36 = .ok (.ireturn, 1) := by decide +kernel
theorem dX1_offOn_0 : decode cX1_offOn 0 = .ok (.aload_n 0, 1) := by decide +kernel
theorem dX1_offOn_1 : decode cX1_offOn 1 = .ok (.getfield 49, 3) := by decide +kernel
theorem dX1_offOn_4 : decode cX1_offOn 4 = .ok (.aload_n 0, 1) := by decide +kernel
theorem dX1_offOn_5 : decode cX1_offOn 5 = .ok (.iload_n 1, 1) := by decide +kernel
theorem dX1_offOn_6 : decode cX1_offOn 6 = .ok (.invokevirtual 115, 3) := by decide +kernel
theorem dX1_offOn_9 : decode cX1_offOn 9 = .ok (.invokestatic 118, 3) := by decide +kernel
theorem dX1_offOn_12 : decode cX1_offOn 12 = .ok (.isub, 1) := by decide +kernel
theorem dX1_offOn_13 : decode cX1_offOn 13 = .ok (.ireturn, 1) := by decide +kernel
theorem dX1_strikeDay_0 : decode cX1_strikeDay 0 = .ok (.iconst 0, 1) := by decide +kernel
theorem dX1_strikeDay_1 : decode cX1_strikeDay 1 = .ok (.istore_n 1, 1) := by decide +kernel
theorem dX1_strikeDay_2 : decode cX1_strikeDay 2 = .ok (.iconst 1, 1) := by decide +kernel
theorem dX1_strikeDay_3 : decode cX1_strikeDay 3 = .ok (.istore_n 2, 1) := by decide +kernel
theorem dX1_strikeDay_4 : decode cX1_strikeDay 4 = .ok (.iload_n 2, 1) := by decide +kernel
theorem dX1_strikeDay_5 : decode cX1_strikeDay 5 = .ok (.bipush 7, 2) := by decide +kernel
theorem dX1_strikeDay_7 : decode cX1_strikeDay 7 = .ok (.if_icmp .ge 24, 3) := by decide +kernel
theorem dX1_strikeDay_10 : decode cX1_strikeDay 10 = .ok (.aload_n 0, 1) := by decide +kernel
theorem dX1_strikeDay_11 : decode cX1_strikeDay 11 = .ok (.iload_n 2, 1) := by decide +kernel
theorem dX1_strikeDay_12 : decode cX1_strikeDay 12 = .ok (.invokevirtual 123, 3) := by decide +kernel
theorem dX1_strikeDay_15 : decode cX1_strikeDay 15 = .ok (.aload_n 0, 1) := by decide +kernel
theorem dX1_strikeDay_16 : decode cX1_strikeDay 16 = .ok (.iload_n 1, 1) := by decide +kernel
theorem dX1_strikeDay_17 : decode cX1_strikeDay 17 = .ok (.invokevirtual 123, 3) := by decide +kernel
theorem dX1_strikeDay_20 : decode cX1_strikeDay 20 = .ok (.if_icmp .le 5, 3) := by decide +kernel
theorem dX1_strikeDay_23 : decode cX1_strikeDay 23 = .ok (.iload_n 2, 1) := by decide +kernel
theorem dX1_strikeDay_24 : decode cX1_strikeDay 24 = .ok (.istore_n 1, 1) := by decide +kernel
theorem dX1_strikeDay_25 : decode cX1_strikeDay 25 = .ok (.iinc 2 1, 3) := by decide +kernel
theorem dX1_strikeDay_28 : decode cX1_strikeDay 28 = .ok (.goto (-24), 3) := by decide +kernel
theorem dX1_strikeDay_31 : decode cX1_strikeDay 31 = .ok (.iload_n 1, 1) := by decide +kernel
theorem dX1_strikeDay_32 : decode cX1_strikeDay 32 = .ok (.ireturn, 1) := by decide +kernel
theorem dX1_coveredByNobody_0 : decode cX1_coveredByNobody 0 = .ok (.bipush 127, 2) := by decide +kernel
theorem dX1_coveredByNobody_2 : decode cX1_coveredByNobody 2 = .ok (.istore_n 1, 1) := by decide +kernel
theorem dX1_coveredByNobody_3 : decode cX1_coveredByNobody 3 = .ok (.iconst 0, 1) := by decide +kernel
theorem dX1_coveredByNobody_4 : decode cX1_coveredByNobody 4 = .ok (.istore_n 2, 1) := by decide +kernel
theorem dX1_coveredByNobody_5 : decode cX1_coveredByNobody 5 = .ok (.iload_n 2, 1) := by decide +kernel
theorem dX1_coveredByNobody_6 : decode cX1_coveredByNobody 6 = .ok (.aload_n 0, 1) := by decide +kernel
theorem dX1_coveredByNobody_7 : decode cX1_coveredByNobody 7 = .ok (.getfield 49, 3) := by decide +kernel
theorem dX1_coveredByNobody_10 : decode cX1_coveredByNobody 10 = .ok (.if_icmp .ge 18, 3) := by decide +kernel
theorem dX1_coveredByNobody_13 : decode cX1_coveredByNobody 13 = .ok (.iload_n 1, 1) := by decide +kernel
theorem dX1_coveredByNobody_14 : decode cX1_coveredByNobody 14 = .ok (.aload_n 0, 1) := by decide +kernel
theorem dX1_coveredByNobody_15 : decode cX1_coveredByNobody 15 = .ok (.getfield 40, 3) := by decide +kernel
theorem dX1_coveredByNobody_18 : decode cX1_coveredByNobody 18 = .ok (.iload_n 2, 1) := by decide +kernel
theorem dX1_coveredByNobody_19 : decode cX1_coveredByNobody 19 = .ok (.iaload, 1) := by decide +kernel
theorem dX1_coveredByNobody_20 : decode cX1_coveredByNobody 20 = .ok (.iand, 1) := by decide +kernel
theorem dX1_coveredByNobody_21 : decode cX1_coveredByNobody 21 = .ok (.istore_n 1, 1) := by decide +kernel
theorem dX1_coveredByNobody_22 : decode cX1_coveredByNobody 22 = .ok (.iinc 2 1, 3) := by decide +kernel
theorem dX1_coveredByNobody_25 : decode cX1_coveredByNobody 25 = .ok (.goto (-20), 3) := by decide +kernel
theorem dX1_coveredByNobody_28 : decode cX1_coveredByNobody 28 = .ok (.iload_n 1, 1) := by decide +kernel
theorem dX1_coveredByNobody_29 : decode cX1_coveredByNobody 29 = .ok (.ireturn, 1) := by decide +kernel
theorem dX1_richest_0 : decode cX1_richest 0 = .ok (.bipush (-9), 2) := by decide +kernel
theorem dX1_richest_2 : decode cX1_richest 2 = .ok (.istore_n 1, 1) := by decide +kernel
theorem dX1_richest_3 : decode cX1_richest 3 = .ok (.iconst (-1), 1) := by decide +kernel
theorem dX1_richest_4 : decode cX1_richest 4 = .ok (.istore_n 2, 1) := by decide +kernel
theorem dX1_richest_5 : decode cX1_richest 5 = .ok (.iconst 0, 1) := by decide +kernel
theorem dX1_richest_6 : decode cX1_richest 6 = .ok (.istore_n 3, 1) := by decide +kernel
theorem dX1_richest_7 : decode cX1_richest 7 = .ok (.iload_n 3, 1) := by decide +kernel
theorem dX1_richest_8 : decode cX1_richest 8 = .ok (.aload_n 0, 1) := by decide +kernel
theorem dX1_richest_9 : decode cX1_richest 9 = .ok (.getfield 49, 3) := by decide +kernel
theorem dX1_richest_12 : decode cX1_richest 12 = .ok (.if_icmp .ge 39, 3) := by decide +kernel
theorem dX1_richest_15 : decode cX1_richest 15 = .ok (.aload_n 0, 1) := by decide +kernel
theorem dX1_richest_16 : decode cX1_richest 16 = .ok (.getfield 40, 3) := by decide +kernel
theorem dX1_richest_19 : decode cX1_richest 19 = .ok (.iload_n 3, 1) := by decide +kernel
theorem dX1_richest_20 : decode cX1_richest 20 = .ok (.iaload, 1) := by decide +kernel
theorem dX1_richest_21 : decode cX1_richest 21 = .ok (.invokestatic 118, 3) := by decide +kernel
theorem dX1_richest_24 : decode cX1_richest 24 = .ok (.istore 4, 2) := by decide +kernel
theorem dX1_richest_26 : decode cX1_richest 26 = .ok (.iload 4, 2) := by decide +kernel
theorem dX1_richest_28 : decode cX1_richest 28 = .ok (.iload_n 2, 1) := by decide +kernel
theorem dX1_richest_29 : decode cX1_richest 29 = .ok (.if_icmp .le 7, 3) := by decide +kernel
theorem dX1_richest_32 : decode cX1_richest 32 = .ok (.iload_n 3, 1) := by decide +kernel
theorem dX1_richest_33 : decode cX1_richest 33 = .ok (.goto 4, 3) := by decide +kernel
theorem dX1_richest_36 : decode cX1_richest 36 = .ok (.iload_n 1, 1) := by decide +kernel
theorem dX1_richest_37 : decode cX1_richest 37 = .ok (.istore_n 1, 1) := by decide +kernel
theorem dX1_richest_38 : decode cX1_richest 38 = .ok (.iload_n 2, 1) := by decide +kernel
theorem dX1_richest_39 : decode cX1_richest 39 = .ok (.iload 4, 2) := by decide +kernel
theorem dX1_richest_41 : decode cX1_richest 41 = .ok (.invokestatic 80, 3) := by decide +kernel
theorem dX1_richest_44 : decode cX1_richest 44 = .ok (.istore_n 2, 1) := by decide +kernel
theorem dX1_richest_45 : decode cX1_richest 45 = .ok (.iinc 3 1, 3) := by decide +kernel
theorem dX1_richest_48 : decode cX1_richest 48 = .ok (.goto (-41), 3) := by decide +kernel
theorem dX1_richest_51 : decode cX1_richest 51 = .ok (.iload_n 1, 1) := by decide +kernel
theorem dX1_richest_52 : decode cX1_richest 52 = .ok (.ireturn, 1) := by decide +kernel
theorem dX1_meetings_0 : decode cX1_meetings 0 = .ok (.aload_n 0, 1) := by decide +kernel
theorem dX1_meetings_1 : decode cX1_meetings 1 = .ok (.getfield 40, 3) := by decide +kernel
theorem dX1_meetings_4 : decode cX1_meetings 4 = .ok (.iload_n 1, 1) := by decide +kernel
theorem dX1_meetings_5 : decode cX1_meetings 5 = .ok (.iaload, 1) := by decide +kernel
theorem dX1_meetings_6 : decode cX1_meetings 6 = .ok (.aload_n 0, 1) := by decide +kernel
theorem dX1_meetings_7 : decode cX1_meetings 7 = .ok (.getfield 40, 3) := by decide +kernel
theorem dX1_meetings_10 : decode cX1_meetings 10 = .ok (.iload_n 2, 1) := by decide +kernel
theorem dX1_meetings_11 : decode cX1_meetings 11 = .ok (.iaload, 1) := by decide +kernel
theorem dX1_meetings_12 : decode cX1_meetings 12 = .ok (.ior, 1) := by decide +kernel
theorem dX1_meetings_13 : decode cX1_meetings 13 = .ok (.iconst (-1), 1) := by decide +kernel
theorem dX1_meetings_14 : decode cX1_meetings 14 = .ok (.ixor, 1) := by decide +kernel
theorem dX1_meetings_15 : decode cX1_meetings 15 = .ok (.bipush 127, 2) := by decide +kernel
theorem dX1_meetings_17 : decode cX1_meetings 17 = .ok (.iand, 1) := by decide +kernel
theorem dX1_meetings_18 : decode cX1_meetings 18 = .ok (.ireturn, 1) := by decide +kernel
theorem dX1_allOff_0 : decode cX1_allOff 0 = .ok (.iconst 0, 1) := by decide +kernel
theorem dX1_allOff_1 : decode cX1_allOff 1 = .ok (.istore_n 1, 1) := by decide +kernel
theorem dX1_allOff_2 : decode cX1_allOff 2 = .ok (.iconst 0, 1) := by decide +kernel
theorem dX1_allOff_3 : decode cX1_allOff 3 = .ok (.istore_n 2, 1) := by decide +kernel
theorem dX1_allOff_4 : decode cX1_allOff 4 = .ok (.iload_n 2, 1) := by decide +kernel
theorem dX1_allOff_5 : decode cX1_allOff 5 = .ok (.aload_n 0, 1) := by decide +kernel
theorem dX1_allOff_6 : decode cX1_allOff 6 = .ok (.getfield 49, 3) := by decide +kernel
theorem dX1_allOff_9 : decode cX1_allOff 9 = .ok (.if_icmp .ge 21, 3) := by decide +kernel
theorem dX1_allOff_12 : decode cX1_allOff 12 = .ok (.iload_n 1, 1) := by decide +kernel
theorem dX1_allOff_13 : decode cX1_allOff 13 = .ok (.aload_n 0, 1) := by decide +kernel
theorem dX1_allOff_14 : decode cX1_allOff 14 = .ok (.getfield 40, 3) := by decide +kernel
theorem dX1_allOff_17 : decode cX1_allOff 17 = .ok (.iload_n 2, 1) := by decide +kernel
theorem dX1_allOff_18 : decode cX1_allOff 18 = .ok (.iaload, 1) := by decide +kernel
theorem dX1_allOff_19 : decode cX1_allOff 19 = .ok (.invokestatic 118, 3) := by decide +kernel
theorem dX1_allOff_22 : decode cX1_allOff 22 = .ok (.iadd, 1) := by decide +kernel
theorem dX1_allOff_23 : decode cX1_allOff 23 = .ok (.istore_n 1, 1) := by decide +kernel
theorem dX1_allOff_24 : decode cX1_allOff 24 = .ok (.iinc 2 1, 3) := by decide +kernel
theorem dX1_allOff_27 : decode cX1_allOff 27 = .ok (.goto (-23), 3) := by decide +kernel
theorem dX1_allOff_30 : decode cX1_allOff 30 = .ok (.iload_n 1, 1) := by decide +kernel
theorem dX1_allOff_31 : decode cX1_allOff 31 = .ok (.ireturn, 1) := by decide +kernel
theorem dX1_allTired_0 : decode cX1_allTired 0 = .ok (.iconst 0, 1) := by decide +kernel
theorem dX1_allTired_1 : decode cX1_allTired 1 = .ok (.istore_n 1, 1) := by decide +kernel
theorem dX1_allTired_2 : decode cX1_allTired 2 = .ok (.iconst 0, 1) := by decide +kernel
theorem dX1_allTired_3 : decode cX1_allTired 3 = .ok (.istore_n 2, 1) := by decide +kernel
theorem dX1_allTired_4 : decode cX1_allTired 4 = .ok (.iload_n 2, 1) := by decide +kernel
theorem dX1_allTired_5 : decode cX1_allTired 5 = .ok (.aload_n 0, 1) := by decide +kernel
theorem dX1_allTired_6 : decode cX1_allTired 6 = .ok (.getfield 49, 3) := by decide +kernel
theorem dX1_allTired_9 : decode cX1_allTired 9 = .ok (.if_icmp .ge 18, 3) := by decide +kernel
theorem dX1_allTired_12 : decode cX1_allTired 12 = .ok (.iload_n 1, 1) := by decide +kernel
theorem dX1_allTired_13 : decode cX1_allTired 13 = .ok (.aload_n 0, 1) := by decide +kernel
theorem dX1_allTired_14 : decode cX1_allTired 14 = .ok (.getfield 43, 3) := by decide +kernel
theorem dX1_allTired_17 : decode cX1_allTired 17 = .ok (.iload_n 2, 1) := by decide +kernel
theorem dX1_allTired_18 : decode cX1_allTired 18 = .ok (.iaload, 1) := by decide +kernel
theorem dX1_allTired_19 : decode cX1_allTired 19 = .ok (.iadd, 1) := by decide +kernel
theorem dX1_allTired_20 : decode cX1_allTired 20 = .ok (.istore_n 1, 1) := by decide +kernel
theorem dX1_allTired_21 : decode cX1_allTired 21 = .ok (.iinc 2 1, 3) := by decide +kernel
theorem dX1_allTired_24 : decode cX1_allTired 24 = .ok (.goto (-20), 3) := by decide +kernel
theorem dX1_allTired_27 : decode cX1_allTired 27 = .ok (.iload_n 1, 1) := by decide +kernel
theorem dX1_allTired_28 : decode cX1_allTired 28 = .ok (.ireturn, 1) := by decide +kernel
theorem dX2_init_0 : decode cX2_init 0 = .ok (.aload_n 0, 1) := by decide +kernel
theorem dX2_init_1 : decode cX2_init 1 = .ok (.invokespecial 3, 3) := by decide +kernel
theorem dX2_init_4 : decode cX2_init 4 = .ok (.return_, 1) := by decide +kernel
theorem dX2_dueAfter_0 : decode cX2_dueAfter 0 = .ok (.iconst 1, 1) := by decide +kernel
theorem dX2_dueAfter_1 : decode cX2_dueAfter 1 = .ok (.ireturn, 1) := by decide +kernel
theorem dX2_choosePayer_0 : decode cX2_choosePayer 0 = .ok (.iconst 0, 1) := by decide +kernel
theorem dX2_choosePayer_1 : decode cX2_choosePayer 1 = .ok (.istore_n 3, 1) := by decide +kernel
theorem dX2_choosePayer_2 : decode cX2_choosePayer 2 = .ok (.iload_n 3, 1) := by decide +kernel
theorem dX2_choosePayer_3 : decode cX2_choosePayer 3 = .ok (.aload_n 1, 1) := by decide +kernel
theorem dX2_choosePayer_4 : decode cX2_choosePayer 4 = .ok (.getfield 9, 3) := by decide +kernel
theorem dX2_choosePayer_7 : decode cX2_choosePayer 7 = .ok (.if_icmp .ge 20, 3) := by decide +kernel
theorem dX2_choosePayer_10 : decode cX2_choosePayer 10 = .ok (.aload_n 1, 1) := by decide +kernel
theorem dX2_choosePayer_11 : decode cX2_choosePayer 11 = .ok (.iload_n 3, 1) := by decide +kernel
theorem dX2_choosePayer_12 : decode cX2_choosePayer 12 = .ok (.iload_n 2, 1) := by decide +kernel
theorem dX2_choosePayer_13 : decode cX2_choosePayer 13 = .ok (.invokevirtual 15, 3) := by decide +kernel
theorem dX2_choosePayer_16 : decode cX2_choosePayer 16 = .ok (.ifCond .eq 5, 3) := by decide +kernel
theorem dX2_choosePayer_19 : decode cX2_choosePayer 19 = .ok (.iload_n 3, 1) := by decide +kernel
theorem dX2_choosePayer_20 : decode cX2_choosePayer 20 = .ok (.ireturn, 1) := by decide +kernel
theorem dX2_choosePayer_21 : decode cX2_choosePayer 21 = .ok (.iinc 3 1, 3) := by decide +kernel
theorem dX2_choosePayer_24 : decode cX2_choosePayer 24 = .ok (.goto (-22), 3) := by decide +kernel
theorem dX2_choosePayer_27 : decode cX2_choosePayer 27 = .ok (.bipush (-9), 2) := by decide +kernel
theorem dX2_choosePayer_29 : decode cX2_choosePayer 29 = .ok (.ireturn, 1) := by decide +kernel
theorem dX3_init_0 : decode cX3_init 0 = .ok (.aload_n 0, 1) := by decide +kernel
theorem dX3_init_1 : decode cX3_init 1 = .ok (.invokespecial 3, 3) := by decide +kernel
theorem dX3_init_4 : decode cX3_init 4 = .ok (.return_, 1) := by decide +kernel
theorem dX3_choosePayer_0 : decode cX3_choosePayer 0 = .ok (.bipush (-9), 2) := by decide +kernel
theorem dX3_choosePayer_2 : decode cX3_choosePayer 2 = .ok (.istore_n 3, 1) := by decide +kernel
theorem dX3_choosePayer_3 : decode cX3_choosePayer 3 = .ok (.iconst 0, 1) := by decide +kernel
theorem dX3_choosePayer_4 : decode cX3_choosePayer 4 = .ok (.istore 4, 2) := by decide +kernel
theorem dX3_choosePayer_6 : decode cX3_choosePayer 6 = .ok (.iconst 0, 1) := by decide +kernel
theorem dX3_choosePayer_7 : decode cX3_choosePayer 7 = .ok (.istore 5, 2) := by decide +kernel
theorem dX3_choosePayer_9 : decode cX3_choosePayer 9 = .ok (.iload 5, 2) := by decide +kernel
theorem dX3_choosePayer_11 : decode cX3_choosePayer 11 = .ok (.aload_n 1, 1) := by decide +kernel
theorem dX3_choosePayer_12 : decode cX3_choosePayer 12 = .ok (.getfield 9, 3) := by decide +kernel
theorem dX3_choosePayer_15 : decode cX3_choosePayer 15 = .ok (.if_icmp .ge 45, 3) := by decide +kernel
theorem dX3_choosePayer_18 : decode cX3_choosePayer 18 = .ok (.aload_n 1, 1) := by decide +kernel
theorem dX3_choosePayer_19 : decode cX3_choosePayer 19 = .ok (.getfield 15, 3) := by decide +kernel
theorem dX3_choosePayer_22 : decode cX3_choosePayer 22 = .ok (.iload 5, 2) := by decide +kernel
theorem dX3_choosePayer_24 : decode cX3_choosePayer 24 = .ok (.iaload, 1) := by decide +kernel
theorem dX3_choosePayer_25 : decode cX3_choosePayer 25 = .ok (.invokestatic 19, 3) := by decide +kernel
theorem dX3_choosePayer_28 : decode cX3_choosePayer 28 = .ok (.istore 6, 2) := by decide +kernel
theorem dX3_choosePayer_30 : decode cX3_choosePayer 30 = .ok (.iload 6, 2) := by decide +kernel
theorem dX3_choosePayer_32 : decode cX3_choosePayer 32 = .ok (.iload 4, 2) := by decide +kernel
theorem dX3_choosePayer_34 : decode cX3_choosePayer 34 = .ok (.if_icmp .le 20, 3) := by decide +kernel
theorem dX3_choosePayer_37 : decode cX3_choosePayer 37 = .ok (.aload_n 1, 1) := by decide +kernel
theorem dX3_choosePayer_38 : decode cX3_choosePayer 38 = .ok (.iload 5, 2) := by decide +kernel
theorem dX3_choosePayer_40 : decode cX3_choosePayer 40 = .ok (.iload_n 2, 1) := by decide +kernel
theorem dX3_choosePayer_41 : decode cX3_choosePayer 41 = .ok (.invokevirtual 25, 3) := by decide +kernel
theorem dX3_choosePayer_44 : decode cX3_choosePayer 44 = .ok (.ifCond .eq 10, 3) := by decide +kernel
theorem dX3_choosePayer_47 : decode cX3_choosePayer 47 = .ok (.iload 5, 2) := by decide +kernel
theorem dX3_choosePayer_49 : decode cX3_choosePayer 49 = .ok (.istore_n 3, 1) := by decide +kernel
theorem dX3_choosePayer_50 : decode cX3_choosePayer 50 = .ok (.iload 6, 2) := by decide +kernel
theorem dX3_choosePayer_52 : decode cX3_choosePayer 52 = .ok (.istore 4, 2) := by decide +kernel
theorem dX3_choosePayer_54 : decode cX3_choosePayer 54 = .ok (.iinc 5 1, 3) := by decide +kernel
theorem dX3_choosePayer_57 : decode cX3_choosePayer 57 = .ok (.goto (-48), 3) := by decide +kernel
theorem dX3_choosePayer_60 : decode cX3_choosePayer 60 = .ok (.iload_n 3, 1) := by decide +kernel
theorem dX3_choosePayer_61 : decode cX3_choosePayer 61 = .ok (.ireturn, 1) := by decide +kernel
theorem dX4_init_0 : decode cX4_init 0 = .ok (.aload_n 0, 1) := by decide +kernel
theorem dX4_init_1 : decode cX4_init 1 = .ok (.invokespecial 1, 3) := by decide +kernel
theorem dX4_init_4 : decode cX4_init 4 = .ok (.return_, 1) := by decide +kernel
theorem dX4_dueAfter_0 : decode cX4_dueAfter 0 = .ok (.iconst 0, 1) := by decide +kernel
theorem dX4_dueAfter_1 : decode cX4_dueAfter 1 = .ok (.ireturn, 1) := by decide +kernel
theorem dX5_init_0 : decode cX5_init 0 = .ok (.aload_n 0, 1) := by decide +kernel
theorem dX5_init_1 : decode cX5_init 1 = .ok (.invokespecial 3, 3) := by decide +kernel
theorem dX5_init_4 : decode cX5_init 4 = .ok (.aload_n 0, 1) := by decide +kernel
theorem dX5_init_5 : decode cX5_init 5 = .ok (.bipush 96, 2) := by decide +kernel
theorem dX5_init_7 : decode cX5_init 7 = .ok (.newarray .char, 2) := by decide +kernel
theorem dX5_init_9 : decode cX5_init 9 = .ok (.putfield 9, 3) := by decide +kernel
theorem dX5_init_12 : decode cX5_init 12 = .ok (.aload_n 0, 1) := by decide +kernel
theorem dX5_init_13 : decode cX5_init 13 = .ok (.iconst 0, 1) := by decide +kernel
theorem dX5_init_14 : decode cX5_init 14 = .ok (.putfield 15, 3) := by decide +kernel
theorem dX5_init_17 : decode cX5_init 17 = .ok (.return_, 1) := by decide +kernel
theorem dX5_isFull_0 : decode cX5_isFull 0 = .ok (.aload_n 0, 1) := by decide +kernel
theorem dX5_isFull_1 : decode cX5_isFull 1 = .ok (.getfield 15, 3) := by decide +kernel
theorem dX5_isFull_4 : decode cX5_isFull 4 = .ok (.bipush 96, 2) := by decide +kernel
theorem dX5_isFull_6 : decode cX5_isFull 6 = .ok (.if_icmp .lt 7, 3) := by decide +kernel
theorem dX5_isFull_9 : decode cX5_isFull 9 = .ok (.iconst 1, 1) := by decide +kernel
theorem dX5_isFull_10 : decode cX5_isFull 10 = .ok (.goto 4, 3) := by decide +kernel
theorem dX5_isFull_13 : decode cX5_isFull 13 = .ok (.iconst 0, 1) := by decide +kernel
theorem dX5_isFull_14 : decode cX5_isFull 14 = .ok (.ireturn, 1) := by decide +kernel
theorem dX5_add_0 : decode cX5_add 0 = .ok (.aload_n 0, 1) := by decide +kernel
theorem dX5_add_1 : decode cX5_add 1 = .ok (.invokevirtual 19, 3) := by decide +kernel
theorem dX5_add_4 : decode cX5_add 4 = .ok (.ifCond .ne 23, 3) := by decide +kernel
theorem dX5_add_7 : decode cX5_add 7 = .ok (.aload_n 0, 1) := by decide +kernel
theorem dX5_add_8 : decode cX5_add 8 = .ok (.getfield 9, 3) := by decide +kernel
theorem dX5_add_11 : decode cX5_add 11 = .ok (.aload_n 0, 1) := by decide +kernel
theorem dX5_add_12 : decode cX5_add 12 = .ok (.getfield 15, 3) := by decide +kernel
theorem dX5_add_15 : decode cX5_add 15 = .ok (.iload_n 1, 1) := by decide +kernel
theorem dX5_add_16 : decode cX5_add 16 = .ok (.castore, 1) := by decide +kernel
theorem dX5_add_17 : decode cX5_add 17 = .ok (.aload_n 0, 1) := by decide +kernel
theorem dX5_add_18 : decode cX5_add 18 = .ok (.dup, 1) := by decide +kernel
theorem dX5_add_19 : decode cX5_add 19 = .ok (.getfield 15, 3) := by decide +kernel
theorem dX5_add_22 : decode cX5_add 22 = .ok (.iconst 1, 1) := by decide +kernel
theorem dX5_add_23 : decode cX5_add 23 = .ok (.iadd, 1) := by decide +kernel
theorem dX5_add_24 : decode cX5_add 24 = .ok (.putfield 15, 3) := by decide +kernel
theorem dX5_add_27 : decode cX5_add 27 = .ok (.return_, 1) := by decide +kernel
theorem dX5_forget_0 : decode cX5_forget 0 = .ok (.aload_n 0, 1) := by decide +kernel
theorem dX5_forget_1 : decode cX5_forget 1 = .ok (.iconst 0, 1) := by decide +kernel
theorem dX5_forget_2 : decode cX5_forget 2 = .ok (.putfield 15, 3) := by decide +kernel
theorem dX5_forget_5 : decode cX5_forget 5 = .ok (.return_, 1) := by decide +kernel
theorem dX5_firstWrongLetter_0 : decode cX5_firstWrongLetter 0 = .ok (.iconst 0, 1) := by decide +kernel
theorem dX5_firstWrongLetter_1 : decode cX5_firstWrongLetter 1 = .ok (.istore_n 1, 1) := by decide +kernel
theorem dX5_firstWrongLetter_2 : decode cX5_firstWrongLetter 2 = .ok (.aload_n 0, 1) := by decide +kernel
theorem dX5_firstWrongLetter_3 : decode cX5_firstWrongLetter 3 = .ok (.iload_n 1, 1) := by decide +kernel
theorem dX5_firstWrongLetter_4 : decode cX5_firstWrongLetter 4 = .ok (.invokevirtual 23, 3) := by decide +kernel
theorem dX5_firstWrongLetter_7 : decode cX5_firstWrongLetter 7 = .ok (.astore_n 2, 1) := by decide +kernel
theorem dX5_firstWrongLetter_8 : decode cX5_firstWrongLetter 8 = .ok (.aload_n 2, 1) := by decide +kernel
theorem dX5_firstWrongLetter_9 : decode cX5_firstWrongLetter 9 = .ok (.invokevirtual 27, 3) := by decide +kernel
theorem dX5_firstWrongLetter_12 : decode cX5_firstWrongLetter 12 = .ok (.ifCond .eq 5, 3) := by decide +kernel
theorem dX5_firstWrongLetter_15 : decode cX5_firstWrongLetter 15 = .ok (.iload_n 1, 1) := by decide +kernel
theorem dX5_firstWrongLetter_16 : decode cX5_firstWrongLetter 16 = .ok (.ireturn, 1) := by decide +kernel
theorem dX5_firstWrongLetter_17 : decode cX5_firstWrongLetter 17 = .ok (.iconst 0, 1) := by decide +kernel
theorem dX5_firstWrongLetter_18 : decode cX5_firstWrongLetter 18 = .ok (.istore_n 3, 1) := by decide +kernel
theorem dX5_firstWrongLetter_19 : decode cX5_firstWrongLetter 19 = .ok (.iload_n 3, 1) := by decide +kernel
theorem dX5_firstWrongLetter_20 : decode cX5_firstWrongLetter 20 = .ok (.aload_n 2, 1) := by decide +kernel
theorem dX5_firstWrongLetter_21 : decode cX5_firstWrongLetter 21 = .ok (.invokevirtual 32, 3) := by decide +kernel
theorem dX5_firstWrongLetter_24 : decode cX5_firstWrongLetter 24 = .ok (.if_icmp .ge 39, 3) := by decide +kernel
theorem dX5_firstWrongLetter_27 : decode cX5_firstWrongLetter 27 = .ok (.iinc 1 1, 3) := by decide +kernel
theorem dX5_firstWrongLetter_30 : decode cX5_firstWrongLetter 30 = .ok (.iload_n 1, 1) := by decide +kernel
theorem dX5_firstWrongLetter_31 : decode cX5_firstWrongLetter 31 = .ok (.aload_n 0, 1) := by decide +kernel
theorem dX5_firstWrongLetter_32 : decode cX5_firstWrongLetter 32 = .ok (.getfield 15, 3) := by decide +kernel
theorem dX5_firstWrongLetter_35 : decode cX5_firstWrongLetter 35 = .ok (.if_icmp .ge 20, 3) := by decide +kernel
theorem dX5_firstWrongLetter_38 : decode cX5_firstWrongLetter 38 = .ok (.aload_n 2, 1) := by decide +kernel
theorem dX5_firstWrongLetter_39 : decode cX5_firstWrongLetter 39 = .ok (.iload_n 3, 1) := by decide +kernel
theorem dX5_firstWrongLetter_40 : decode cX5_firstWrongLetter 40 = .ok (.invokevirtual 36, 3) := by decide +kernel
theorem dX5_firstWrongLetter_43 : decode cX5_firstWrongLetter 43 = .ok (.aload_n 0, 1) := by decide +kernel
theorem dX5_firstWrongLetter_44 : decode cX5_firstWrongLetter 44 = .ok (.getfield 9, 3) := by decide +kernel
theorem dX5_firstWrongLetter_47 : decode cX5_firstWrongLetter 47 = .ok (.iload_n 1, 1) := by decide +kernel
theorem dX5_firstWrongLetter_48 : decode cX5_firstWrongLetter 48 = .ok (.caload, 1) := by decide +kernel
theorem dX5_firstWrongLetter_49 : decode cX5_firstWrongLetter 49 = .ok (.invokestatic 40, 3) := by decide +kernel
theorem dX5_firstWrongLetter_52 : decode cX5_firstWrongLetter 52 = .ok (.ifCond .ne 5, 3) := by decide +kernel
theorem dX5_firstWrongLetter_55 : decode cX5_firstWrongLetter 55 = .ok (.iload_n 1, 1) := by decide +kernel
theorem dX5_firstWrongLetter_56 : decode cX5_firstWrongLetter 56 = .ok (.ireturn, 1) := by decide +kernel
theorem dX5_firstWrongLetter_57 : decode cX5_firstWrongLetter 57 = .ok (.iinc 3 1, 3) := by decide +kernel
theorem dX5_firstWrongLetter_60 : decode cX5_firstWrongLetter 60 = .ok (.goto (-41), 3) := by decide +kernel
theorem dX5_firstWrongLetter_63 : decode cX5_firstWrongLetter 63 = .ok (.iinc 1 1, 3) := by decide +kernel
theorem dX5_firstWrongLetter_66 : decode cX5_firstWrongLetter 66 = .ok (.iload_n 1, 1) := by decide +kernel
theorem dX5_firstWrongLetter_67 : decode cX5_firstWrongLetter 67 = .ok (.aload_n 0, 1) := by decide +kernel
theorem dX5_firstWrongLetter_68 : decode cX5_firstWrongLetter 68 = .ok (.getfield 15, 3) := by decide +kernel
theorem dX5_firstWrongLetter_71 : decode cX5_firstWrongLetter 71 = .ok (.if_icmp .lt (-69), 3) := by decide +kernel
theorem dX5_firstWrongLetter_74 : decode cX5_firstWrongLetter 74 = .ok (.bipush (-9), 2) := by decide +kernel
theorem dX5_firstWrongLetter_76 : decode cX5_firstWrongLetter 76 = .ok (.ireturn, 1) := by decide +kernel
theorem dX5_shapeAt_0 : decode cX5_shapeAt 0 = .ok (.iload_n 1, 1) := by decide +kernel
theorem dX5_shapeAt_1 : decode cX5_shapeAt 1 = .ok (.aload_n 0, 1) := by decide +kernel
theorem dX5_shapeAt_2 : decode cX5_shapeAt 2 = .ok (.getfield 15, 3) := by decide +kernel
theorem dX5_shapeAt_5 : decode cX5_shapeAt 5 = .ok (.if_icmp .ge 12, 3) := by decide +kernel
theorem dX5_shapeAt_8 : decode cX5_shapeAt 8 = .ok (.aload_n 0, 1) := by decide +kernel
theorem dX5_shapeAt_9 : decode cX5_shapeAt 9 = .ok (.getfield 9, 3) := by decide +kernel
theorem dX5_shapeAt_12 : decode cX5_shapeAt 12 = .ok (.iload_n 1, 1) := by decide +kernel
theorem dX5_shapeAt_13 : decode cX5_shapeAt 13 = .ok (.caload, 1) := by decide +kernel
theorem dX5_shapeAt_14 : decode cX5_shapeAt 14 = .ok (.goto 4, 3) := by decide +kernel
theorem dX5_shapeAt_17 : decode cX5_shapeAt 17 = .ok (.iconst 0, 1) := by decide +kernel
theorem dX5_shapeAt_18 : decode cX5_shapeAt 18 = .ok (.lookupswitch 59 #[(100, 53), (111, 53), (116, 56), (119, 50), (120, 56)], 50) := by decide +kernel
theorem dX5_shapeAt_68 : decode cX5_shapeAt 68 = .ok (.ldc 44, 2) := by decide +kernel
theorem dX5_shapeAt_70 : decode cX5_shapeAt 70 = .ok (.areturn, 1) := by decide +kernel
theorem dX5_shapeAt_71 : decode cX5_shapeAt 71 = .ok (.ldc 46, 2) := by decide +kernel
theorem dX5_shapeAt_73 : decode cX5_shapeAt 73 = .ok (.areturn, 1) := by decide +kernel
theorem dX5_shapeAt_74 : decode cX5_shapeAt 74 = .ok (.ldc 48, 2) := by decide +kernel
theorem dX5_shapeAt_76 : decode cX5_shapeAt 76 = .ok (.areturn, 1) := by decide +kernel
theorem dX5_shapeAt_77 : decode cX5_shapeAt 77 = .ok (.ldc 50, 2) := by decide +kernel
theorem dX5_shapeAt_79 : decode cX5_shapeAt 79 = .ok (.areturn, 1) := by decide +kernel
theorem dX5_isAs_0 : decode cX5_isAs 0 = .ok (.iload_n 0, 1) := by decide +kernel
theorem dX5_isAs_1 : decode cX5_isAs 1 = .ok (.bipush 107, 2) := by decide +kernel
theorem dX5_isAs_3 : decode cX5_isAs 3 = .ok (.if_icmp .ne 18, 3) := by decide +kernel
theorem dX5_isAs_6 : decode cX5_isAs 6 = .ok (.ldc 52, 2) := by decide +kernel
theorem dX5_isAs_8 : decode cX5_isAs 8 = .ok (.iload_n 1, 1) := by decide +kernel
theorem dX5_isAs_9 : decode cX5_isAs 9 = .ok (.invokevirtual 54, 3) := by decide +kernel
theorem dX5_isAs_12 : decode cX5_isAs 12 = .ok (.ifCond .lt 7, 3) := by decide +kernel
theorem dX5_isAs_15 : decode cX5_isAs 15 = .ok (.iconst 1, 1) := by decide +kernel
theorem dX5_isAs_16 : decode cX5_isAs 16 = .ok (.goto 4, 3) := by decide +kernel
theorem dX5_isAs_19 : decode cX5_isAs 19 = .ok (.iconst 0, 1) := by decide +kernel
theorem dX5_isAs_20 : decode cX5_isAs 20 = .ok (.ireturn, 1) := by decide +kernel
theorem dX5_isAs_21 : decode cX5_isAs 21 = .ok (.iload_n 0, 1) := by decide +kernel
theorem dX5_isAs_22 : decode cX5_isAs 22 = .ok (.bipush 48, 2) := by decide +kernel
theorem dX5_isAs_24 : decode cX5_isAs 24 = .ok (.if_icmp .ne 21, 3) := by decide +kernel
theorem dX5_isAs_27 : decode cX5_isAs 27 = .ok (.iload_n 1, 1) := by decide +kernel
theorem dX5_isAs_28 : decode cX5_isAs 28 = .ok (.bipush 48, 2) := by decide +kernel
theorem dX5_isAs_30 : decode cX5_isAs 30 = .ok (.if_icmp .lt 13, 3) := by decide +kernel
theorem dX5_isAs_33 : decode cX5_isAs 33 = .ok (.iload_n 1, 1) := by decide +kernel
theorem dX5_isAs_34 : decode cX5_isAs 34 = .ok (.bipush 57, 2) := by decide +kernel
theorem dX5_isAs_36 : decode cX5_isAs 36 = .ok (.if_icmp .gt 7, 3) := by decide +kernel
theorem dX5_isAs_39 : decode cX5_isAs 39 = .ok (.iconst 1, 1) := by decide +kernel
theorem dX5_isAs_40 : decode cX5_isAs 40 = .ok (.goto 4, 3) := by decide +kernel
theorem dX5_isAs_43 : decode cX5_isAs 43 = .ok (.iconst 0, 1) := by decide +kernel
theorem dX5_isAs_44 : decode cX5_isAs 44 = .ok (.ireturn, 1) := by decide +kernel
theorem dX5_isAs_45 : decode cX5_isAs 45 = .ok (.iload_n 1, 1) := by decide +kernel
theorem dX5_isAs_46 : decode cX5_isAs 46 = .ok (.iload_n 0, 1) := by decide +kernel
theorem dX5_isAs_47 : decode cX5_isAs 47 = .ok (.if_icmp .ne 7, 3) := by decide +kernel
theorem dX5_isAs_50 : decode cX5_isAs 50 = .ok (.iconst 1, 1) := by decide +kernel
theorem dX5_isAs_51 : decode cX5_isAs 51 = .ok (.goto 4, 3) := by decide +kernel
theorem dX5_isAs_54 : decode cX5_isAs 54 = .ok (.iconst 0, 1) := by decide +kernel
theorem dX5_isAs_55 : decode cX5_isAs 55 = .ok (.ireturn, 1) := by decide +kernel
theorem dX5_number_0 : decode cX5_number 0 = .ok (.iconst 0, 1) := by decide +kernel
theorem dX5_number_1 : decode cX5_number 1 = .ok (.istore_n 3, 1) := by decide +kernel
theorem dX5_number_2 : decode cX5_number 2 = .ok (.iload_n 1, 1) := by decide +kernel
theorem dX5_number_3 : decode cX5_number 3 = .ok (.istore 4, 2) := by decide +kernel
theorem dX5_number_5 : decode cX5_number 5 = .ok (.iload 4, 2) := by decide +kernel
theorem dX5_number_7 : decode cX5_number 7 = .ok (.iload_n 1, 1) := by decide +kernel
theorem dX5_number_8 : decode cX5_number 8 = .ok (.iload_n 2, 1) := by decide +kernel
theorem dX5_number_9 : decode cX5_number 9 = .ok (.iadd, 1) := by decide +kernel
theorem dX5_number_10 : decode cX5_number 10 = .ok (.if_icmp .ge 34, 3) := by decide +kernel
theorem dX5_number_13 : decode cX5_number 13 = .ok (.iload 4, 2) := by decide +kernel
theorem dX5_number_15 : decode cX5_number 15 = .ok (.aload_n 0, 1) := by decide +kernel
theorem dX5_number_16 : decode cX5_number 16 = .ok (.getfield 15, 3) := by decide +kernel
theorem dX5_number_19 : decode cX5_number 19 = .ok (.if_icmp .ge 25, 3) := by decide +kernel
theorem dX5_number_22 : decode cX5_number 22 = .ok (.bipush 10, 2) := by decide +kernel
theorem dX5_number_24 : decode cX5_number 24 = .ok (.iload_n 3, 1) := by decide +kernel
theorem dX5_number_25 : decode cX5_number 25 = .ok (.imul, 1) := by decide +kernel
theorem dX5_number_26 : decode cX5_number 26 = .ok (.aload_n 0, 1) := by decide +kernel
theorem dX5_number_27 : decode cX5_number 27 = .ok (.getfield 9, 3) := by decide +kernel
theorem dX5_number_30 : decode cX5_number 30 = .ok (.iload 4, 2) := by decide +kernel
theorem dX5_number_32 : decode cX5_number 32 = .ok (.caload, 1) := by decide +kernel
theorem dX5_number_33 : decode cX5_number 33 = .ok (.iadd, 1) := by decide +kernel
theorem dX5_number_34 : decode cX5_number 34 = .ok (.bipush 48, 2) := by decide +kernel
theorem dX5_number_36 : decode cX5_number 36 = .ok (.isub, 1) := by decide +kernel
theorem dX5_number_37 : decode cX5_number 37 = .ok (.istore_n 3, 1) := by decide +kernel
theorem dX5_number_38 : decode cX5_number 38 = .ok (.iinc 4 1, 3) := by decide +kernel
theorem dX5_number_41 : decode cX5_number 41 = .ok (.goto (-36), 3) := by decide +kernel
theorem dX5_number_44 : decode cX5_number 44 = .ok (.iload_n 3, 1) := by decide +kernel
theorem dX5_number_45 : decode cX5_number 45 = .ok (.ireturn, 1) := by decide +kernel
theorem dX5_isObeyed_0 : decode cX5_isObeyed 0 = .ok (.iload_n 1, 1) := by decide +kernel
theorem dX5_isObeyed_1 : decode cX5_isObeyed 1 = .ok (.aload_n 0, 1) := by decide +kernel
theorem dX5_isObeyed_2 : decode cX5_isObeyed 2 = .ok (.getfield 15, 3) := by decide +kernel
theorem dX5_isObeyed_5 : decode cX5_isObeyed 5 = .ok (.if_icmp .ge 12, 3) := by decide +kernel
theorem dX5_isObeyed_8 : decode cX5_isObeyed 8 = .ok (.aload_n 0, 1) := by decide +kernel
theorem dX5_isObeyed_9 : decode cX5_isObeyed 9 = .ok (.getfield 9, 3) := by decide +kernel
theorem dX5_isObeyed_12 : decode cX5_isObeyed 12 = .ok (.iload_n 1, 1) := by decide +kernel
theorem dX5_isObeyed_13 : decode cX5_isObeyed 13 = .ok (.caload, 1) := by decide +kernel
theorem dX5_isObeyed_14 : decode cX5_isObeyed 14 = .ok (.goto 4, 3) := by decide +kernel
theorem dX5_isObeyed_17 : decode cX5_isObeyed 17 = .ok (.iconst 0, 1) := by decide +kernel
theorem dX5_isObeyed_18 : decode cX5_isObeyed 18 = .ok (.lookupswitch 85 #[(100, 78), (111, 57), (116, 64), (119, 50), (120, 71)], 50) := by decide +kernel
theorem dX5_isObeyed_68 : decode cX5_isObeyed 68 = .ok (.aload_n 0, 1) := by decide +kernel
theorem dX5_isObeyed_69 : decode cX5_isObeyed 69 = .ok (.iload_n 1, 1) := by decide +kernel
theorem dX5_isObeyed_70 : decode cX5_isObeyed 70 = .ok (.aload_n 2, 1) := by decide +kernel
theorem dX5_isObeyed_71 : decode cX5_isObeyed 71 = .ok (.invokevirtual 58, 3) := by decide +kernel
theorem dX5_isObeyed_74 : decode cX5_isObeyed 74 = .ok (.ireturn, 1) := by decide +kernel
theorem dX5_isObeyed_75 : decode cX5_isObeyed 75 = .ok (.aload_n 0, 1) := by decide +kernel
theorem dX5_isObeyed_76 : decode cX5_isObeyed 76 = .ok (.iload_n 1, 1) := by decide +kernel
theorem dX5_isObeyed_77 : decode cX5_isObeyed 77 = .ok (.aload_n 2, 1) := by decide +kernel
theorem dX5_isObeyed_78 : decode cX5_isObeyed 78 = .ok (.invokevirtual 62, 3) := by decide +kernel
theorem dX5_isObeyed_81 : decode cX5_isObeyed 81 = .ok (.ireturn, 1) := by decide +kernel
theorem dX5_isObeyed_82 : decode cX5_isObeyed 82 = .ok (.aload_n 0, 1) := by decide +kernel
theorem dX5_isObeyed_83 : decode cX5_isObeyed 83 = .ok (.iload_n 1, 1) := by decide +kernel
theorem dX5_isObeyed_84 : decode cX5_isObeyed 84 = .ok (.aload_n 2, 1) := by decide +kernel
theorem dX5_isObeyed_85 : decode cX5_isObeyed 85 = .ok (.invokevirtual 65, 3) := by decide +kernel
theorem dX5_isObeyed_88 : decode cX5_isObeyed 88 = .ok (.ireturn, 1) := by decide +kernel
theorem dX5_isObeyed_89 : decode cX5_isObeyed 89 = .ok (.aload_n 0, 1) := by decide +kernel
theorem dX5_isObeyed_90 : decode cX5_isObeyed 90 = .ok (.iload_n 1, 1) := by decide +kernel
theorem dX5_isObeyed_91 : decode cX5_isObeyed 91 = .ok (.aload_n 2, 1) := by decide +kernel
theorem dX5_isObeyed_92 : decode cX5_isObeyed 92 = .ok (.invokevirtual 68, 3) := by decide +kernel
theorem dX5_isObeyed_95 : decode cX5_isObeyed 95 = .ok (.ireturn, 1) := by decide +kernel
theorem dX5_isObeyed_96 : decode cX5_isObeyed 96 = .ok (.aload_n 0, 1) := by decide +kernel
theorem dX5_isObeyed_97 : decode cX5_isObeyed 97 = .ok (.iload_n 1, 1) := by decide +kernel
theorem dX5_isObeyed_98 : decode cX5_isObeyed 98 = .ok (.aload_n 2, 1) := by decide +kernel
theorem dX5_isObeyed_99 : decode cX5_isObeyed 99 = .ok (.invokevirtual 71, 3) := by decide +kernel
theorem dX5_isObeyed_102 : decode cX5_isObeyed 102 = .ok (.ireturn, 1) := by decide +kernel
theorem dX5_isObeyed_103 : decode cX5_isObeyed 103 = .ok (.iconst 0, 1) := by decide +kernel
theorem dX5_isObeyed_104 : decode cX5_isObeyed 104 = .ok (.ireturn, 1) := by decide +kernel
theorem dX5_hires_0 : decode cX5_hires 0 = .ok (.iload_n 1, 1) := by decide +kernel
theorem dX5_hires_1 : decode cX5_hires 1 = .ok (.iconst 1, 1) := by decide +kernel
theorem dX5_hires_2 : decode cX5_hires 2 = .ok (.iadd, 1) := by decide +kernel
theorem dX5_hires_3 : decode cX5_hires 3 = .ok (.aload_n 0, 1) := by decide +kernel
theorem dX5_hires_4 : decode cX5_hires 4 = .ok (.getfield 15, 3) := by decide +kernel
theorem dX5_hires_7 : decode cX5_hires 7 = .ok (.if_icmp .ge 19, 3) := by decide +kernel
theorem dX5_hires_10 : decode cX5_hires 10 = .ok (.ldc 52, 2) := by decide +kernel
theorem dX5_hires_12 : decode cX5_hires 12 = .ok (.aload_n 0, 1) := by decide +kernel
theorem dX5_hires_13 : decode cX5_hires 13 = .ok (.getfield 9, 3) := by decide +kernel
theorem dX5_hires_16 : decode cX5_hires 16 = .ok (.iload_n 1, 1) := by decide +kernel
theorem dX5_hires_17 : decode cX5_hires 17 = .ok (.iconst 1, 1) := by decide +kernel
theorem dX5_hires_18 : decode cX5_hires 18 = .ok (.iadd, 1) := by decide +kernel
theorem dX5_hires_19 : decode cX5_hires 19 = .ok (.caload, 1) := by decide +kernel
theorem dX5_hires_20 : decode cX5_hires 20 = .ok (.invokevirtual 54, 3) := by decide +kernel
theorem dX5_hires_23 : decode cX5_hires 23 = .ok (.goto 5, 3) := by decide +kernel
theorem dX5_hires_26 : decode cX5_hires 26 = .ok (.bipush (-9), 2) := by decide +kernel
theorem dX5_hires_28 : decode cX5_hires 28 = .ok (.istore_n 3, 1) := by decide +kernel
theorem dX5_hires_29 : decode cX5_hires 29 = .ok (.aload_n 0, 1) := by decide +kernel
theorem dX5_hires_30 : decode cX5_hires 30 = .ok (.iload_n 1, 1) := by decide +kernel
theorem dX5_hires_31 : decode cX5_hires 31 = .ok (.iconst 2, 1) := by decide +kernel
theorem dX5_hires_32 : decode cX5_hires 32 = .ok (.iadd, 1) := by decide +kernel
theorem dX5_hires_33 : decode cX5_hires 33 = .ok (.iconst 1, 1) := by decide +kernel
theorem dX5_hires_34 : decode cX5_hires 34 = .ok (.invokevirtual 74, 3) := by decide +kernel
theorem dX5_hires_37 : decode cX5_hires 37 = .ok (.istore 4, 2) := by decide +kernel
theorem dX5_hires_39 : decode cX5_hires 39 = .ok (.aload_n 0, 1) := by decide +kernel
theorem dX5_hires_40 : decode cX5_hires 40 = .ok (.iload_n 1, 1) := by decide +kernel
theorem dX5_hires_41 : decode cX5_hires 41 = .ok (.iconst 3, 1) := by decide +kernel
theorem dX5_hires_42 : decode cX5_hires 42 = .ok (.iadd, 1) := by decide +kernel
theorem dX5_hires_43 : decode cX5_hires 43 = .ok (.iconst 3, 1) := by decide +kernel
theorem dX5_hires_44 : decode cX5_hires 44 = .ok (.invokevirtual 74, 3) := by decide +kernel
theorem dX5_hires_47 : decode cX5_hires 47 = .ok (.istore 5, 2) := by decide +kernel
theorem dX5_hires_49 : decode cX5_hires 49 = .ok (.iload_n 3, 1) := by decide +kernel
theorem dX5_hires_50 : decode cX5_hires 50 = .ok (.ifCond .lt 17, 3) := by decide +kernel
theorem dX5_hires_53 : decode cX5_hires 53 = .ok (.iload 5, 2) := by decide +kernel
theorem dX5_hires_55 : decode cX5_hires 55 = .ok (.bipush 127, 2) := by decide +kernel
theorem dX5_hires_57 : decode cX5_hires 57 = .ok (.if_icmp .gt 10, 3) := by decide +kernel
theorem dX5_hires_60 : decode cX5_hires 60 = .ok (.aload_n 2, 1) := by decide +kernel
theorem dX5_hires_61 : decode cX5_hires 61 = .ok (.invokevirtual 78, 3) := by decide +kernel
theorem dX5_hires_64 : decode cX5_hires 64 = .ok (.ifCond .ne 5, 3) := by decide +kernel
theorem dX5_hires_67 : decode cX5_hires 67 = .ok (.iconst 0, 1) := by decide +kernel
theorem dX5_hires_68 : decode cX5_hires 68 = .ok (.ireturn, 1) := by decide +kernel
theorem dX5_hires_69 : decode cX5_hires 69 = .ok (.aload_n 2, 1) := by decide +kernel
theorem dX5_hires_70 : decode cX5_hires 70 = .ok (.iload_n 3, 1) := by decide +kernel
theorem dX5_hires_71 : decode cX5_hires 71 = .ok (.iload 4, 2) := by decide +kernel
theorem dX5_hires_73 : decode cX5_hires 73 = .ok (.iload 5, 2) := by decide +kernel
theorem dX5_hires_75 : decode cX5_hires 75 = .ok (.invokevirtual 83, 3) := by decide +kernel
theorem dX5_hires_78 : decode cX5_hires 78 = .ok (.iconst 1, 1) := by decide +kernel
theorem dX5_hires_79 : decode cX5_hires 79 = .ok (.ireturn, 1) := by decide +kernel
theorem dX5_changesOff_0 : decode cX5_changesOff 0 = .ok (.aload_n 0, 1) := by decide +kernel
theorem dX5_changesOff_1 : decode cX5_changesOff 1 = .ok (.iload_n 1, 1) := by decide +kernel
theorem dX5_changesOff_2 : decode cX5_changesOff 2 = .ok (.iconst 1, 1) := by decide +kernel
theorem dX5_changesOff_3 : decode cX5_changesOff 3 = .ok (.iadd, 1) := by decide +kernel
theorem dX5_changesOff_4 : decode cX5_changesOff 4 = .ok (.iconst 1, 1) := by decide +kernel
theorem dX5_changesOff_5 : decode cX5_changesOff 5 = .ok (.invokevirtual 74, 3) := by decide +kernel
theorem dX5_changesOff_8 : decode cX5_changesOff 8 = .ok (.istore_n 3, 1) := by decide +kernel
theorem dX5_changesOff_9 : decode cX5_changesOff 9 = .ok (.aload_n 0, 1) := by decide +kernel
theorem dX5_changesOff_10 : decode cX5_changesOff 10 = .ok (.iload_n 1, 1) := by decide +kernel
theorem dX5_changesOff_11 : decode cX5_changesOff 11 = .ok (.iconst 2, 1) := by decide +kernel
theorem dX5_changesOff_12 : decode cX5_changesOff 12 = .ok (.iadd, 1) := by decide +kernel
theorem dX5_changesOff_13 : decode cX5_changesOff 13 = .ok (.iconst 1, 1) := by decide +kernel
theorem dX5_changesOff_14 : decode cX5_changesOff 14 = .ok (.invokevirtual 74, 3) := by decide +kernel
theorem dX5_changesOff_17 : decode cX5_changesOff 17 = .ok (.istore 4, 2) := by decide +kernel
theorem dX5_changesOff_19 : decode cX5_changesOff 19 = .ok (.aload_n 2, 1) := by decide +kernel
theorem dX5_changesOff_20 : decode cX5_changesOff 20 = .ok (.iload_n 3, 1) := by decide +kernel
theorem dX5_changesOff_21 : decode cX5_changesOff 21 = .ok (.invokevirtual 87, 3) := by decide +kernel
theorem dX5_changesOff_24 : decode cX5_changesOff 24 = .ok (.ifCond .eq 11, 3) := by decide +kernel
theorem dX5_changesOff_27 : decode cX5_changesOff 27 = .ok (.iload 4, 2) := by decide +kernel
theorem dX5_changesOff_29 : decode cX5_changesOff 29 = .ok (.invokestatic 91, 3) := by decide +kernel
theorem dX5_changesOff_32 : decode cX5_changesOff 32 = .ok (.ifCond .ne 5, 3) := by decide +kernel
theorem dX5_changesOff_35 : decode cX5_changesOff 35 = .ok (.iconst 0, 1) := by decide +kernel
theorem dX5_changesOff_36 : decode cX5_changesOff 36 = .ok (.ireturn, 1) := by decide +kernel
theorem dX5_changesOff_37 : decode cX5_changesOff 37 = .ok (.aload_n 2, 1) := by decide +kernel
theorem dX5_changesOff_38 : decode cX5_changesOff 38 = .ok (.iload_n 3, 1) := by decide +kernel
theorem dX5_changesOff_39 : decode cX5_changesOff 39 = .ok (.iload 4, 2) := by decide +kernel
theorem dX5_changesOff_41 : decode cX5_changesOff 41 = .ok (.invokevirtual 94, 3) := by decide +kernel
theorem dX5_changesOff_44 : decode cX5_changesOff 44 = .ok (.iconst 1, 1) := by decide +kernel
theorem dX5_changesOff_45 : decode cX5_changesOff 45 = .ok (.ireturn, 1) := by decide +kernel
theorem dX5_setsTired_0 : decode cX5_setsTired 0 = .ok (.aload_n 0, 1) := by decide +kernel
theorem dX5_setsTired_1 : decode cX5_setsTired 1 = .ok (.iload_n 1, 1) := by decide +kernel
theorem dX5_setsTired_2 : decode cX5_setsTired 2 = .ok (.iconst 1, 1) := by decide +kernel
theorem dX5_setsTired_3 : decode cX5_setsTired 3 = .ok (.iadd, 1) := by decide +kernel
theorem dX5_setsTired_4 : decode cX5_setsTired 4 = .ok (.iconst 1, 1) := by decide +kernel
theorem dX5_setsTired_5 : decode cX5_setsTired 5 = .ok (.invokevirtual 74, 3) := by decide +kernel
theorem dX5_setsTired_8 : decode cX5_setsTired 8 = .ok (.istore_n 3, 1) := by decide +kernel
theorem dX5_setsTired_9 : decode cX5_setsTired 9 = .ok (.aload_n 0, 1) := by decide +kernel
theorem dX5_setsTired_10 : decode cX5_setsTired 10 = .ok (.iload_n 1, 1) := by decide +kernel
theorem dX5_setsTired_11 : decode cX5_setsTired 11 = .ok (.iconst 2, 1) := by decide +kernel
theorem dX5_setsTired_12 : decode cX5_setsTired 12 = .ok (.iadd, 1) := by decide +kernel
theorem dX5_setsTired_13 : decode cX5_setsTired 13 = .ok (.iconst 2, 1) := by decide +kernel
theorem dX5_setsTired_14 : decode cX5_setsTired 14 = .ok (.invokevirtual 74, 3) := by decide +kernel
theorem dX5_setsTired_17 : decode cX5_setsTired 17 = .ok (.istore 4, 2) := by decide +kernel
theorem dX5_setsTired_19 : decode cX5_setsTired 19 = .ok (.aload_n 2, 1) := by decide +kernel
theorem dX5_setsTired_20 : decode cX5_setsTired 20 = .ok (.iload_n 3, 1) := by decide +kernel
theorem dX5_setsTired_21 : decode cX5_setsTired 21 = .ok (.invokevirtual 87, 3) := by decide +kernel
theorem dX5_setsTired_24 : decode cX5_setsTired 24 = .ok (.ifCond .eq 10, 3) := by decide +kernel
theorem dX5_setsTired_27 : decode cX5_setsTired 27 = .ok (.iload 4, 2) := by decide +kernel
theorem dX5_setsTired_29 : decode cX5_setsTired 29 = .ok (.bipush 30, 2) := by decide +kernel
theorem dX5_setsTired_31 : decode cX5_setsTired 31 = .ok (.if_icmp .le 5, 3) := by decide +kernel
theorem dX5_setsTired_34 : decode cX5_setsTired 34 = .ok (.iconst 0, 1) := by decide +kernel
theorem dX5_setsTired_35 : decode cX5_setsTired 35 = .ok (.ireturn, 1) := by decide +kernel
theorem dX5_setsTired_36 : decode cX5_setsTired 36 = .ok (.aload_n 2, 1) := by decide +kernel
theorem dX5_setsTired_37 : decode cX5_setsTired 37 = .ok (.getfield 98, 3) := by decide +kernel
theorem dX5_setsTired_40 : decode cX5_setsTired 40 = .ok (.iload_n 3, 1) := by decide +kernel
theorem dX5_setsTired_41 : decode cX5_setsTired 41 = .ok (.iload 4, 2) := by decide +kernel
theorem dX5_setsTired_43 : decode cX5_setsTired 43 = .ok (.iastore, 1) := by decide +kernel
theorem dX5_setsTired_44 : decode cX5_setsTired 44 = .ok (.iconst 1, 1) := by decide +kernel
theorem dX5_setsTired_45 : decode cX5_setsTired 45 = .ok (.ireturn, 1) := by decide +kernel
theorem dX5_handsOver_0 : decode cX5_handsOver 0 = .ok (.aload_n 0, 1) := by decide +kernel
theorem dX5_handsOver_1 : decode cX5_handsOver 1 = .ok (.iload_n 1, 1) := by decide +kernel
theorem dX5_handsOver_2 : decode cX5_handsOver 2 = .ok (.iconst 1, 1) := by decide +kernel
theorem dX5_handsOver_3 : decode cX5_handsOver 3 = .ok (.iadd, 1) := by decide +kernel
theorem dX5_handsOver_4 : decode cX5_handsOver 4 = .ok (.iconst 1, 1) := by decide +kernel
theorem dX5_handsOver_5 : decode cX5_handsOver 5 = .ok (.invokevirtual 74, 3) := by decide +kernel
theorem dX5_handsOver_8 : decode cX5_handsOver 8 = .ok (.istore_n 3, 1) := by decide +kernel
theorem dX5_handsOver_9 : decode cX5_handsOver 9 = .ok (.aload_n 0, 1) := by decide +kernel
theorem dX5_handsOver_10 : decode cX5_handsOver 10 = .ok (.iload_n 1, 1) := by decide +kernel
theorem dX5_handsOver_11 : decode cX5_handsOver 11 = .ok (.iconst 2, 1) := by decide +kernel
theorem dX5_handsOver_12 : decode cX5_handsOver 12 = .ok (.iadd, 1) := by decide +kernel
theorem dX5_handsOver_13 : decode cX5_handsOver 13 = .ok (.iconst 1, 1) := by decide +kernel
theorem dX5_handsOver_14 : decode cX5_handsOver 14 = .ok (.invokevirtual 74, 3) := by decide +kernel
theorem dX5_handsOver_17 : decode cX5_handsOver 17 = .ok (.istore 4, 2) := by decide +kernel
theorem dX5_handsOver_19 : decode cX5_handsOver 19 = .ok (.aload_n 0, 1) := by decide +kernel
theorem dX5_handsOver_20 : decode cX5_handsOver 20 = .ok (.iload_n 1, 1) := by decide +kernel
theorem dX5_handsOver_21 : decode cX5_handsOver 21 = .ok (.iconst 3, 1) := by decide +kernel
theorem dX5_handsOver_22 : decode cX5_handsOver 22 = .ok (.iadd, 1) := by decide +kernel
theorem dX5_handsOver_23 : decode cX5_handsOver 23 = .ok (.iconst 1, 1) := by decide +kernel
theorem dX5_handsOver_24 : decode cX5_handsOver 24 = .ok (.invokevirtual 74, 3) := by decide +kernel
theorem dX5_handsOver_27 : decode cX5_handsOver 27 = .ok (.istore 5, 2) := by decide +kernel
theorem dX5_handsOver_29 : decode cX5_handsOver 29 = .ok (.aload_n 2, 1) := by decide +kernel
theorem dX5_handsOver_30 : decode cX5_handsOver 30 = .ok (.iload_n 3, 1) := by decide +kernel
theorem dX5_handsOver_31 : decode cX5_handsOver 31 = .ok (.invokevirtual 87, 3) := by decide +kernel
theorem dX5_handsOver_34 : decode cX5_handsOver 34 = .ok (.ifCond .eq 26, 3) := by decide +kernel
theorem dX5_handsOver_37 : decode cX5_handsOver 37 = .ok (.aload_n 2, 1) := by decide +kernel
theorem dX5_handsOver_38 : decode cX5_handsOver 38 = .ok (.iload 4, 2) := by decide +kernel
theorem dX5_handsOver_40 : decode cX5_handsOver 40 = .ok (.invokevirtual 87, 3) := by decide +kernel
theorem dX5_handsOver_43 : decode cX5_handsOver 43 = .ok (.ifCond .eq 17, 3) := by decide +kernel
theorem dX5_handsOver_46 : decode cX5_handsOver 46 = .ok (.iload_n 3, 1) := by decide +kernel
theorem dX5_handsOver_47 : decode cX5_handsOver 47 = .ok (.iload 4, 2) := by decide +kernel
theorem dX5_handsOver_49 : decode cX5_handsOver 49 = .ok (.if_icmp .eq 11, 3) := by decide +kernel
theorem dX5_handsOver_52 : decode cX5_handsOver 52 = .ok (.iload 5, 2) := by decide +kernel
theorem dX5_handsOver_54 : decode cX5_handsOver 54 = .ok (.invokestatic 91, 3) := by decide +kernel
theorem dX5_handsOver_57 : decode cX5_handsOver 57 = .ok (.ifCond .ne 5, 3) := by decide +kernel
theorem dX5_handsOver_60 : decode cX5_handsOver 60 = .ok (.iconst 0, 1) := by decide +kernel
theorem dX5_handsOver_61 : decode cX5_handsOver 61 = .ok (.ireturn, 1) := by decide +kernel
theorem dX5_handsOver_62 : decode cX5_handsOver 62 = .ok (.aload_n 2, 1) := by decide +kernel
theorem dX5_handsOver_63 : decode cX5_handsOver 63 = .ok (.iload_n 3, 1) := by decide +kernel
theorem dX5_handsOver_64 : decode cX5_handsOver 64 = .ok (.iload 4, 2) := by decide +kernel
theorem dX5_handsOver_66 : decode cX5_handsOver 66 = .ok (.iload 5, 2) := by decide +kernel
theorem dX5_handsOver_68 : decode cX5_handsOver 68 = .ok (.invokevirtual 102, 3) := by decide +kernel
theorem dX5_handsOver_71 : decode cX5_handsOver 71 = .ok (.ifCond .ne 5, 3) := by decide +kernel
theorem dX5_handsOver_74 : decode cX5_handsOver 74 = .ok (.iconst 0, 1) := by decide +kernel
theorem dX5_handsOver_75 : decode cX5_handsOver 75 = .ok (.ireturn, 1) := by decide +kernel
theorem dX5_handsOver_76 : decode cX5_handsOver 76 = .ok (.aload_n 2, 1) := by decide +kernel
theorem dX5_handsOver_77 : decode cX5_handsOver 77 = .ok (.iload_n 3, 1) := by decide +kernel
theorem dX5_handsOver_78 : decode cX5_handsOver 78 = .ok (.iload 4, 2) := by decide +kernel
theorem dX5_handsOver_80 : decode cX5_handsOver 80 = .ok (.iload 5, 2) := by decide +kernel
theorem dX5_handsOver_82 : decode cX5_handsOver 82 = .ok (.invokevirtual 106, 3) := by decide +kernel
theorem dX5_handsOver_85 : decode cX5_handsOver 85 = .ok (.iconst 1, 1) := by decide +kernel
theorem dX5_handsOver_86 : decode cX5_handsOver 86 = .ok (.ireturn, 1) := by decide +kernel
theorem dX5_letsPass_0 : decode cX5_letsPass 0 = .ok (.aload_n 0, 1) := by decide +kernel
theorem dX5_letsPass_1 : decode cX5_letsPass 1 = .ok (.iload_n 1, 1) := by decide +kernel
theorem dX5_letsPass_2 : decode cX5_letsPass 2 = .ok (.iconst 1, 1) := by decide +kernel
theorem dX5_letsPass_3 : decode cX5_letsPass 3 = .ok (.iadd, 1) := by decide +kernel
theorem dX5_letsPass_4 : decode cX5_letsPass 4 = .ok (.iconst 2, 1) := by decide +kernel
theorem dX5_letsPass_5 : decode cX5_letsPass 5 = .ok (.invokevirtual 74, 3) := by decide +kernel
theorem dX5_letsPass_8 : decode cX5_letsPass 8 = .ok (.istore_n 3, 1) := by decide +kernel
theorem dX5_letsPass_9 : decode cX5_letsPass 9 = .ok (.iload_n 3, 1) := by decide +kernel
theorem dX5_letsPass_10 : decode cX5_letsPass 10 = .ok (.iconst 1, 1) := by decide +kernel
theorem dX5_letsPass_11 : decode cX5_letsPass 11 = .ok (.if_icmp .lt 21, 3) := by decide +kernel
theorem dX5_letsPass_14 : decode cX5_letsPass 14 = .ok (.iload_n 3, 1) := by decide +kernel
theorem dX5_letsPass_15 : decode cX5_letsPass 15 = .ok (.bipush 60, 2) := by decide +kernel
theorem dX5_letsPass_17 : decode cX5_letsPass 17 = .ok (.if_icmp .gt 15, 3) := by decide +kernel
theorem dX5_letsPass_20 : decode cX5_letsPass 20 = .ok (.aload_n 2, 1) := by decide +kernel
theorem dX5_letsPass_21 : decode cX5_letsPass 21 = .ok (.getfield 109, 3) := by decide +kernel
theorem dX5_letsPass_24 : decode cX5_letsPass 24 = .ok (.iload_n 3, 1) := by decide +kernel
theorem dX5_letsPass_25 : decode cX5_letsPass 25 = .ok (.iadd, 1) := by decide +kernel
theorem dX5_letsPass_26 : decode cX5_letsPass 26 = .ok (.sipush 999, 3) := by decide +kernel
theorem dX5_letsPass_29 : decode cX5_letsPass 29 = .ok (.if_icmp .le 5, 3) := by decide +kernel
theorem dX5_letsPass_32 : decode cX5_letsPass 32 = .ok (.iconst 0, 1) := by decide +kernel
theorem dX5_letsPass_33 : decode cX5_letsPass 33 = .ok (.ireturn, 1) := by decide +kernel
theorem dX5_letsPass_34 : decode cX5_letsPass 34 = .ok (.aload_n 2, 1) := by decide +kernel
theorem dX5_letsPass_35 : decode cX5_letsPass 35 = .ok (.iload_n 3, 1) := by decide +kernel
theorem dX5_letsPass_36 : decode cX5_letsPass 36 = .ok (.iconst 0, 1) := by decide +kernel
theorem dX5_letsPass_37 : decode cX5_letsPass 37 = .ok (.invokevirtual 112, 3) := by decide +kernel
theorem dX5_letsPass_40 : decode cX5_letsPass 40 = .ok (.pop, 1) := by decide +kernel
theorem dX5_letsPass_41 : decode cX5_letsPass 41 = .ok (.iconst 1, 1) := by decide +kernel
theorem dX5_letsPass_42 : decode cX5_letsPass 42 = .ok (.ireturn, 1) := by decide +kernel
theorem dX6_init_0 : decode cX6_init 0 = .ok (.aload_n 0, 1) := by decide +kernel
theorem dX6_init_1 : decode cX6_init 1 = .ok (.invokespecial 1, 3) := by decide +kernel
theorem dX6_init_4 : decode cX6_init 4 = .ok (.return_, 1) := by decide +kernel
theorem dX6_chooseWeekday_0 : decode cX6_chooseWeekday 0 = .ok (.bipush 31, 2) := by decide +kernel
theorem dX6_chooseWeekday_2 : decode cX6_chooseWeekday 2 = .ok (.iload_n 1, 1) := by decide +kernel
theorem dX6_chooseWeekday_3 : decode cX6_chooseWeekday 3 = .ok (.invokestatic 7, 3) := by decide +kernel
theorem dX6_chooseWeekday_6 : decode cX6_chooseWeekday 6 = .ok (.isub, 1) := by decide +kernel
theorem dX6_chooseWeekday_7 : decode cX6_chooseWeekday 7 = .ok (.ireturn, 1) := by decide +kernel
theorem dX7_init_0 : decode cX7_init 0 = .ok (.aload_n 0, 1) := by decide +kernel
theorem dX7_init_1 : decode cX7_init 1 = .ok (.invokespecial 3, 3) := by decide +kernel
theorem dX7_init_4 : decode cX7_init 4 = .ok (.return_, 1) := by decide +kernel
theorem dX7_dueAfter_0 : decode cX7_dueAfter 0 = .ok (.iload_n 1, 1) := by decide +kernel
theorem dX7_dueAfter_1 : decode cX7_dueAfter 1 = .ok (.iconst 3, 1) := by decide +kernel
theorem dX7_dueAfter_2 : decode cX7_dueAfter 2 = .ok (.idiv, 1) := by decide +kernel
theorem dX7_dueAfter_3 : decode cX7_dueAfter 3 = .ok (.iconst 1, 1) := by decide +kernel
theorem dX7_dueAfter_4 : decode cX7_dueAfter 4 = .ok (.iadd, 1) := by decide +kernel
theorem dX7_dueAfter_5 : decode cX7_dueAfter 5 = .ok (.ireturn, 1) := by decide +kernel
theorem dX7_choosePayer_0 : decode cX7_choosePayer 0 = .ok (.iconst 1, 1) := by decide +kernel
theorem dX7_choosePayer_1 : decode cX7_choosePayer 1 = .ok (.istore_n 3, 1) := by decide +kernel
theorem dX7_choosePayer_2 : decode cX7_choosePayer 2 = .ok (.iload_n 3, 1) := by decide +kernel
theorem dX7_choosePayer_3 : decode cX7_choosePayer 3 = .ok (.aload_n 1, 1) := by decide +kernel
theorem dX7_choosePayer_4 : decode cX7_choosePayer 4 = .ok (.getfield 9, 3) := by decide +kernel
theorem dX7_choosePayer_7 : decode cX7_choosePayer 7 = .ok (.if_icmp .ge 32, 3) := by decide +kernel
theorem dX7_choosePayer_10 : decode cX7_choosePayer 10 = .ok (.iload_n 2, 1) := by decide +kernel
theorem dX7_choosePayer_11 : decode cX7_choosePayer 11 = .ok (.iload_n 3, 1) := by decide +kernel
theorem dX7_choosePayer_12 : decode cX7_choosePayer 12 = .ok (.iadd, 1) := by decide +kernel
theorem dX7_choosePayer_13 : decode cX7_choosePayer 13 = .ok (.aload_n 1, 1) := by decide +kernel
theorem dX7_choosePayer_14 : decode cX7_choosePayer 14 = .ok (.getfield 9, 3) := by decide +kernel
theorem dX7_choosePayer_17 : decode cX7_choosePayer 17 = .ok (.irem, 1) := by decide +kernel
theorem dX7_choosePayer_18 : decode cX7_choosePayer 18 = .ok (.istore 4, 2) := by decide +kernel
theorem dX7_choosePayer_20 : decode cX7_choosePayer 20 = .ok (.aload_n 1, 1) := by decide +kernel
theorem dX7_choosePayer_21 : decode cX7_choosePayer 21 = .ok (.iload 4, 2) := by decide +kernel
theorem dX7_choosePayer_23 : decode cX7_choosePayer 23 = .ok (.iload_n 2, 1) := by decide +kernel
theorem dX7_choosePayer_24 : decode cX7_choosePayer 24 = .ok (.invokevirtual 15, 3) := by decide +kernel
theorem dX7_choosePayer_27 : decode cX7_choosePayer 27 = .ok (.ifCond .eq 6, 3) := by decide +kernel
theorem dX7_choosePayer_30 : decode cX7_choosePayer 30 = .ok (.iload 4, 2) := by decide +kernel
theorem dX7_choosePayer_32 : decode cX7_choosePayer 32 = .ok (.ireturn, 1) := by decide +kernel
theorem dX7_choosePayer_33 : decode cX7_choosePayer 33 = .ok (.iinc 3 1, 3) := by decide +kernel
theorem dX7_choosePayer_36 : decode cX7_choosePayer 36 = .ok (.goto (-34), 3) := by decide +kernel
theorem dX7_choosePayer_39 : decode cX7_choosePayer 39 = .ok (.bipush (-9), 2) := by decide +kernel
theorem dX7_choosePayer_41 : decode cX7_choosePayer 41 = .ok (.ireturn, 1) := by decide +kernel
theorem dX7_chooseWeekday_0 : decode cX7_chooseWeekday 0 = .ok (.iload_n 1, 1) := by decide +kernel
theorem dX7_chooseWeekday_1 : decode cX7_chooseWeekday 1 = .ok (.invokestatic 19, 3) := by decide +kernel
theorem dX7_chooseWeekday_4 : decode cX7_chooseWeekday 4 = .ok (.ireturn, 1) := by decide +kernel
theorem dX8_init_0 : decode cX8_init 0 = .ok (.aload_n 0, 1) := by decide +kernel
theorem dX8_init_1 : decode cX8_init 1 = .ok (.invokespecial 1, 3) := by decide +kernel
theorem dX8_init_4 : decode cX8_init 4 = .ok (.aload_n 0, 1) := by decide +kernel
theorem dX8_init_5 : decode cX8_init 5 = .ok (.new 7, 3) := by decide +kernel
theorem dX8_init_8 : decode cX8_init 8 = .ok (.dup, 1) := by decide +kernel
theorem dX8_init_9 : decode cX8_init 9 = .ok (.invokespecial 9, 3) := by decide +kernel
theorem dX8_init_12 : decode cX8_init 12 = .ok (.putfield 10, 3) := by decide +kernel
theorem dX8_init_15 : decode cX8_init 15 = .ok (.aload_n 0, 1) := by decide +kernel
theorem dX8_init_16 : decode cX8_init 16 = .ok (.new 7, 3) := by decide +kernel
theorem dX8_init_19 : decode cX8_init 19 = .ok (.dup, 1) := by decide +kernel
theorem dX8_init_20 : decode cX8_init 20 = .ok (.invokespecial 9, 3) := by decide +kernel
theorem dX8_init_23 : decode cX8_init 23 = .ok (.putfield 16, 3) := by decide +kernel
theorem dX8_init_26 : decode cX8_init 26 = .ok (.aload_n 0, 1) := by decide +kernel
theorem dX8_init_27 : decode cX8_init 27 = .ok (.new 7, 3) := by decide +kernel
theorem dX8_init_30 : decode cX8_init 30 = .ok (.dup, 1) := by decide +kernel
theorem dX8_init_31 : decode cX8_init 31 = .ok (.invokespecial 9, 3) := by decide +kernel
theorem dX8_init_34 : decode cX8_init 34 = .ok (.putfield 19, 3) := by decide +kernel
theorem dX8_init_37 : decode cX8_init 37 = .ok (.aload_n 0, 1) := by decide +kernel
theorem dX8_init_38 : decode cX8_init 38 = .ok (.iconst 0, 1) := by decide +kernel
theorem dX8_init_39 : decode cX8_init 39 = .ok (.putfield 22, 3) := by decide +kernel
theorem dX8_init_42 : decode cX8_init 42 = .ok (.aload_n 0, 1) := by decide +kernel
theorem dX8_init_43 : decode cX8_init 43 = .ok (.new 26, 3) := by decide +kernel
theorem dX8_init_46 : decode cX8_init 46 = .ok (.dup, 1) := by decide +kernel
theorem dX8_init_47 : decode cX8_init 47 = .ok (.invokespecial 28, 3) := by decide +kernel
theorem dX8_init_50 : decode cX8_init 50 = .ok (.putfield 29, 3) := by decide +kernel
theorem dX8_init_53 : decode cX8_init 53 = .ok (.aload_n 0, 1) := by decide +kernel
theorem dX8_init_54 : decode cX8_init 54 = .ok (.bipush 16, 2) := by decide +kernel
theorem dX8_init_56 : decode cX8_init 56 = .ok (.newarray .int, 2) := by decide +kernel
theorem dX8_init_58 : decode cX8_init 58 = .ok (.putfield 33, 3) := by decide +kernel
theorem dX8_init_61 : decode cX8_init 61 = .ok (.aload_n 0, 1) := by decide +kernel
theorem dX8_init_62 : decode cX8_init 62 = .ok (.iconst 0, 1) := by decide +kernel
theorem dX8_init_63 : decode cX8_init 63 = .ok (.putfield 37, 3) := by decide +kernel
theorem dX8_init_66 : decode cX8_init 66 = .ok (.aload_n 0, 1) := by decide +kernel
theorem dX8_init_67 : decode cX8_init 67 = .ok (.bipush 7, 2) := by decide +kernel
theorem dX8_init_69 : decode cX8_init 69 = .ok (.newarray .int, 2) := by decide +kernel
theorem dX8_init_71 : decode cX8_init 71 = .ok (.putfield 41, 3) := by decide +kernel
theorem dX8_init_74 : decode cX8_init 74 = .ok (.return_, 1) := by decide +kernel
theorem dX8_letter_0 : decode cX8_letter 0 = .ok (.iload_n 1, 1) := by decide +kernel
theorem dX8_letter_1 : decode cX8_letter 1 = .ok (.iconst 0, 1) := by decide +kernel
theorem dX8_letter_2 : decode cX8_letter 2 = .ok (.sipush 255, 3) := by decide +kernel
theorem dX8_letter_5 : decode cX8_letter 5 = .ok (.invokestatic 44, 3) := by decide +kernel
theorem dX8_letter_8 : decode cX8_letter 8 = .ok (.istore_n 2, 1) := by decide +kernel
theorem dX8_letter_9 : decode cX8_letter 9 = .ok (.iload_n 2, 1) := by decide +kernel
theorem dX8_letter_10 : decode cX8_letter 10 = .ok (.ifCond .ne 16, 3) := by decide +kernel
theorem dX8_letter_13 : decode cX8_letter 13 = .ok (.aload_n 0, 1) := by decide +kernel
theorem dX8_letter_14 : decode cX8_letter 14 = .ok (.getfield 29, 3) := by decide +kernel
theorem dX8_letter_17 : decode cX8_letter 17 = .ok (.invokevirtual 48, 3) := by decide +kernel
theorem dX8_letter_20 : decode cX8_letter 20 = .ok (.ifCond .eq 6, 3) := by decide +kernel
theorem dX8_letter_23 : decode cX8_letter 23 = .ok (.bipush (-6), 2) := by decide +kernel
theorem dX8_letter_25 : decode cX8_letter 25 = .ok (.istore_n 2, 1) := by decide +kernel
theorem dX8_letter_26 : decode cX8_letter 26 = .ok (.iload_n 2, 1) := by decide +kernel
theorem dX8_letter_27 : decode cX8_letter 27 = .ok (.ifCond .eq 9, 3) := by decide +kernel
theorem dX8_letter_30 : decode cX8_letter 30 = .ok (.aload_n 0, 1) := by decide +kernel
theorem dX8_letter_31 : decode cX8_letter 31 = .ok (.iload_n 2, 1) := by decide +kernel
theorem dX8_letter_32 : decode cX8_letter 32 = .ok (.invokevirtual 52, 3) := by decide +kernel
theorem dX8_letter_35 : decode cX8_letter 35 = .ok (.ireturn, 1) := by decide +kernel
theorem dX8_letter_36 : decode cX8_letter 36 = .ok (.aload_n 0, 1) := by decide +kernel
theorem dX8_letter_37 : decode cX8_letter 37 = .ok (.getfield 29, 3) := by decide +kernel
theorem dX8_letter_40 : decode cX8_letter 40 = .ok (.iload_n 1, 1) := by decide +kernel
theorem dX8_letter_41 : decode cX8_letter 41 = .ok (.i2c, 1) := by decide +kernel
theorem dX8_letter_42 : decode cX8_letter 42 = .ok (.invokevirtual 56, 3) := by decide +kernel
theorem dX8_letter_45 : decode cX8_letter 45 = .ok (.aload_n 0, 1) := by decide +kernel
theorem dX8_letter_46 : decode cX8_letter 46 = .ok (.getfield 29, 3) := by decide +kernel
theorem dX8_letter_49 : decode cX8_letter 49 = .ok (.getfield 60, 3) := by decide +kernel
theorem dX8_letter_52 : decode cX8_letter 52 = .ok (.ireturn, 1) := by decide +kernel
theorem dX8_works_0 : decode cX8_works 0 = .ok (.aload_n 0, 1) := by decide +kernel
theorem dX8_works_1 : decode cX8_works 1 = .ok (.getfield 16, 3) := by decide +kernel
theorem dX8_works_4 : decode cX8_works 4 = .ok (.aload_n 0, 1) := by decide +kernel
theorem dX8_works_5 : decode cX8_works 5 = .ok (.getfield 10, 3) := by decide +kernel
theorem dX8_works_8 : decode cX8_works 8 = .ok (.invokevirtual 63, 3) := by decide +kernel
theorem dX8_works_11 : decode cX8_works 11 = .ok (.aload_n 0, 1) := by decide +kernel
theorem dX8_works_12 : decode cX8_works 12 = .ok (.getfield 29, 3) := by decide +kernel
theorem dX8_works_15 : decode cX8_works 15 = .ok (.invokevirtual 67, 3) := by decide +kernel
theorem dX8_works_18 : decode cX8_works 18 = .ok (.istore_n 1, 1) := by decide +kernel
theorem dX8_works_19 : decode cX8_works 19 = .ok (.iload_n 1, 1) := by decide +kernel
theorem dX8_works_20 : decode cX8_works 20 = .ok (.bipush (-9), 2) := by decide +kernel
theorem dX8_works_22 : decode cX8_works 22 = .ok (.if_icmp .ne 7, 3) := by decide +kernel
theorem dX8_works_25 : decode cX8_works 25 = .ok (.iconst 0, 1) := by decide +kernel
theorem dX8_works_26 : decode cX8_works 26 = .ok (.goto 8, 3) := by decide +kernel
theorem dX8_works_29 : decode cX8_works 29 = .ok (.sipush (-1000), 3) := by decide +kernel
theorem dX8_works_32 : decode cX8_works 32 = .ok (.iload_n 1, 1) := by decide +kernel
theorem dX8_works_33 : decode cX8_works 33 = .ok (.isub, 1) := by decide +kernel
theorem dX8_works_34 : decode cX8_works 34 = .ok (.istore_n 2, 1) := by decide +kernel
theorem dX8_works_35 : decode cX8_works 35 = .ok (.iconst 0, 1) := by decide +kernel
theorem dX8_works_36 : decode cX8_works 36 = .ok (.istore_n 3, 1) := by decide +kernel
theorem dX8_works_37 : decode cX8_works 37 = .ok (.iload_n 2, 1) := by decide +kernel
theorem dX8_works_38 : decode cX8_works 38 = .ok (.ifCond .lt 60, 3) := by decide +kernel
theorem dX8_works_41 : decode cX8_works 41 = .ok (.iload_n 3, 1) := by decide +kernel
theorem dX8_works_42 : decode cX8_works 42 = .ok (.aload_n 0, 1) := by decide +kernel
theorem dX8_works_43 : decode cX8_works 43 = .ok (.getfield 29, 3) := by decide +kernel
theorem dX8_works_46 : decode cX8_works 46 = .ok (.getfield 60, 3) := by decide +kernel
theorem dX8_works_49 : decode cX8_works 49 = .ok (.if_icmp .ge 49, 3) := by decide +kernel
theorem dX8_works_52 : decode cX8_works 52 = .ok (.aload_n 0, 1) := by decide +kernel
theorem dX8_works_53 : decode cX8_works 53 = .ok (.getfield 29, 3) := by decide +kernel
theorem dX8_works_56 : decode cX8_works 56 = .ok (.iload_n 3, 1) := by decide +kernel
theorem dX8_works_57 : decode cX8_works 57 = .ok (.aload_n 0, 1) := by decide +kernel
theorem dX8_works_58 : decode cX8_works 58 = .ok (.getfield 16, 3) := by decide +kernel
theorem dX8_works_61 : decode cX8_works 61 = .ok (.invokevirtual 71, 3) := by decide +kernel
theorem dX8_works_64 : decode cX8_works 64 = .ok (.ifCond .eq 9, 3) := by decide +kernel
theorem dX8_works_67 : decode cX8_works 67 = .ok (.iload_n 2, 1) := by decide +kernel
theorem dX8_works_68 : decode cX8_works 68 = .ok (.iconst 1, 1) := by decide +kernel
theorem dX8_works_69 : decode cX8_works 69 = .ok (.iadd, 1) := by decide +kernel
theorem dX8_works_70 : decode cX8_works 70 = .ok (.goto 8, 3) := by decide +kernel
theorem dX8_works_73 : decode cX8_works 73 = .ok (.sipush (-2000), 3) := by decide +kernel
theorem dX8_works_76 : decode cX8_works 76 = .ok (.iload_n 3, 1) := by decide +kernel
theorem dX8_works_77 : decode cX8_works 77 = .ok (.isub, 1) := by decide +kernel
theorem dX8_works_78 : decode cX8_works 78 = .ok (.istore_n 2, 1) := by decide +kernel
theorem dX8_works_79 : decode cX8_works 79 = .ok (.iload_n 3, 1) := by decide +kernel
theorem dX8_works_80 : decode cX8_works 80 = .ok (.iconst 1, 1) := by decide +kernel
theorem dX8_works_81 : decode cX8_works 81 = .ok (.aload_n 0, 1) := by decide +kernel
theorem dX8_works_82 : decode cX8_works 82 = .ok (.getfield 29, 3) := by decide +kernel
theorem dX8_works_85 : decode cX8_works 85 = .ok (.iload_n 3, 1) := by decide +kernel
theorem dX8_works_86 : decode cX8_works 86 = .ok (.invokevirtual 75, 3) := by decide +kernel
theorem dX8_works_89 : decode cX8_works 89 = .ok (.invokevirtual 79, 3) := by decide +kernel
theorem dX8_works_92 : decode cX8_works 92 = .ok (.iadd, 1) := by decide +kernel
theorem dX8_works_93 : decode cX8_works 93 = .ok (.iadd, 1) := by decide +kernel
theorem dX8_works_94 : decode cX8_works 94 = .ok (.istore_n 3, 1) := by decide +kernel
theorem dX8_works_95 : decode cX8_works 95 = .ok (.goto (-58), 3) := by decide +kernel
theorem dX8_works_98 : decode cX8_works 98 = .ok (.iload_n 2, 1) := by decide +kernel
theorem dX8_works_99 : decode cX8_works 99 = .ok (.ifCond .le 14, 3) := by decide +kernel
theorem dX8_works_102 : decode cX8_works 102 = .ok (.aload_n 0, 1) := by decide +kernel
theorem dX8_works_103 : decode cX8_works 103 = .ok (.getfield 10, 3) := by decide +kernel
theorem dX8_works_106 : decode cX8_works 106 = .ok (.aload_n 0, 1) := by decide +kernel
theorem dX8_works_107 : decode cX8_works 107 = .ok (.getfield 16, 3) := by decide +kernel
theorem dX8_works_110 : decode cX8_works 110 = .ok (.invokevirtual 63, 3) := by decide +kernel
theorem dX8_works_113 : decode cX8_works 113 = .ok (.aload_n 0, 1) := by decide +kernel
theorem dX8_works_114 : decode cX8_works 114 = .ok (.getfield 29, 3) := by decide +kernel
theorem dX8_works_117 : decode cX8_works 117 = .ok (.invokevirtual 84, 3) := by decide +kernel
theorem dX8_works_120 : decode cX8_works 120 = .ok (.iload_n 2, 1) := by decide +kernel
theorem dX8_works_121 : decode cX8_works 121 = .ok (.ireturn, 1) := by decide +kernel
theorem dX8_worker_0 : decode cX8_worker 0 = .ok (.aload_n 0, 1) := by decide +kernel
theorem dX8_worker_1 : decode cX8_worker 1 = .ok (.getfield 10, 3) := by decide +kernel
theorem dX8_worker_4 : decode cX8_worker 4 = .ok (.iload_n 1, 1) := by decide +kernel
theorem dX8_worker_5 : decode cX8_worker 5 = .ok (.invokevirtual 87, 3) := by decide +kernel
theorem dX8_worker_8 : decode cX8_worker 8 = .ok (.ifCond .ne 9, 3) := by decide +kernel
theorem dX8_worker_11 : decode cX8_worker 11 = .ok (.aload_n 0, 1) := by decide +kernel
theorem dX8_worker_12 : decode cX8_worker 12 = .ok (.iconst (-1), 1) := by decide +kernel
theorem dX8_worker_13 : decode cX8_worker 13 = .ok (.invokevirtual 52, 3) := by decide +kernel
theorem dX8_worker_16 : decode cX8_worker 16 = .ok (.ireturn, 1) := by decide +kernel
theorem dX8_worker_17 : decode cX8_worker 17 = .ok (.iload_n 2, 1) := by decide +kernel
theorem dX8_worker_18 : decode cX8_worker 18 = .ok (.tableswitch 109 0 5 #[38, 48, 58, 68, 78, 88], 38) := by decide +kernel
theorem dX8_worker_56 : decode cX8_worker 56 = .ok (.aload_n 0, 1) := by decide +kernel
theorem dX8_worker_57 : decode cX8_worker 57 = .ok (.getfield 10, 3) := by decide +kernel
theorem dX8_worker_60 : decode cX8_worker 60 = .ok (.getfield 91, 3) := by decide +kernel
theorem dX8_worker_63 : decode cX8_worker 63 = .ok (.iload_n 1, 1) := by decide +kernel
theorem dX8_worker_64 : decode cX8_worker 64 = .ok (.iaload, 1) := by decide +kernel
theorem dX8_worker_65 : decode cX8_worker 65 = .ok (.ireturn, 1) := by decide +kernel
theorem dX8_worker_66 : decode cX8_worker 66 = .ok (.aload_n 0, 1) := by decide +kernel
theorem dX8_worker_67 : decode cX8_worker 67 = .ok (.getfield 10, 3) := by decide +kernel
theorem dX8_worker_70 : decode cX8_worker 70 = .ok (.getfield 94, 3) := by decide +kernel
theorem dX8_worker_73 : decode cX8_worker 73 = .ok (.iload_n 1, 1) := by decide +kernel
theorem dX8_worker_74 : decode cX8_worker 74 = .ok (.iaload, 1) := by decide +kernel
theorem dX8_worker_75 : decode cX8_worker 75 = .ok (.ireturn, 1) := by decide +kernel
theorem dX8_worker_76 : decode cX8_worker 76 = .ok (.aload_n 0, 1) := by decide +kernel
theorem dX8_worker_77 : decode cX8_worker 77 = .ok (.getfield 10, 3) := by decide +kernel
theorem dX8_worker_80 : decode cX8_worker 80 = .ok (.getfield 97, 3) := by decide +kernel
theorem dX8_worker_83 : decode cX8_worker 83 = .ok (.iload_n 1, 1) := by decide +kernel
theorem dX8_worker_84 : decode cX8_worker 84 = .ok (.iaload, 1) := by decide +kernel
theorem dX8_worker_85 : decode cX8_worker 85 = .ok (.ireturn, 1) := by decide +kernel
theorem dX8_worker_86 : decode cX8_worker 86 = .ok (.aload_n 0, 1) := by decide +kernel
theorem dX8_worker_87 : decode cX8_worker 87 = .ok (.getfield 10, 3) := by decide +kernel
theorem dX8_worker_90 : decode cX8_worker 90 = .ok (.getfield 100, 3) := by decide +kernel
theorem dX8_worker_93 : decode cX8_worker 93 = .ok (.iload_n 1, 1) := by decide +kernel
theorem dX8_worker_94 : decode cX8_worker 94 = .ok (.iaload, 1) := by decide +kernel
theorem dX8_worker_95 : decode cX8_worker 95 = .ok (.ireturn, 1) := by decide +kernel
theorem dX8_worker_96 : decode cX8_worker 96 = .ok (.aload_n 0, 1) := by decide +kernel
theorem dX8_worker_97 : decode cX8_worker 97 = .ok (.getfield 10, 3) := by decide +kernel
theorem dX8_worker_100 : decode cX8_worker 100 = .ok (.getfield 103, 3) := by decide +kernel
theorem dX8_worker_103 : decode cX8_worker 103 = .ok (.iload_n 1, 1) := by decide +kernel
theorem dX8_worker_104 : decode cX8_worker 104 = .ok (.iaload, 1) := by decide +kernel
theorem dX8_worker_105 : decode cX8_worker 105 = .ok (.ireturn, 1) := by decide +kernel
theorem dX8_worker_106 : decode cX8_worker 106 = .ok (.aload_n 0, 1) := by decide +kernel
theorem dX8_worker_107 : decode cX8_worker 107 = .ok (.getfield 10, 3) := by decide +kernel
theorem dX8_worker_110 : decode cX8_worker 110 = .ok (.iload_n 1, 1) := by decide +kernel
theorem dX8_worker_111 : decode cX8_worker 111 = .ok (.invokevirtual 106, 3) := by decide +kernel
theorem dX8_worker_114 : decode cX8_worker 114 = .ok (.aload_n 0, 1) := by decide +kernel
theorem dX8_worker_115 : decode cX8_worker 115 = .ok (.getfield 10, 3) := by decide +kernel
theorem dX8_worker_118 : decode cX8_worker 118 = .ok (.getfield 94, 3) := by decide +kernel
theorem dX8_worker_121 : decode cX8_worker 121 = .ok (.iload_n 1, 1) := by decide +kernel
theorem dX8_worker_122 : decode cX8_worker 122 = .ok (.iaload, 1) := by decide +kernel
theorem dX8_worker_123 : decode cX8_worker 123 = .ok (.invokevirtual 110, 3) := by decide +kernel
theorem dX8_worker_126 : decode cX8_worker 126 = .ok (.ireturn, 1) := by decide +kernel
theorem dX8_worker_127 : decode cX8_worker 127 = .ok (.aload_n 0, 1) := by decide +kernel
theorem dX8_worker_128 : decode cX8_worker 128 = .ok (.bipush (-2), 2) := by decide +kernel
theorem dX8_worker_130 : decode cX8_worker 130 = .ok (.invokevirtual 52, 3) := by decide +kernel
theorem dX8_worker_133 : decode cX8_worker 133 = .ok (.ireturn, 1) := by decide +kernel
theorem dX8_from_0 : decode cX8_from 0 = .ok (.aload_n 0, 1) := by decide +kernel
