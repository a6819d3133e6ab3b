theorem dX7_init_0 : decode cX7_init 0 = .ok (.aload_n 0, 1) := by decide +kernel
theorem dX7_init_1 : decode cX7_init 1 = .ok (.invokespecial 1, 3) := by decide +kernel
theorem dX7_init_4 : decode cX7_init 4 = .ok (.aload_n 0, 1) := by decide +kernel
theorem dX7_init_5 : decode cX7_init 5 = .ok (.sipush 236, 3) := by decide +kernel
theorem dX7_init_8 : decode cX7_init 8 = .ok (.newarray .int, 2) := by decide +kernel
theorem dX7_init_10 : decode cX7_init 10 = .ok (.putfield 7, 3) := by decide +kernel
theorem dX7_init_13 : decode cX7_init 13 = .ok (.aload_n 0, 1) := by decide +kernel
theorem dX7_init_14 : decode cX7_init 14 = .ok (.sipush 1416, 3) := by decide +kernel
theorem dX7_init_17 : decode cX7_init 17 = .ok (.newarray .int, 2) := by decide +kernel
theorem dX7_init_19 : decode cX7_init 19 = .ok (.putfield 13, 3) := by decide +kernel
theorem dX7_init_22 : decode cX7_init 22 = .ok (.aload_n 0, 1) := by decide +kernel
theorem dX7_init_23 : decode cX7_init 23 = .ok (.sipush 472, 3) := by decide +kernel
theorem dX7_init_26 : decode cX7_init 26 = .ok (.newarray .int, 2) := by decide +kernel
theorem dX7_init_28 : decode cX7_init 28 = .ok (.putfield 16, 3) := by decide +kernel
theorem dX7_init_31 : decode cX7_init 31 = .ok (.aload_n 0, 1) := by decide +kernel
theorem dX7_init_32 : decode cX7_init 32 = .ok (.iconst 2, 1) := by decide +kernel
theorem dX7_init_33 : decode cX7_init 33 = .ok (.newarray .int, 2) := by decide +kernel
theorem dX7_init_35 : decode cX7_init 35 = .ok (.putfield 19, 3) := by decide +kernel
theorem dX7_init_38 : decode cX7_init 38 = .ok (.aload_n 0, 1) := by decide +kernel
theorem dX7_init_39 : decode cX7_init 39 = .ok (.bipush 80, 2) := by decide +kernel
theorem dX7_init_41 : decode cX7_init 41 = .ok (.newarray .int, 2) := by decide +kernel
theorem dX7_init_43 : decode cX7_init 43 = .ok (.putfield 22, 3) := by decide +kernel
theorem dX7_init_46 : decode cX7_init 46 = .ok (.aload_n 0, 1) := by decide +kernel
theorem dX7_init_47 : decode cX7_init 47 = .ok (.bipush 14, 2) := by decide +kernel
theorem dX7_init_49 : decode cX7_init 49 = .ok (.newarray .int, 2) := by decide +kernel
theorem dX7_init_51 : decode cX7_init 51 = .ok (.putfield 25, 3) := by decide +kernel
theorem dX7_init_54 : decode cX7_init 54 = .ok (.aload_n 0, 1) := by decide +kernel
theorem dX7_init_55 : decode cX7_init 55 = .ok (.bipush 28, 2) := by decide +kernel
theorem dX7_init_57 : decode cX7_init 57 = .ok (.newarray .int, 2) := by decide +kernel
theorem dX7_init_59 : decode cX7_init 59 = .ok (.putfield 28, 3) := by decide +kernel
theorem dX7_init_62 : decode cX7_init 62 = .ok (.aload_n 0, 1) := by decide +kernel
theorem dX7_init_63 : decode cX7_init 63 = .ok (.getfield 7, 3) := by decide +kernel
theorem dX7_init_66 : decode cX7_init 66 = .ok (.iconst 0, 1) := by decide +kernel
theorem dX7_init_67 : decode cX7_init 67 = .ok (.iconst 4, 1) := by decide +kernel
theorem dX7_init_68 : decode cX7_init 68 = .ok (.iastore, 1) := by decide +kernel
theorem dX7_init_69 : decode cX7_init 69 = .ok (.aload_n 0, 1) := by decide +kernel
theorem dX7_init_70 : decode cX7_init 70 = .ok (.getfield 7, 3) := by decide +kernel
theorem dX7_init_73 : decode cX7_init 73 = .ok (.iconst 1, 1) := by decide +kernel
theorem dX7_init_74 : decode cX7_init 74 = .ok (.bipush 10, 2) := by decide +kernel
theorem dX7_init_76 : decode cX7_init 76 = .ok (.iastore, 1) := by decide +kernel
theorem dX7_init_77 : decode cX7_init 77 = .ok (.aload_n 0, 1) := by decide +kernel
theorem dX7_init_78 : decode cX7_init 78 = .ok (.getfield 7, 3) := by decide +kernel
theorem dX7_init_81 : decode cX7_init 81 = .ok (.iconst 2, 1) := by decide +kernel
theorem dX7_init_82 : decode cX7_init 82 = .ok (.bipush 50, 2) := by decide +kernel
theorem dX7_init_84 : decode cX7_init 84 = .ok (.iastore, 1) := by decide +kernel
theorem dX7_init_85 : decode cX7_init 85 = .ok (.return_, 1) := by decide +kernel
theorem dX7_moves_0 : decode cX7_moves 0 = .ok (.iconst 0, 1) := by decide +kernel
theorem dX7_moves_1 : decode cX7_moves 1 = .ok (.istore 4, 2) := by decide +kernel
theorem dX7_moves_3 : decode cX7_moves 3 = .ok (.iload 4, 2) := by decide +kernel
theorem dX7_moves_5 : decode cX7_moves 5 = .ok (.sipush 236, 3) := by decide +kernel
theorem dX7_moves_8 : decode cX7_moves 8 = .ok (.if_icmp .ge 21, 3) := by decide +kernel
theorem dX7_moves_11 : decode cX7_moves 11 = .ok (.aload_n 2, 1) := by decide +kernel
theorem dX7_moves_12 : decode cX7_moves 12 = .ok (.iload_n 3, 1) := by decide +kernel
theorem dX7_moves_13 : decode cX7_moves 13 = .ok (.iload 4, 2) := by decide +kernel
theorem dX7_moves_15 : decode cX7_moves 15 = .ok (.iadd, 1) := by decide +kernel
theorem dX7_moves_16 : decode cX7_moves 16 = .ok (.aload_n 0, 1) := by decide +kernel
theorem dX7_moves_17 : decode cX7_moves 17 = .ok (.iload_n 1, 1) := by decide +kernel
theorem dX7_moves_18 : decode cX7_moves 18 = .ok (.iload 4, 2) := by decide +kernel
theorem dX7_moves_20 : decode cX7_moves 20 = .ok (.iadd, 1) := by decide +kernel
theorem dX7_moves_21 : decode cX7_moves 21 = .ok (.iaload, 1) := by decide +kernel
theorem dX7_moves_22 : decode cX7_moves 22 = .ok (.iastore, 1) := by decide +kernel
theorem dX7_moves_23 : decode cX7_moves 23 = .ok (.iinc 4 1, 3) := by decide +kernel
theorem dX7_moves_26 : decode cX7_moves 26 = .ok (.goto (-23), 3) := by decide +kernel
theorem dX7_moves_29 : decode cX7_moves 29 = .ok (.return_, 1) := by decide +kernel
theorem dX7_within_0 : decode cX7_within 0 = .ok (.iload_n 0, 1) := by decide +kernel
theorem dX7_within_1 : decode cX7_within 1 = .ok (.iload_n 1, 1) := by decide +kernel
theorem dX7_within_2 : decode cX7_within 2 = .ok (.if_icmp .lt 12, 3) := by decide +kernel
theorem dX7_within_5 : decode cX7_within 5 = .ok (.iload_n 0, 1) := by decide +kernel
theorem dX7_within_6 : decode cX7_within 6 = .ok (.iload_n 2, 1) := by decide +kernel
theorem dX7_within_7 : decode cX7_within 7 = .ok (.if_icmp .gt 7, 3) := by decide +kernel
theorem dX7_within_10 : decode cX7_within 10 = .ok (.iconst 1, 1) := by decide +kernel
theorem dX7_within_11 : decode cX7_within 11 = .ok (.goto 4, 3) := by decide +kernel
theorem dX7_within_14 : decode cX7_within 14 = .ok (.iconst 0, 1) := by decide +kernel
theorem dX7_within_15 : decode cX7_within 15 = .ok (.ireturn, 1) := by decide +kernel
theorem dX7_size_0 : decode cX7_size 0 = .ok (.iload_n 0, 1) := by decide +kernel
theorem dX7_size_1 : decode cX7_size 1 = .ok (.ifCond .ge 8, 3) := by decide +kernel
theorem dX7_size_4 : decode cX7_size 4 = .ok (.iload_n 0, 1) := by decide +kernel
theorem dX7_size_5 : decode cX7_size 5 = .ok (.ineg, 1) := by decide +kernel
theorem dX7_size_6 : decode cX7_size 6 = .ok (.goto 4, 3) := by decide +kernel
theorem dX7_size_9 : decode cX7_size 9 = .ok (.iload_n 0, 1) := by decide +kernel
theorem dX7_size_10 : decode cX7_size 10 = .ok (.ireturn, 1) := by decide +kernel
theorem dX7_rounded_0 : decode cX7_rounded 0 = .ok (.iload_n 0, 1) := by decide +kernel
theorem dX7_rounded_1 : decode cX7_rounded 1 = .ok (.iload_n 1, 1) := by decide +kernel
theorem dX7_rounded_2 : decode cX7_rounded 2 = .ok (.idiv, 1) := by decide +kernel
theorem dX7_rounded_3 : decode cX7_rounded 3 = .ok (.iload_n 0, 1) := by decide +kernel
theorem dX7_rounded_4 : decode cX7_rounded 4 = .ok (.iload_n 1, 1) := by decide +kernel
theorem dX7_rounded_5 : decode cX7_rounded 5 = .ok (.irem, 1) := by decide +kernel
theorem dX7_rounded_6 : decode cX7_rounded 6 = .ok (.iload_n 1, 1) := by decide +kernel
theorem dX7_rounded_7 : decode cX7_rounded 7 = .ok (.iload_n 0, 1) := by decide +kernel
theorem dX7_rounded_8 : decode cX7_rounded 8 = .ok (.iload_n 1, 1) := by decide +kernel
theorem dX7_rounded_9 : decode cX7_rounded 9 = .ok (.irem, 1) := by decide +kernel
theorem dX7_rounded_10 : decode cX7_rounded 10 = .ok (.isub, 1) := by decide +kernel
theorem dX7_rounded_11 : decode cX7_rounded 11 = .ok (.if_icmp .lt 7, 3) := by decide +kernel
theorem dX7_rounded_14 : decode cX7_rounded 14 = .ok (.iconst 1, 1) := by decide +kernel
theorem dX7_rounded_15 : decode cX7_rounded 15 = .ok (.goto 4, 3) := by decide +kernel
theorem dX7_rounded_18 : decode cX7_rounded 18 = .ok (.iconst 0, 1) := by decide +kernel
theorem dX7_rounded_19 : decode cX7_rounded 19 = .ok (.iadd, 1) := by decide +kernel
theorem dX7_rounded_20 : decode cX7_rounded 20 = .ok (.ireturn, 1) := by decide +kernel
theorem dX7_record_0 : decode cX7_record 0 = .ok (.aload_n 0, 1) := by decide +kernel
theorem dX7_record_1 : decode cX7_record 1 = .ok (.getfield 31, 3) := by decide +kernel
theorem dX7_record_4 : decode cX7_record 4 = .ok (.bipush 6, 2) := by decide +kernel
theorem dX7_record_6 : decode cX7_record 6 = .ok (.if_icmp .ne 44, 3) := by decide +kernel
theorem dX7_record_9 : decode cX7_record 9 = .ok (.iconst 0, 1) := by decide +kernel
theorem dX7_record_10 : decode cX7_record 10 = .ok (.istore_n 1, 1) := by decide +kernel
theorem dX7_record_11 : decode cX7_record 11 = .ok (.iload_n 1, 1) := by decide +kernel
theorem dX7_record_12 : decode cX7_record 12 = .ok (.sipush 1180, 3) := by decide +kernel
theorem dX7_record_15 : decode cX7_record 15 = .ok (.if_icmp .ge 25, 3) := by decide +kernel
theorem dX7_record_18 : decode cX7_record 18 = .ok (.aload_n 0, 1) := by decide +kernel
theorem dX7_record_19 : decode cX7_record 19 = .ok (.getfield 13, 3) := by decide +kernel
theorem dX7_record_22 : decode cX7_record 22 = .ok (.iload_n 1, 1) := by decide +kernel
theorem dX7_record_23 : decode cX7_record 23 = .ok (.aload_n 0, 1) := by decide +kernel
theorem dX7_record_24 : decode cX7_record 24 = .ok (.getfield 13, 3) := by decide +kernel
theorem dX7_record_27 : decode cX7_record 27 = .ok (.iload_n 1, 1) := by decide +kernel
theorem dX7_record_28 : decode cX7_record 28 = .ok (.sipush 236, 3) := by decide +kernel
theorem dX7_record_31 : decode cX7_record 31 = .ok (.iadd, 1) := by decide +kernel
theorem dX7_record_32 : decode cX7_record 32 = .ok (.iaload, 1) := by decide +kernel
theorem dX7_record_33 : decode cX7_record 33 = .ok (.iastore, 1) := by decide +kernel
theorem dX7_record_34 : decode cX7_record 34 = .ok (.iinc 1 1, 3) := by decide +kernel
theorem dX7_record_37 : decode cX7_record 37 = .ok (.goto (-26), 3) := by decide +kernel
theorem dX7_record_40 : decode cX7_record 40 = .ok (.aload_n 0, 1) := by decide +kernel
theorem dX7_record_41 : decode cX7_record 41 = .ok (.dup, 1) := by decide +kernel
theorem dX7_record_42 : decode cX7_record 42 = .ok (.getfield 31, 3) := by decide +kernel
theorem dX7_record_45 : decode cX7_record 45 = .ok (.iconst 1, 1) := by decide +kernel
theorem dX7_record_46 : decode cX7_record 46 = .ok (.isub, 1) := by decide +kernel
theorem dX7_record_47 : decode cX7_record 47 = .ok (.putfield 31, 3) := by decide +kernel
theorem dX7_record_50 : decode cX7_record 50 = .ok (.aload_n 0, 1) := by decide +kernel
theorem dX7_record_51 : decode cX7_record 51 = .ok (.getfield 7, 3) := by decide +kernel
theorem dX7_record_54 : decode cX7_record 54 = .ok (.iconst 0, 1) := by decide +kernel
theorem dX7_record_55 : decode cX7_record 55 = .ok (.aload_n 0, 1) := by decide +kernel
theorem dX7_record_56 : decode cX7_record 56 = .ok (.getfield 13, 3) := by decide +kernel
theorem dX7_record_59 : decode cX7_record 59 = .ok (.aload_n 0, 1) := by decide +kernel
theorem dX7_record_60 : decode cX7_record 60 = .ok (.getfield 31, 3) := by decide +kernel
theorem dX7_record_63 : decode cX7_record 63 = .ok (.sipush 236, 3) := by decide +kernel
theorem dX7_record_66 : decode cX7_record 66 = .ok (.imul, 1) := by decide +kernel
theorem dX7_record_67 : decode cX7_record 67 = .ok (.invokestatic 35, 3) := by decide +kernel
theorem dX7_record_70 : decode cX7_record 70 = .ok (.aload_n 0, 1) := by decide +kernel
theorem dX7_record_71 : decode cX7_record 71 = .ok (.dup, 1) := by decide +kernel
theorem dX7_record_72 : decode cX7_record 72 = .ok (.getfield 31, 3) := by decide +kernel
theorem dX7_record_75 : decode cX7_record 75 = .ok (.iconst 1, 1) := by decide +kernel
theorem dX7_record_76 : decode cX7_record 76 = .ok (.iadd, 1) := by decide +kernel
theorem dX7_record_77 : decode cX7_record 77 = .ok (.putfield 31, 3) := by decide +kernel
theorem dX7_record_80 : decode cX7_record 80 = .ok (.return_, 1) := by decide +kernel
theorem dX7_isRing_0 : decode cX7_isRing 0 = .ok (.iload_n 1, 1) := by decide +kernel
theorem dX7_isRing_1 : decode cX7_isRing 1 = .ok (.iconst 0, 1) := by decide +kernel
theorem dX7_isRing_2 : decode cX7_isRing 2 = .ok (.aload_n 0, 1) := by decide +kernel
theorem dX7_isRing_3 : decode cX7_isRing 3 = .ok (.getfield 7, 3) := by decide +kernel
theorem dX7_isRing_6 : decode cX7_isRing 6 = .ok (.iconst 3, 1) := by decide +kernel
theorem dX7_isRing_7 : decode cX7_isRing 7 = .ok (.iaload, 1) := by decide +kernel
theorem dX7_isRing_8 : decode cX7_isRing 8 = .ok (.iconst 1, 1) := by decide +kernel
theorem dX7_isRing_9 : decode cX7_isRing 9 = .ok (.isub, 1) := by decide +kernel
theorem dX7_isRing_10 : decode cX7_isRing 10 = .ok (.invokestatic 39, 3) := by decide +kernel
theorem dX7_isRing_13 : decode cX7_isRing 13 = .ok (.ireturn, 1) := by decide +kernel
theorem dX7_isStacked_0 : decode cX7_isStacked 0 = .ok (.aload_n 0, 1) := by decide +kernel
theorem dX7_isStacked_1 : decode cX7_isStacked 1 = .ok (.getfield 7, 3) := by decide +kernel
theorem dX7_isStacked_4 : decode cX7_isStacked 4 = .ok (.iconst 4, 1) := by decide +kernel
theorem dX7_isStacked_5 : decode cX7_isStacked 5 = .ok (.iaload, 1) := by decide +kernel
theorem dX7_isStacked_6 : decode cX7_isStacked 6 = .ok (.iload_n 1, 1) := by decide +kernel
theorem dX7_isStacked_7 : decode cX7_isStacked 7 = .ok (.ishr, 1) := by decide +kernel
theorem dX7_isStacked_8 : decode cX7_isStacked 8 = .ok (.iconst 1, 1) := by decide +kernel
theorem dX7_isStacked_9 : decode cX7_isStacked 9 = .ok (.iand, 1) := by decide +kernel
theorem dX7_isStacked_10 : decode cX7_isStacked 10 = .ok (.iconst 1, 1) := by decide +kernel
theorem dX7_isStacked_11 : decode cX7_isStacked 11 = .ok (.if_icmp .ne 7, 3) := by decide +kernel
theorem dX7_isStacked_14 : decode cX7_isStacked 14 = .ok (.iconst 1, 1) := by decide +kernel
theorem dX7_isStacked_15 : decode cX7_isStacked 15 = .ok (.goto 4, 3) := by decide +kernel
theorem dX7_isStacked_18 : decode cX7_isStacked 18 = .ok (.iconst 0, 1) := by decide +kernel
theorem dX7_isStacked_19 : decode cX7_isStacked 19 = .ok (.ireturn, 1) := by decide +kernel
theorem dX7_massOf_0 : decode cX7_massOf 0 = .ok (.bipush 100, 2) := by decide +kernel
theorem dX7_massOf_2 : decode cX7_massOf 2 = .ok (.istore_n 2, 1) := by decide +kernel
theorem dX7_massOf_3 : decode cX7_massOf 3 = .ok (.iconst 0, 1) := by decide +kernel
theorem dX7_massOf_4 : decode cX7_massOf 4 = .ok (.istore_n 3, 1) := by decide +kernel
theorem dX7_massOf_5 : decode cX7_massOf 5 = .ok (.iload_n 3, 1) := by decide +kernel
theorem dX7_massOf_6 : decode cX7_massOf 6 = .ok (.aload_n 0, 1) := by decide +kernel
theorem dX7_massOf_7 : decode cX7_massOf 7 = .ok (.getfield 7, 3) := by decide +kernel
theorem dX7_massOf_10 : decode cX7_massOf 10 = .ok (.iconst 3, 1) := by decide +kernel
theorem dX7_massOf_11 : decode cX7_massOf 11 = .ok (.iaload, 1) := by decide +kernel
theorem dX7_massOf_12 : decode cX7_massOf 12 = .ok (.if_icmp .ge 27, 3) := by decide +kernel
theorem dX7_massOf_15 : decode cX7_massOf 15 = .ok (.iload_n 2, 1) := by decide +kernel
theorem dX7_massOf_16 : decode cX7_massOf 16 = .ok (.iload_n 1, 1) := by decide +kernel
theorem dX7_massOf_17 : decode cX7_massOf 17 = .ok (.iload_n 3, 1) := by decide +kernel
theorem dX7_massOf_18 : decode cX7_massOf 18 = .ok (.ishr, 1) := by decide +kernel
theorem dX7_massOf_19 : decode cX7_massOf 19 = .ok (.iconst 1, 1) := by decide +kernel
theorem dX7_massOf_20 : decode cX7_massOf 20 = .ok (.iand, 1) := by decide +kernel
theorem dX7_massOf_21 : decode cX7_massOf 21 = .ok (.aload_n 0, 1) := by decide +kernel
theorem dX7_massOf_22 : decode cX7_massOf 22 = .ok (.getfield 7, 3) := by decide +kernel
theorem dX7_massOf_25 : decode cX7_massOf 25 = .ok (.bipush 6, 2) := by decide +kernel
theorem dX7_massOf_27 : decode cX7_massOf 27 = .ok (.iload_n 3, 1) := by decide +kernel
theorem dX7_massOf_28 : decode cX7_massOf 28 = .ok (.iadd, 1) := by decide +kernel
theorem dX7_massOf_29 : decode cX7_massOf 29 = .ok (.iaload, 1) := by decide +kernel
theorem dX7_massOf_30 : decode cX7_massOf 30 = .ok (.imul, 1) := by decide +kernel
theorem dX7_massOf_31 : decode cX7_massOf 31 = .ok (.iadd, 1) := by decide +kernel
theorem dX7_massOf_32 : decode cX7_massOf 32 = .ok (.istore_n 2, 1) := by decide +kernel
theorem dX7_massOf_33 : decode cX7_massOf 33 = .ok (.iinc 3 1, 3) := by decide +kernel
theorem dX7_massOf_36 : decode cX7_massOf 36 = .ok (.goto (-31), 3) := by decide +kernel
theorem dX7_massOf_39 : decode cX7_massOf 39 = .ok (.iload_n 2, 1) := by decide +kernel
theorem dX7_massOf_40 : decode cX7_massOf 40 = .ok (.ireturn, 1) := by decide +kernel
theorem dX7_weightOf_0 : decode cX7_weightOf 0 = .ok (.iload_n 1, 1) := by decide +kernel
theorem dX7_weightOf_1 : decode cX7_weightOf 1 = .ok (.iload_n 1, 1) := by decide +kernel
theorem dX7_weightOf_2 : decode cX7_weightOf 2 = .ok (.bipush 100, 2) := by decide +kernel
theorem dX7_weightOf_4 : decode cX7_weightOf 4 = .ok (.iconst 5, 1) := by decide +kernel
theorem dX7_weightOf_5 : decode cX7_weightOf 5 = .ok (.iload_n 2, 1) := by decide +kernel
theorem dX7_weightOf_6 : decode cX7_weightOf 6 = .ok (.imul, 1) := by decide +kernel
theorem dX7_weightOf_7 : decode cX7_weightOf 7 = .ok (.iadd, 1) := by decide +kernel
theorem dX7_weightOf_8 : decode cX7_weightOf 8 = .ok (.imul, 1) := by decide +kernel
theorem dX7_weightOf_9 : decode cX7_weightOf 9 = .ok (.ldc 43, 2) := by decide +kernel
theorem dX7_weightOf_11 : decode cX7_weightOf 11 = .ok (.invokestatic 44, 3) := by decide +kernel
theorem dX7_weightOf_14 : decode cX7_weightOf 14 = .ok (.isub, 1) := by decide +kernel
theorem dX7_weightOf_15 : decode cX7_weightOf 15 = .ok (.ireturn, 1) := by decide +kernel
theorem dX7_pressureBy_0 : decode cX7_pressureBy 0 = .ok (.aload_n 0, 1) := by decide +kernel
theorem dX7_pressureBy_1 : decode cX7_pressureBy 1 = .ok (.iload_n 1, 1) := by decide +kernel
theorem dX7_pressureBy_2 : decode cX7_pressureBy 2 = .ok (.iload_n 2, 1) := by decide +kernel
theorem dX7_pressureBy_3 : decode cX7_pressureBy 3 = .ok (.invokevirtual 48, 3) := by decide +kernel
theorem dX7_pressureBy_6 : decode cX7_pressureBy 6 = .ok (.bipush 100, 2) := by decide +kernel
theorem dX7_pressureBy_8 : decode cX7_pressureBy 8 = .ok (.imul, 1) := by decide +kernel
theorem dX7_pressureBy_9 : decode cX7_pressureBy 9 = .ok (.aload_n 0, 1) := by decide +kernel
theorem dX7_pressureBy_10 : decode cX7_pressureBy 10 = .ok (.getfield 7, 3) := by decide +kernel
theorem dX7_pressureBy_13 : decode cX7_pressureBy 13 = .ok (.iconst 1, 1) := by decide +kernel
theorem dX7_pressureBy_14 : decode cX7_pressureBy 14 = .ok (.iaload, 1) := by decide +kernel
theorem dX7_pressureBy_15 : decode cX7_pressureBy 15 = .ok (.idiv, 1) := by decide +kernel
theorem dX7_pressureBy_16 : decode cX7_pressureBy 16 = .ok (.ireturn, 1) := by decide +kernel
theorem dX7_pressureOf_0 : decode cX7_pressureOf 0 = .ok (.aload_n 0, 1) := by decide +kernel
theorem dX7_pressureOf_1 : decode cX7_pressureOf 1 = .ok (.aload_n 0, 1) := by decide +kernel
theorem dX7_pressureOf_2 : decode cX7_pressureOf 2 = .ok (.iload_n 1, 1) := by decide +kernel
theorem dX7_pressureOf_3 : decode cX7_pressureOf 3 = .ok (.invokevirtual 51, 3) := by decide +kernel
theorem dX7_pressureOf_6 : decode cX7_pressureOf 6 = .ok (.aload_n 0, 1) := by decide +kernel
theorem dX7_pressureOf_7 : decode cX7_pressureOf 7 = .ok (.getfield 7, 3) := by decide +kernel
theorem dX7_pressureOf_10 : decode cX7_pressureOf 10 = .ok (.iconst 0, 1) := by decide +kernel
theorem dX7_pressureOf_11 : decode cX7_pressureOf 11 = .ok (.iaload, 1) := by decide +kernel
theorem dX7_pressureOf_12 : decode cX7_pressureOf 12 = .ok (.invokevirtual 55, 3) := by decide +kernel
theorem dX7_pressureOf_15 : decode cX7_pressureOf 15 = .ok (.ireturn, 1) := by decide +kernel
theorem dX7_bits_0 : decode cX7_bits 0 = .ok (.iconst 0, 1) := by decide +kernel
theorem dX7_bits_1 : decode cX7_bits 1 = .ok (.istore_n 1, 1) := by decide +kernel
theorem dX7_bits_2 : decode cX7_bits 2 = .ok (.iconst 0, 1) := by decide +kernel
theorem dX7_bits_3 : decode cX7_bits 3 = .ok (.istore_n 2, 1) := by decide +kernel
theorem dX7_bits_4 : decode cX7_bits 4 = .ok (.iload_n 2, 1) := by decide +kernel
theorem dX7_bits_5 : decode cX7_bits 5 = .ok (.bipush 14, 2) := by decide +kernel
theorem dX7_bits_7 : decode cX7_bits 7 = .ok (.if_icmp .ge 17, 3) := by decide +kernel
theorem dX7_bits_10 : decode cX7_bits 10 = .ok (.iload_n 1, 1) := by decide +kernel
theorem dX7_bits_11 : decode cX7_bits 11 = .ok (.iload_n 0, 1) := by decide +kernel
theorem dX7_bits_12 : decode cX7_bits 12 = .ok (.iload_n 2, 1) := by decide +kernel
theorem dX7_bits_13 : decode cX7_bits 13 = .ok (.ishr, 1) := by decide +kernel
theorem dX7_bits_14 : decode cX7_bits 14 = .ok (.iconst 1, 1) := by decide +kernel
theorem dX7_bits_15 : decode cX7_bits 15 = .ok (.iand, 1) := by decide +kernel
theorem dX7_bits_16 : decode cX7_bits 16 = .ok (.iadd, 1) := by decide +kernel
theorem dX7_bits_17 : decode cX7_bits 17 = .ok (.istore_n 1, 1) := by decide +kernel
theorem dX7_bits_18 : decode cX7_bits 18 = .ok (.iinc 2 1, 3) := by decide +kernel
theorem dX7_bits_21 : decode cX7_bits 21 = .ok (.goto (-17), 3) := by decide +kernel
theorem dX7_bits_24 : decode cX7_bits 24 = .ok (.iload_n 1, 1) := by decide +kernel
theorem dX7_bits_25 : decode cX7_bits 25 = .ok (.ireturn, 1) := by decide +kernel
theorem dX7_findOrder_0 : decode cX7_findOrder 0 = .ok (.iconst 0, 1) := by decide +kernel
theorem dX7_findOrder_1 : decode cX7_findOrder 1 = .ok (.istore_n 1, 1) := by decide +kernel
theorem dX7_findOrder_2 : decode cX7_findOrder 2 = .ok (.iload_n 1, 1) := by decide +kernel
theorem dX7_findOrder_3 : decode cX7_findOrder 3 = .ok (.aload_n 0, 1) := by decide +kernel
theorem dX7_findOrder_4 : decode cX7_findOrder 4 = .ok (.getfield 7, 3) := by decide +kernel
theorem dX7_findOrder_7 : decode cX7_findOrder 7 = .ok (.iconst 3, 1) := by decide +kernel
theorem dX7_findOrder_8 : decode cX7_findOrder 8 = .ok (.iaload, 1) := by decide +kernel
theorem dX7_findOrder_9 : decode cX7_findOrder 9 = .ok (.if_icmp .ge 70, 3) := by decide +kernel
theorem dX7_findOrder_12 : decode cX7_findOrder 12 = .ok (.iload_n 1, 1) := by decide +kernel
theorem dX7_findOrder_13 : decode cX7_findOrder 13 = .ok (.istore_n 2, 1) := by decide +kernel
theorem dX7_findOrder_14 : decode cX7_findOrder 14 = .ok (.iload_n 2, 1) := by decide +kernel
theorem dX7_findOrder_15 : decode cX7_findOrder 15 = .ok (.ifCond .le 51, 3) := by decide +kernel
theorem dX7_findOrder_18 : decode cX7_findOrder 18 = .ok (.aload_n 0, 1) := by decide +kernel
theorem dX7_findOrder_19 : decode cX7_findOrder 19 = .ok (.getfield 7, 3) := by decide +kernel
theorem dX7_findOrder_22 : decode cX7_findOrder 22 = .ok (.bipush 6, 2) := by decide +kernel
theorem dX7_findOrder_24 : decode cX7_findOrder 24 = .ok (.aload_n 0, 1) := by decide +kernel
theorem dX7_findOrder_25 : decode cX7_findOrder 25 = .ok (.getfield 25, 3) := by decide +kernel
theorem dX7_findOrder_28 : decode cX7_findOrder 28 = .ok (.iload_n 2, 1) := by decide +kernel
theorem dX7_findOrder_29 : decode cX7_findOrder 29 = .ok (.iconst 1, 1) := by decide +kernel
theorem dX7_findOrder_30 : decode cX7_findOrder 30 = .ok (.isub, 1) := by decide +kernel
theorem dX7_findOrder_31 : decode cX7_findOrder 31 = .ok (.iaload, 1) := by decide +kernel
theorem dX7_findOrder_32 : decode cX7_findOrder 32 = .ok (.iadd, 1) := by decide +kernel
theorem dX7_findOrder_33 : decode cX7_findOrder 33 = .ok (.iaload, 1) := by decide +kernel
theorem dX7_findOrder_34 : decode cX7_findOrder 34 = .ok (.aload_n 0, 1) := by decide +kernel
theorem dX7_findOrder_35 : decode cX7_findOrder 35 = .ok (.getfield 7, 3) := by decide +kernel
theorem dX7_findOrder_38 : decode cX7_findOrder 38 = .ok (.bipush 6, 2) := by decide +kernel
theorem dX7_findOrder_40 : decode cX7_findOrder 40 = .ok (.iload_n 1, 1) := by decide +kernel
theorem dX7_findOrder_41 : decode cX7_findOrder 41 = .ok (.iadd, 1) := by decide +kernel
theorem dX7_findOrder_42 : decode cX7_findOrder 42 = .ok (.iaload, 1) := by decide +kernel
theorem dX7_findOrder_43 : decode cX7_findOrder 43 = .ok (.if_icmp .le 23, 3) := by decide +kernel
theorem dX7_findOrder_46 : decode cX7_findOrder 46 = .ok (.aload_n 0, 1) := by decide +kernel
theorem dX7_findOrder_47 : decode cX7_findOrder 47 = .ok (.getfield 25, 3) := by decide +kernel
theorem dX7_findOrder_50 : decode cX7_findOrder 50 = .ok (.iload_n 2, 1) := by decide +kernel
theorem dX7_findOrder_51 : decode cX7_findOrder 51 = .ok (.aload_n 0, 1) := by decide +kernel
theorem dX7_findOrder_52 : decode cX7_findOrder 52 = .ok (.getfield 25, 3) := by decide +kernel
theorem dX7_findOrder_55 : decode cX7_findOrder 55 = .ok (.iload_n 2, 1) := by decide +kernel
theorem dX7_findOrder_56 : decode cX7_findOrder 56 = .ok (.iconst 1, 1) := by decide +kernel
theorem dX7_findOrder_57 : decode cX7_findOrder 57 = .ok (.isub, 1) := by decide +kernel
theorem dX7_findOrder_58 : decode cX7_findOrder 58 = .ok (.iaload, 1) := by decide +kernel
theorem dX7_findOrder_59 : decode cX7_findOrder 59 = .ok (.iastore, 1) := by decide +kernel
theorem dX7_findOrder_60 : decode cX7_findOrder 60 = .ok (.iinc 2 (-1), 3) := by decide +kernel
theorem dX7_findOrder_63 : decode cX7_findOrder 63 = .ok (.goto (-49), 3) := by decide +kernel
theorem dX7_findOrder_66 : decode cX7_findOrder 66 = .ok (.aload_n 0, 1) := by decide +kernel
theorem dX7_findOrder_67 : decode cX7_findOrder 67 = .ok (.getfield 25, 3) := by decide +kernel
theorem dX7_findOrder_70 : decode cX7_findOrder 70 = .ok (.iload_n 2, 1) := by decide +kernel
theorem dX7_findOrder_71 : decode cX7_findOrder 71 = .ok (.iload_n 1, 1) := by decide +kernel
theorem dX7_findOrder_72 : decode cX7_findOrder 72 = .ok (.iastore, 1) := by decide +kernel
theorem dX7_findOrder_73 : decode cX7_findOrder 73 = .ok (.iinc 1 1, 3) := by decide +kernel
theorem dX7_findOrder_76 : decode cX7_findOrder 76 = .ok (.goto (-74), 3) := by decide +kernel
theorem dX7_findOrder_79 : decode cX7_findOrder 79 = .ok (.return_, 1) := by decide +kernel
theorem dX7_isGauge_0 : decode cX7_isGauge 0 = .ok (.iload_n 1, 1) := by decide +kernel
theorem dX7_isGauge_1 : decode cX7_isGauge 1 = .ok (.iconst 0, 1) := by decide +kernel
theorem dX7_isGauge_2 : decode cX7_isGauge 2 = .ok (.aload_n 0, 1) := by decide +kernel
theorem dX7_isGauge_3 : decode cX7_isGauge 3 = .ok (.getfield 7, 3) := by decide +kernel
theorem dX7_isGauge_6 : decode cX7_isGauge 6 = .ok (.iconst 5, 1) := by decide +kernel
theorem dX7_isGauge_7 : decode cX7_isGauge 7 = .ok (.iaload, 1) := by decide +kernel
theorem dX7_isGauge_8 : decode cX7_isGauge 8 = .ok (.iconst 1, 1) := by decide +kernel
theorem dX7_isGauge_9 : decode cX7_isGauge 9 = .ok (.isub, 1) := by decide +kernel
theorem dX7_isGauge_10 : decode cX7_isGauge 10 = .ok (.invokestatic 39, 3) := by decide +kernel
theorem dX7_isGauge_13 : decode cX7_isGauge 13 = .ok (.ireturn, 1) := by decide +kernel
theorem dX7_part_0 : decode cX7_part 0 = .ok (.aload_n 0, 1) := by decide +kernel
theorem dX7_part_1 : decode cX7_part 1 = .ok (.getfield 7, 3) := by decide +kernel
theorem dX7_part_4 : decode cX7_part 4 = .ok (.bipush 20, 2) := by decide +kernel
theorem dX7_part_6 : decode cX7_part 6 = .ok (.bipush 36, 2) := by decide +kernel
theorem dX7_part_8 : decode cX7_part 8 = .ok (.iload_n 1, 1) := by decide +kernel
theorem dX7_part_9 : decode cX7_part 9 = .ok (.imul, 1) := by decide +kernel
theorem dX7_part_10 : decode cX7_part 10 = .ok (.iadd, 1) := by decide +kernel
theorem dX7_part_11 : decode cX7_part 11 = .ok (.iload_n 2, 1) := by decide +kernel
theorem dX7_part_12 : decode cX7_part 12 = .ok (.iadd, 1) := by decide +kernel
theorem dX7_part_13 : decode cX7_part 13 = .ok (.iaload, 1) := by decide +kernel
theorem dX7_part_14 : decode cX7_part 14 = .ok (.ireturn, 1) := by decide +kernel
theorem dX7_setPart_0 : decode cX7_setPart 0 = .ok (.aload_n 0, 1) := by decide +kernel
theorem dX7_setPart_1 : decode cX7_setPart 1 = .ok (.getfield 7, 3) := by decide +kernel
theorem dX7_setPart_4 : decode cX7_setPart 4 = .ok (.bipush 20, 2) := by decide +kernel
theorem dX7_setPart_6 : decode cX7_setPart 6 = .ok (.bipush 36, 2) := by decide +kernel
theorem dX7_setPart_8 : decode cX7_setPart 8 = .ok (.iload_n 1, 1) := by decide +kernel
theorem dX7_setPart_9 : decode cX7_setPart 9 = .ok (.imul, 1) := by decide +kernel
theorem dX7_setPart_10 : decode cX7_setPart 10 = .ok (.iadd, 1) := by decide +kernel
theorem dX7_setPart_11 : decode cX7_setPart 11 = .ok (.iload_n 2, 1) := by decide +kernel
theorem dX7_setPart_12 : decode cX7_setPart 12 = .ok (.iadd, 1) := by decide +kernel
theorem dX7_setPart_13 : decode cX7_setPart 13 = .ok (.iload_n 3, 1) := by decide +kernel
theorem dX7_setPart_14 : decode cX7_setPart 14 = .ok (.iastore, 1) := by decide +kernel
theorem dX7_setPart_15 : decode cX7_setPart 15 = .ok (.return_, 1) := by decide +kernel
theorem dX7_truth_0 : decode cX7_truth 0 = .ok (.iload_n 0, 1) := by decide +kernel
theorem dX7_truth_1 : decode cX7_truth 1 = .ok (.iload_n 1, 1) := by decide +kernel
theorem dX7_truth_2 : decode cX7_truth 2 = .ok (.invokestatic 58, 3) := by decide +kernel
theorem dX7_truth_5 : decode cX7_truth 5 = .ok (.imul, 1) := by decide +kernel
theorem dX7_truth_6 : decode cX7_truth 6 = .ok (.sipush 1000, 3) := by decide +kernel
theorem dX7_truth_9 : decode cX7_truth 9 = .ok (.idiv, 1) := by decide +kernel
theorem dX7_truth_10 : decode cX7_truth 10 = .ok (.istore_n 2, 1) := by decide +kernel
theorem dX7_truth_11 : decode cX7_truth 11 = .ok (.iload_n 1, 1) := by decide +kernel
theorem dX7_truth_12 : decode cX7_truth 12 = .ok (.ifCond .ge 9, 3) := by decide +kernel
theorem dX7_truth_15 : decode cX7_truth 15 = .ok (.iload_n 0, 1) := by decide +kernel
theorem dX7_truth_16 : decode cX7_truth 16 = .ok (.iload_n 2, 1) := by decide +kernel
theorem dX7_truth_17 : decode cX7_truth 17 = .ok (.isub, 1) := by decide +kernel
theorem dX7_truth_18 : decode cX7_truth 18 = .ok (.goto 6, 3) := by decide +kernel
theorem dX7_truth_21 : decode cX7_truth 21 = .ok (.iload_n 0, 1) := by decide +kernel
theorem dX7_truth_22 : decode cX7_truth 22 = .ok (.iload_n 2, 1) := by decide +kernel
theorem dX7_truth_23 : decode cX7_truth 23 = .ok (.iadd, 1) := by decide +kernel
theorem dX7_truth_24 : decode cX7_truth 24 = .ok (.ireturn, 1) := by decide +kernel
theorem dX7_goesTo_0 : decode cX7_goesTo 0 = .ok (.iload_n 1, 1) := by decide +kernel
theorem dX7_goesTo_1 : decode cX7_goesTo 1 = .ok (.iload_n 2, 1) := by decide +kernel
theorem dX7_goesTo_2 : decode cX7_goesTo 2 = .ok (.invokestatic 61, 3) := by decide +kernel
theorem dX7_goesTo_5 : decode cX7_goesTo 5 = .ok (.istore 4, 2) := by decide +kernel
theorem dX7_goesTo_7 : decode cX7_goesTo 7 = .ok (.iload_n 0, 1) := by decide +kernel
theorem dX7_goesTo_8 : decode cX7_goesTo 8 = .ok (.iload 4, 2) := by decide +kernel
theorem dX7_goesTo_10 : decode cX7_goesTo 10 = .ok (.iload_n 3, 1) := by decide +kernel
theorem dX7_goesTo_11 : decode cX7_goesTo 11 = .ok (.isub, 1) := by decide +kernel
theorem dX7_goesTo_12 : decode cX7_goesTo 12 = .ok (.if_icmp .ge 10, 3) := by decide +kernel
theorem dX7_goesTo_15 : decode cX7_goesTo 15 = .ok (.iload 4, 2) := by decide +kernel
theorem dX7_goesTo_17 : decode cX7_goesTo 17 = .ok (.iload_n 3, 1) := by decide +kernel
theorem dX7_goesTo_18 : decode cX7_goesTo 18 = .ok (.isub, 1) := by decide +kernel
theorem dX7_goesTo_19 : decode cX7_goesTo 19 = .ok (.goto 19, 3) := by decide +kernel
theorem dX7_goesTo_22 : decode cX7_goesTo 22 = .ok (.iload_n 0, 1) := by decide +kernel
theorem dX7_goesTo_23 : decode cX7_goesTo 23 = .ok (.iload 4, 2) := by decide +kernel
theorem dX7_goesTo_25 : decode cX7_goesTo 25 = .ok (.iload_n 3, 1) := by decide +kernel
theorem dX7_goesTo_26 : decode cX7_goesTo 26 = .ok (.iadd, 1) := by decide +kernel
theorem dX7_goesTo_27 : decode cX7_goesTo 27 = .ok (.if_icmp .le 10, 3) := by decide +kernel
theorem dX7_goesTo_30 : decode cX7_goesTo 30 = .ok (.iload 4, 2) := by decide +kernel
theorem dX7_goesTo_32 : decode cX7_goesTo 32 = .ok (.iload_n 3, 1) := by decide +kernel
theorem dX7_goesTo_33 : decode cX7_goesTo 33 = .ok (.iadd, 1) := by decide +kernel
theorem dX7_goesTo_34 : decode cX7_goesTo 34 = .ok (.goto 4, 3) := by decide +kernel
theorem dX7_goesTo_37 : decode cX7_goesTo 37 = .ok (.iload_n 0, 1) := by decide +kernel
theorem dX7_goesTo_38 : decode cX7_goesTo 38 = .ok (.ireturn, 1) := by decide +kernel
theorem dX7_reads_0 : decode cX7_reads 0 = .ok (.iload_n 0, 1) := by decide +kernel
theorem dX7_reads_1 : decode cX7_reads 1 = .ok (.iload_n 1, 1) := by decide +kernel
theorem dX7_reads_2 : decode cX7_reads 2 = .ok (.invokestatic 44, 3) := by decide +kernel
theorem dX7_reads_5 : decode cX7_reads 5 = .ok (.iload_n 1, 1) := by decide +kernel
theorem dX7_reads_6 : decode cX7_reads 6 = .ok (.imul, 1) := by decide +kernel
theorem dX7_reads_7 : decode cX7_reads 7 = .ok (.ireturn, 1) := by decide +kernel
theorem dX7_handGoes_0 : decode cX7_handGoes 0 = .ok (.aload_n 0, 1) := by decide +kernel
theorem dX7_handGoes_1 : decode cX7_handGoes 1 = .ok (.iload_n 1, 1) := by decide +kernel
theorem dX7_handGoes_2 : decode cX7_handGoes 2 = .ok (.iconst 3, 1) := by decide +kernel
theorem dX7_handGoes_3 : decode cX7_handGoes 3 = .ok (.aload_n 0, 1) := by decide +kernel
theorem dX7_handGoes_4 : decode cX7_handGoes 4 = .ok (.iload_n 1, 1) := by decide +kernel
theorem dX7_handGoes_5 : decode cX7_handGoes 5 = .ok (.iconst 3, 1) := by decide +kernel
theorem dX7_handGoes_6 : decode cX7_handGoes 6 = .ok (.invokevirtual 64, 3) := by decide +kernel
theorem dX7_handGoes_9 : decode cX7_handGoes 9 = .ok (.aload_n 0, 1) := by decide +kernel
theorem dX7_handGoes_10 : decode cX7_handGoes 10 = .ok (.aload_n 0, 1) := by decide +kernel
theorem dX7_handGoes_11 : decode cX7_handGoes 11 = .ok (.getfield 7, 3) := by decide +kernel
theorem dX7_handGoes_14 : decode cX7_handGoes 14 = .ok (.iconst 4, 1) := by decide +kernel
theorem dX7_handGoes_15 : decode cX7_handGoes 15 = .ok (.iaload, 1) := by decide +kernel
theorem dX7_handGoes_16 : decode cX7_handGoes 16 = .ok (.invokevirtual 67, 3) := by decide +kernel
theorem dX7_handGoes_19 : decode cX7_handGoes 19 = .ok (.aload_n 0, 1) := by decide +kernel
theorem dX7_handGoes_20 : decode cX7_handGoes 20 = .ok (.iload_n 1, 1) := by decide +kernel
theorem dX7_handGoes_21 : decode cX7_handGoes 21 = .ok (.iconst 0, 1) := by decide +kernel
theorem dX7_handGoes_22 : decode cX7_handGoes 22 = .ok (.invokevirtual 64, 3) := by decide +kernel
theorem dX7_handGoes_25 : decode cX7_handGoes 25 = .ok (.aload_n 0, 1) := by decide +kernel
theorem dX7_handGoes_26 : decode cX7_handGoes 26 = .ok (.iload_n 1, 1) := by decide +kernel
theorem dX7_handGoes_27 : decode cX7_handGoes 27 = .ok (.iconst 1, 1) := by decide +kernel
theorem dX7_handGoes_28 : decode cX7_handGoes 28 = .ok (.invokevirtual 64, 3) := by decide +kernel
theorem dX7_handGoes_31 : decode cX7_handGoes 31 = .ok (.invokestatic 70, 3) := by decide +kernel
theorem dX7_handGoes_34 : decode cX7_handGoes 34 = .ok (.invokevirtual 74, 3) := by decide +kernel
theorem dX7_handGoes_37 : decode cX7_handGoes 37 = .ok (.return_, 1) := by decide +kernel
theorem dX7_handsGo_0 : decode cX7_handsGo 0 = .ok (.iconst 0, 1) := by decide +kernel
theorem dX7_handsGo_1 : decode cX7_handsGo 1 = .ok (.istore_n 1, 1) := by decide +kernel
theorem dX7_handsGo_2 : decode cX7_handsGo 2 = .ok (.iload_n 1, 1) := by decide +kernel
theorem dX7_handsGo_3 : decode cX7_handsGo 3 = .ok (.aload_n 0, 1) := by decide +kernel
theorem dX7_handsGo_4 : decode cX7_handsGo 4 = .ok (.getfield 7, 3) := by decide +kernel
theorem dX7_handsGo_7 : decode cX7_handsGo 7 = .ok (.iconst 5, 1) := by decide +kernel
theorem dX7_handsGo_8 : decode cX7_handsGo 8 = .ok (.iaload, 1) := by decide +kernel
theorem dX7_handsGo_9 : decode cX7_handsGo 9 = .ok (.if_icmp .ge 14, 3) := by decide +kernel
theorem dX7_handsGo_12 : decode cX7_handsGo 12 = .ok (.aload_n 0, 1) := by decide +kernel
theorem dX7_handsGo_13 : decode cX7_handsGo 13 = .ok (.iload_n 1, 1) := by decide +kernel
theorem dX7_handsGo_14 : decode cX7_handsGo 14 = .ok (.invokevirtual 78, 3) := by decide +kernel
theorem dX7_handsGo_17 : decode cX7_handsGo 17 = .ok (.iinc 1 1, 3) := by decide +kernel
theorem dX7_handsGo_20 : decode cX7_handsGo 20 = .ok (.goto (-18), 3) := by decide +kernel
theorem dX7_handsGo_23 : decode cX7_handsGo 23 = .ok (.return_, 1) := by decide +kernel
theorem dX7_voids_0 : decode cX7_voids 0 = .ok (.iconst 4, 1) := by decide +kernel
theorem dX7_voids_1 : decode cX7_voids 1 = .ok (.istore_n 2, 1) := by decide +kernel
theorem dX7_voids_2 : decode cX7_voids 2 = .ok (.iload_n 2, 1) := by decide +kernel
theorem dX7_voids_3 : decode cX7_voids 3 = .ok (.bipush 36, 2) := by decide +kernel
theorem dX7_voids_5 : decode cX7_voids 5 = .ok (.if_icmp .ge 16, 3) := by decide +kernel
theorem dX7_voids_8 : decode cX7_voids 8 = .ok (.aload_n 0, 1) := by decide +kernel
theorem dX7_voids_9 : decode cX7_voids 9 = .ok (.iload_n 1, 1) := by decide +kernel
theorem dX7_voids_10 : decode cX7_voids 10 = .ok (.iload_n 2, 1) := by decide +kernel
theorem dX7_voids_11 : decode cX7_voids 11 = .ok (.iconst 0, 1) := by decide +kernel
theorem dX7_voids_12 : decode cX7_voids 12 = .ok (.invokevirtual 74, 3) := by decide +kernel
theorem dX7_voids_15 : decode cX7_voids 15 = .ok (.iinc 2 1, 3) := by decide +kernel
theorem dX7_voids_18 : decode cX7_voids 18 = .ok (.goto (-16), 3) := by decide +kernel
theorem dX7_voids_21 : decode cX7_voids 21 = .ok (.return_, 1) := by decide +kernel
theorem dX7_voidsAll_0 : decode cX7_voidsAll 0 = .ok (.iconst 0, 1) := by decide +kernel
theorem dX7_voidsAll_1 : decode cX7_voidsAll 1 = .ok (.istore_n 1, 1) := by decide +kernel
theorem dX7_voidsAll_2 : decode cX7_voidsAll 2 = .ok (.iload_n 1, 1) := by decide +kernel
theorem dX7_voidsAll_3 : decode cX7_voidsAll 3 = .ok (.bipush 6, 2) := by decide +kernel
theorem dX7_voidsAll_5 : decode cX7_voidsAll 5 = .ok (.if_icmp .ge 14, 3) := by decide +kernel
theorem dX7_voidsAll_8 : decode cX7_voidsAll 8 = .ok (.aload_n 0, 1) := by decide +kernel
theorem dX7_voidsAll_9 : decode cX7_voidsAll 9 = .ok (.iload_n 1, 1) := by decide +kernel
theorem dX7_voidsAll_10 : decode cX7_voidsAll 10 = .ok (.invokevirtual 82, 3) := by decide +kernel
theorem dX7_voidsAll_13 : decode cX7_voidsAll 13 = .ok (.iinc 1 1, 3) := by decide +kernel
theorem dX7_voidsAll_16 : decode cX7_voidsAll 16 = .ok (.goto (-14), 3) := by decide +kernel
theorem dX7_voidsAll_19 : decode cX7_voidsAll 19 = .ok (.return_, 1) := by decide +kernel
theorem dX7_certificates_0 : decode cX7_certificates 0 = .ok (.iconst 0, 1) := by decide +kernel
theorem dX7_certificates_1 : decode cX7_certificates 1 = .ok (.istore_n 1, 1) := by decide +kernel
theorem dX7_certificates_2 : decode cX7_certificates 2 = .ok (.iconst 0, 1) := by decide +kernel
theorem dX7_certificates_3 : decode cX7_certificates 3 = .ok (.istore_n 2, 1) := by decide +kernel
theorem dX7_certificates_4 : decode cX7_certificates 4 = .ok (.iload_n 2, 1) := by decide +kernel
theorem dX7_certificates_5 : decode cX7_certificates 5 = .ok (.aload_n 0, 1) := by decide +kernel
theorem dX7_certificates_6 : decode cX7_certificates 6 = .ok (.getfield 7, 3) := by decide +kernel
theorem dX7_certificates_9 : decode cX7_certificates 9 = .ok (.iconst 5, 1) := by decide +kernel
theorem dX7_certificates_10 : decode cX7_certificates 10 = .ok (.iaload, 1) := by decide +kernel
theorem dX7_certificates_11 : decode cX7_certificates 11 = .ok (.if_icmp .ge 18, 3) := by decide +kernel
theorem dX7_certificates_14 : decode cX7_certificates 14 = .ok (.iload_n 1, 1) := by decide +kernel
theorem dX7_certificates_15 : decode cX7_certificates 15 = .ok (.aload_n 0, 1) := by decide +kernel
theorem dX7_certificates_16 : decode cX7_certificates 16 = .ok (.iload_n 2, 1) := by decide +kernel
theorem dX7_certificates_17 : decode cX7_certificates 17 = .ok (.iconst 4, 1) := by decide +kernel
theorem dX7_certificates_18 : decode cX7_certificates 18 = .ok (.invokevirtual 64, 3) := by decide +kernel
theorem dX7_certificates_21 : decode cX7_certificates 21 = .ok (.iadd, 1) := by decide +kernel
theorem dX7_certificates_22 : decode cX7_certificates 22 = .ok (.istore_n 1, 1) := by decide +kernel
theorem dX7_certificates_23 : decode cX7_certificates 23 = .ok (.iinc 2 1, 3) := by decide +kernel
theorem dX7_certificates_26 : decode cX7_certificates 26 = .ok (.goto (-22), 3) := by decide +kernel
theorem dX7_certificates_29 : decode cX7_certificates 29 = .ok (.iload_n 1, 1) := by decide +kernel
theorem dX7_certificates_30 : decode cX7_certificates 30 = .ok (.ireturn, 1) := by decide +kernel
theorem dX7_tests_0 : decode cX7_tests 0 = .ok (.aload_n 0, 1) := by decide +kernel
theorem dX7_tests_1 : decode cX7_tests 1 = .ok (.getfield 7, 3) := by decide +kernel
theorem dX7_tests_4 : decode cX7_tests 4 = .ok (.iconst 3, 1) := by decide +kernel
theorem dX7_tests_5 : decode cX7_tests 5 = .ok (.iaload, 1) := by decide +kernel
theorem dX7_tests_6 : decode cX7_tests 6 = .ok (.istore_n 3, 1) := by decide +kernel
theorem dX7_tests_7 : decode cX7_tests 7 = .ok (.iconst 0, 1) := by decide +kernel
theorem dX7_tests_8 : decode cX7_tests 8 = .ok (.istore 4, 2) := by decide +kernel
theorem dX7_tests_10 : decode cX7_tests 10 = .ok (.iconst 0, 1) := by decide +kernel
theorem dX7_tests_11 : decode cX7_tests 11 = .ok (.istore 5, 2) := by decide +kernel
theorem dX7_tests_13 : decode cX7_tests 13 = .ok (.aload_n 0, 1) := by decide +kernel
theorem dX7_tests_14 : decode cX7_tests 14 = .ok (.iconst (-1), 1) := by decide +kernel
theorem dX7_tests_15 : decode cX7_tests 15 = .ok (.putfield 85, 3) := by decide +kernel
theorem dX7_tests_18 : decode cX7_tests 18 = .ok (.aload_n 0, 1) := by decide +kernel
theorem dX7_tests_19 : decode cX7_tests 19 = .ok (.iconst 0, 1) := by decide +kernel
theorem dX7_tests_20 : decode cX7_tests 20 = .ok (.putfield 88, 3) := by decide +kernel
theorem dX7_tests_23 : decode cX7_tests 23 = .ok (.aload_n 0, 1) := by decide +kernel
theorem dX7_tests_24 : decode cX7_tests 24 = .ok (.invokevirtual 91, 3) := by decide +kernel
theorem dX7_tests_27 : decode cX7_tests 27 = .ok (.iconst 0, 1) := by decide +kernel
theorem dX7_tests_28 : decode cX7_tests 28 = .ok (.istore 6, 2) := by decide +kernel
theorem dX7_tests_30 : decode cX7_tests 30 = .ok (.iload 6, 2) := by decide +kernel
theorem dX7_tests_32 : decode cX7_tests 32 = .ok (.iconst 2, 1) := by decide +kernel
theorem dX7_tests_33 : decode cX7_tests 33 = .ok (.iload_n 3, 1) := by decide +kernel
theorem dX7_tests_34 : decode cX7_tests 34 = .ok (.imul, 1) := by decide +kernel
theorem dX7_tests_35 : decode cX7_tests 35 = .ok (.if_icmp .ge 145, 3) := by decide +kernel
theorem dX7_tests_38 : decode cX7_tests 38 = .ok (.aload_n 0, 1) := by decide +kernel
theorem dX7_tests_39 : decode cX7_tests 39 = .ok (.getfield 25, 3) := by decide +kernel
theorem dX7_tests_42 : decode cX7_tests 42 = .ok (.iload 6, 2) := by decide +kernel
theorem dX7_tests_44 : decode cX7_tests 44 = .ok (.iload_n 3, 1) := by decide +kernel
theorem dX7_tests_45 : decode cX7_tests 45 = .ok (.if_icmp .ge 8, 3) := by decide +kernel
theorem dX7_tests_48 : decode cX7_tests 48 = .ok (.iload 6, 2) := by decide +kernel
theorem dX7_tests_50 : decode cX7_tests 50 = .ok (.goto 11, 3) := by decide +kernel
theorem dX7_tests_53 : decode cX7_tests 53 = .ok (.iconst 2, 1) := by decide +kernel
theorem dX7_tests_54 : decode cX7_tests 54 = .ok (.iload_n 3, 1) := by decide +kernel
theorem dX7_tests_55 : decode cX7_tests 55 = .ok (.imul, 1) := by decide +kernel
theorem dX7_tests_56 : decode cX7_tests 56 = .ok (.iconst 1, 1) := by decide +kernel
theorem dX7_tests_57 : decode cX7_tests 57 = .ok (.isub, 1) := by decide +kernel
theorem dX7_tests_58 : decode cX7_tests 58 = .ok (.iload 6, 2) := by decide +kernel
theorem dX7_tests_60 : decode cX7_tests 60 = .ok (.isub, 1) := by decide +kernel
theorem dX7_tests_61 : decode cX7_tests 61 = .ok (.iaload, 1) := by decide +kernel
theorem dX7_tests_62 : decode cX7_tests 62 = .ok (.istore 7, 2) := by decide +kernel
theorem dX7_tests_64 : decode cX7_tests 64 = .ok (.iload 5, 2) := by decide +kernel
theorem dX7_tests_66 : decode cX7_tests 66 = .ok (.iconst 1, 1) := by decide +kernel
theorem dX7_tests_67 : decode cX7_tests 67 = .ok (.iload 7, 2) := by decide +kernel
theorem dX7_tests_69 : decode cX7_tests 69 = .ok (.ishl, 1) := by decide +kernel
theorem dX7_tests_70 : decode cX7_tests 70 = .ok (.ixor, 1) := by decide +kernel
theorem dX7_tests_71 : decode cX7_tests 71 = .ok (.istore 5, 2) := by decide +kernel
theorem dX7_tests_73 : decode cX7_tests 73 = .ok (.aload_n 0, 1) := by decide +kernel
theorem dX7_tests_74 : decode cX7_tests 74 = .ok (.iload 5, 2) := by decide +kernel
theorem dX7_tests_76 : decode cX7_tests 76 = .ok (.invokevirtual 67, 3) := by decide +kernel
theorem dX7_tests_79 : decode cX7_tests 79 = .ok (.istore 8, 2) := by decide +kernel
theorem dX7_tests_81 : decode cX7_tests 81 = .ok (.iload 4, 2) := by decide +kernel
theorem dX7_tests_83 : decode cX7_tests 83 = .ok (.iload 8, 2) := by decide +kernel
theorem dX7_tests_85 : decode cX7_tests 85 = .ok (.iload_n 2, 1) := by decide +kernel
theorem dX7_tests_86 : decode cX7_tests 86 = .ok (.aload_n 0, 1) := by decide +kernel
theorem dX7_tests_87 : decode cX7_tests 87 = .ok (.iload_n 1, 1) := by decide +kernel
theorem dX7_tests_88 : decode cX7_tests 88 = .ok (.iconst 1, 1) := by decide +kernel
theorem dX7_tests_89 : decode cX7_tests 89 = .ok (.invokevirtual 64, 3) := by decide +kernel
theorem dX7_tests_92 : decode cX7_tests 92 = .ok (.invokestatic 70, 3) := by decide +kernel
theorem dX7_tests_95 : decode cX7_tests 95 = .ok (.istore 4, 2) := by decide +kernel
theorem dX7_tests_97 : decode cX7_tests 97 = .ok (.aload_n 0, 1) := by decide +kernel
theorem dX7_tests_98 : decode cX7_tests 98 = .ok (.getfield 28, 3) := by decide +kernel
theorem dX7_tests_101 : decode cX7_tests 101 = .ok (.iload 6, 2) := by decide +kernel
theorem dX7_tests_103 : decode cX7_tests 103 = .ok (.iload 4, 2) := by decide +kernel
theorem dX7_tests_105 : decode cX7_tests 105 = .ok (.aload_n 0, 1) := by decide +kernel
theorem dX7_tests_106 : decode cX7_tests 106 = .ok (.iload_n 1, 1) := by decide +kernel
theorem dX7_tests_107 : decode cX7_tests 107 = .ok (.iconst 2, 1) := by decide +kernel
theorem dX7_tests_108 : decode cX7_tests 108 = .ok (.invokevirtual 64, 3) := by decide +kernel
theorem dX7_tests_111 : decode cX7_tests 111 = .ok (.invokestatic 94, 3) := by decide +kernel
theorem dX7_tests_114 : decode cX7_tests 114 = .ok (.iastore, 1) := by decide +kernel
theorem dX7_tests_115 : decode cX7_tests 115 = .ok (.aload_n 0, 1) := by decide +kernel
theorem dX7_tests_116 : decode cX7_tests 116 = .ok (.getfield 28, 3) := by decide +kernel
theorem dX7_tests_119 : decode cX7_tests 119 = .ok (.iload 6, 2) := by decide +kernel
theorem dX7_tests_121 : decode cX7_tests 121 = .ok (.iaload, 1) := by decide +kernel
theorem dX7_tests_122 : decode cX7_tests 122 = .ok (.iload 8, 2) := by decide +kernel
theorem dX7_tests_124 : decode cX7_tests 124 = .ok (.isub, 1) := by decide +kernel
theorem dX7_tests_125 : decode cX7_tests 125 = .ok (.invokestatic 58, 3) := by decide +kernel
theorem dX7_tests_128 : decode cX7_tests 128 = .ok (.istore 9, 2) := by decide +kernel
theorem dX7_tests_130 : decode cX7_tests 130 = .ok (.aload_n 0, 1) := by decide +kernel
theorem dX7_tests_131 : decode cX7_tests 131 = .ok (.iload 9, 2) := by decide +kernel
theorem dX7_tests_133 : decode cX7_tests 133 = .ok (.aload_n 0, 1) := by decide +kernel
theorem dX7_tests_134 : decode cX7_tests 134 = .ok (.getfield 85, 3) := by decide +kernel
theorem dX7_tests_137 : decode cX7_tests 137 = .ok (.if_icmp .le 8, 3) := by decide +kernel
theorem dX7_tests_140 : decode cX7_tests 140 = .ok (.iload 6, 2) := by decide +kernel
theorem dX7_tests_142 : decode cX7_tests 142 = .ok (.goto 7, 3) := by decide +kernel
theorem dX7_tests_145 : decode cX7_tests 145 = .ok (.aload_n 0, 1) := by decide +kernel
theorem dX7_tests_146 : decode cX7_tests 146 = .ok (.getfield 88, 3) := by decide +kernel
theorem dX7_tests_149 : decode cX7_tests 149 = .ok (.putfield 88, 3) := by decide +kernel
theorem dX7_tests_152 : decode cX7_tests 152 = .ok (.aload_n 0, 1) := by decide +kernel
theorem dX7_tests_153 : decode cX7_tests 153 = .ok (.iload 9, 2) := by decide +kernel
theorem dX7_tests_155 : decode cX7_tests 155 = .ok (.aload_n 0, 1) := by decide +kernel
theorem dX7_tests_156 : decode cX7_tests 156 = .ok (.getfield 85, 3) := by decide +kernel
theorem dX7_tests_159 : decode cX7_tests 159 = .ok (.if_icmp .le 8, 3) := by decide +kernel
theorem dX7_tests_162 : decode cX7_tests 162 = .ok (.iload 9, 2) := by decide +kernel
theorem dX7_tests_164 : decode cX7_tests 164 = .ok (.goto 7, 3) := by decide +kernel
theorem dX7_tests_167 : decode cX7_tests 167 = .ok (.aload_n 0, 1) := by decide +kernel
theorem dX7_tests_168 : decode cX7_tests 168 = .ok (.getfield 85, 3) := by decide +kernel
theorem dX7_tests_171 : decode cX7_tests 171 = .ok (.putfield 85, 3) := by decide +kernel
theorem dX7_tests_174 : decode cX7_tests 174 = .ok (.iinc 6 1, 3) := by decide +kernel
theorem dX7_tests_177 : decode cX7_tests 177 = .ok (.goto (-147), 3) := by decide +kernel
theorem dX7_tests_180 : decode cX7_tests 180 = .ok (.return_, 1) := by decide +kernel
theorem dX7_isValue_0 : decode cX7_isValue 0 = .ok (.iload_n 0, 1) := by decide +kernel
theorem dX7_isValue_1 : decode cX7_isValue 1 = .ok (.ifCond .ne 13, 3) := by decide +kernel
theorem dX7_isValue_4 : decode cX7_isValue 4 = .ok (.iload_n 1, 1) := by decide +kernel
theorem dX7_isValue_5 : decode cX7_isValue 5 = .ok (.iconst 0, 1) := by decide +kernel
theorem dX7_isValue_6 : decode cX7_isValue 6 = .ok (.bipush 9, 2) := by decide +kernel
theorem dX7_isValue_8 : decode cX7_isValue 8 = .ok (.invokestatic 39, 3) := by decide +kernel
theorem dX7_isValue_11 : decode cX7_isValue 11 = .ok (.goto 39, 3) := by decide +kernel
theorem dX7_isValue_14 : decode cX7_isValue 14 = .ok (.iload_n 0, 1) := by decide +kernel
theorem dX7_isValue_15 : decode cX7_isValue 15 = .ok (.iconst 1, 1) := by decide +kernel
theorem dX7_isValue_16 : decode cX7_isValue 16 = .ok (.if_icmp .ne 13, 3) := by decide +kernel
theorem dX7_isValue_19 : decode cX7_isValue 19 = .ok (.iload_n 1, 1) := by decide +kernel
theorem dX7_isValue_20 : decode cX7_isValue 20 = .ok (.iconst 1, 1) := by decide +kernel
theorem dX7_isValue_21 : decode cX7_isValue 21 = .ok (.bipush 99, 2) := by decide +kernel
theorem dX7_isValue_23 : decode cX7_isValue 23 = .ok (.invokestatic 39, 3) := by decide +kernel
theorem dX7_isValue_26 : decode cX7_isValue 26 = .ok (.goto 24, 3) := by decide +kernel
theorem dX7_isValue_29 : decode cX7_isValue 29 = .ok (.iload_n 0, 1) := by decide +kernel
theorem dX7_isValue_30 : decode cX7_isValue 30 = .ok (.iconst 2, 1) := by decide +kernel
theorem dX7_isValue_31 : decode cX7_isValue 31 = .ok (.if_icmp .ne 18, 3) := by decide +kernel
theorem dX7_isValue_34 : decode cX7_isValue 34 = .ok (.iload_n 1, 1) := by decide +kernel
theorem dX7_isValue_35 : decode cX7_isValue 35 = .ok (.iconst 0, 1) := by decide +kernel
theorem dX7_isValue_36 : decode cX7_isValue 36 = .ok (.sipush 999, 3) := by decide +kernel
theorem dX7_isValue_39 : decode cX7_isValue 39 = .ok (.invokestatic 39, 3) := by decide +kernel
theorem dX7_isValue_42 : decode cX7_isValue 42 = .ok (.ifCond .eq 7, 3) := by decide +kernel
theorem dX7_isValue_45 : decode cX7_isValue 45 = .ok (.iconst 1, 1) := by decide +kernel
theorem dX7_isValue_46 : decode cX7_isValue 46 = .ok (.goto 4, 3) := by decide +kernel
theorem dX7_isValue_49 : decode cX7_isValue 49 = .ok (.iconst 0, 1) := by decide +kernel
theorem dX7_isValue_50 : decode cX7_isValue 50 = .ok (.ireturn, 1) := by decide +kernel
theorem dX7_sets_0 : decode cX7_sets 0 = .ok (.aload_n 0, 1) := by decide +kernel
theorem dX7_sets_1 : decode cX7_sets 1 = .ok (.getfield 7, 3) := by decide +kernel
theorem dX7_sets_4 : decode cX7_sets 4 = .ok (.iload_n 1, 1) := by decide +kernel
theorem dX7_sets_5 : decode cX7_sets 5 = .ok (.iaload, 1) := by decide +kernel
theorem dX7_sets_6 : decode cX7_sets 6 = .ok (.istore_n 3, 1) := by decide +kernel
theorem dX7_sets_7 : decode cX7_sets 7 = .ok (.aload_n 0, 1) := by decide +kernel
theorem dX7_sets_8 : decode cX7_sets 8 = .ok (.getfield 7, 3) := by decide +kernel
theorem dX7_sets_11 : decode cX7_sets 11 = .ok (.iload_n 1, 1) := by decide +kernel
theorem dX7_sets_12 : decode cX7_sets 12 = .ok (.iload_n 2, 1) := by decide +kernel
theorem dX7_sets_13 : decode cX7_sets 13 = .ok (.iastore, 1) := by decide +kernel
theorem dX7_sets_14 : decode cX7_sets 14 = .ok (.iload_n 1, 1) := by decide +kernel
theorem dX7_sets_15 : decode cX7_sets 15 = .ok (.iconst 1, 1) := by decide +kernel
theorem dX7_sets_16 : decode cX7_sets 16 = .ok (.if_icmp .ne 7, 3) := by decide +kernel
theorem dX7_sets_19 : decode cX7_sets 19 = .ok (.aload_n 0, 1) := by decide +kernel
theorem dX7_sets_20 : decode cX7_sets 20 = .ok (.invokevirtual 97, 3) := by decide +kernel
theorem dX7_sets_23 : decode cX7_sets 23 = .ok (.aload_n 0, 1) := by decide +kernel
theorem dX7_sets_24 : decode cX7_sets 24 = .ok (.invokevirtual 100, 3) := by decide +kernel
theorem dX7_sets_27 : decode cX7_sets 27 = .ok (.iload_n 3, 1) := by decide +kernel
theorem dX7_sets_28 : decode cX7_sets 28 = .ok (.ireturn, 1) := by decide +kernel
theorem dX7_set_0 : decode cX7_set 0 = .ok (.iload_n 1, 1) := by decide +kernel
theorem dX7_set_1 : decode cX7_set 1 = .ok (.iload_n 2, 1) := by decide +kernel
theorem dX7_set_2 : decode cX7_set 2 = .ok (.invokestatic 103, 3) := by decide +kernel
theorem dX7_set_5 : decode cX7_set 5 = .ok (.ifCond .ne 6, 3) := by decide +kernel
theorem dX7_set_8 : decode cX7_set 8 = .ok (.bipush (-2), 2) := by decide +kernel
theorem dX7_set_10 : decode cX7_set 10 = .ok (.ireturn, 1) := by decide +kernel
theorem dX7_set_11 : decode cX7_set 11 = .ok (.aload_n 0, 1) := by decide +kernel
theorem dX7_set_12 : decode cX7_set 12 = .ok (.invokevirtual 107, 3) := by decide +kernel
theorem dX7_set_15 : decode cX7_set 15 = .ok (.aload_n 0, 1) := by decide +kernel
theorem dX7_set_16 : decode cX7_set 16 = .ok (.iload_n 1, 1) := by decide +kernel
theorem dX7_set_17 : decode cX7_set 17 = .ok (.iload_n 2, 1) := by decide +kernel
theorem dX7_set_18 : decode cX7_set 18 = .ok (.invokevirtual 110, 3) := by decide +kernel
theorem dX7_set_21 : decode cX7_set 21 = .ok (.ireturn, 1) := by decide +kernel
theorem dX7_whyNoRing_0 : decode cX7_whyNoRing 0 = .ok (.iload_n 1, 1) := by decide +kernel
theorem dX7_whyNoRing_1 : decode cX7_whyNoRing 1 = .ok (.iconst 1, 1) := by decide +kernel
theorem dX7_whyNoRing_2 : decode cX7_whyNoRing 2 = .ok (.sipush 9999, 3) := by decide +kernel
theorem dX7_whyNoRing_5 : decode cX7_whyNoRing 5 = .ok (.invokestatic 39, 3) := by decide +kernel
theorem dX7_whyNoRing_8 : decode cX7_whyNoRing 8 = .ok (.ifCond .ne 8, 3) := by decide +kernel
theorem dX7_whyNoRing_11 : decode cX7_whyNoRing 11 = .ok (.bipush (-2), 2) := by decide +kernel
theorem dX7_whyNoRing_13 : decode cX7_whyNoRing 13 = .ok (.goto 20, 3) := by decide +kernel
theorem dX7_whyNoRing_16 : decode cX7_whyNoRing 16 = .ok (.aload_n 0, 1) := by decide +kernel
theorem dX7_whyNoRing_17 : decode cX7_whyNoRing 17 = .ok (.getfield 7, 3) := by decide +kernel
theorem dX7_whyNoRing_20 : decode cX7_whyNoRing 20 = .ok (.iconst 3, 1) := by decide +kernel
theorem dX7_whyNoRing_21 : decode cX7_whyNoRing 21 = .ok (.iaload, 1) := by decide +kernel
theorem dX7_whyNoRing_22 : decode cX7_whyNoRing 22 = .ok (.bipush 14, 2) := by decide +kernel
theorem dX7_whyNoRing_24 : decode cX7_whyNoRing 24 = .ok (.if_icmp .ne 8, 3) := by decide +kernel
theorem dX7_whyNoRing_27 : decode cX7_whyNoRing 27 = .ok (.bipush (-4), 2) := by decide +kernel
theorem dX7_whyNoRing_29 : decode cX7_whyNoRing 29 = .ok (.goto 4, 3) := by decide +kernel
theorem dX7_whyNoRing_32 : decode cX7_whyNoRing 32 = .ok (.iconst 0, 1) := by decide +kernel
theorem dX7_whyNoRing_33 : decode cX7_whyNoRing 33 = .ok (.ireturn, 1) := by decide +kernel
theorem dX7_comes_0 : decode cX7_comes 0 = .ok (.aload_n 0, 1) := by decide +kernel
theorem dX7_comes_1 : decode cX7_comes 1 = .ok (.getfield 7, 3) := by decide +kernel
theorem dX7_comes_4 : decode cX7_comes 4 = .ok (.bipush 6, 2) := by decide +kernel
theorem dX7_comes_6 : decode cX7_comes 6 = .ok (.aload_n 0, 1) := by decide +kernel
theorem dX7_comes_7 : decode cX7_comes 7 = .ok (.getfield 7, 3) := by decide +kernel
theorem dX7_comes_10 : decode cX7_comes 10 = .ok (.iconst 3, 1) := by decide +kernel
theorem dX7_comes_11 : decode cX7_comes 11 = .ok (.iaload, 1) := by decide +kernel
theorem dX7_comes_12 : decode cX7_comes 12 = .ok (.iadd, 1) := by decide +kernel
theorem dX7_comes_13 : decode cX7_comes 13 = .ok (.iload_n 1, 1) := by decide +kernel
theorem dX7_comes_14 : decode cX7_comes 14 = .ok (.iastore, 1) := by decide +kernel
theorem dX7_comes_15 : decode cX7_comes 15 = .ok (.aload_n 0, 1) := by decide +kernel
theorem dX7_comes_16 : decode cX7_comes 16 = .ok (.getfield 7, 3) := by decide +kernel
theorem dX7_comes_19 : decode cX7_comes 19 = .ok (.iconst 3, 1) := by decide +kernel
theorem dX7_comes_20 : decode cX7_comes 20 = .ok (.dup2, 1) := by decide +kernel
theorem dX7_comes_21 : decode cX7_comes 21 = .ok (.iaload, 1) := by decide +kernel
theorem dX7_comes_22 : decode cX7_comes 22 = .ok (.iconst 1, 1) := by decide +kernel
theorem dX7_comes_23 : decode cX7_comes 23 = .ok (.iadd, 1) := by decide +kernel
theorem dX7_comes_24 : decode cX7_comes 24 = .ok (.iastore, 1) := by decide +kernel
theorem dX7_comes_25 : decode cX7_comes 25 = .ok (.aload_n 0, 1) := by decide +kernel
theorem dX7_comes_26 : decode cX7_comes 26 = .ok (.invokevirtual 97, 3) := by decide +kernel
theorem dX7_comes_29 : decode cX7_comes 29 = .ok (.aload_n 0, 1) := by decide +kernel
theorem dX7_comes_30 : decode cX7_comes 30 = .ok (.getfield 7, 3) := by decide +kernel
theorem dX7_comes_33 : decode cX7_comes 33 = .ok (.iconst 3, 1) := by decide +kernel
theorem dX7_comes_34 : decode cX7_comes 34 = .ok (.iaload, 1) := by decide +kernel
theorem dX7_comes_35 : decode cX7_comes 35 = .ok (.iconst 1, 1) := by decide +kernel
theorem dX7_comes_36 : decode cX7_comes 36 = .ok (.isub, 1) := by decide +kernel
theorem dX7_comes_37 : decode cX7_comes 37 = .ok (.ireturn, 1) := by decide +kernel
theorem dX7_ring_0 : decode cX7_ring 0 = .ok (.aload_n 0, 1) := by decide +kernel
theorem dX7_ring_1 : decode cX7_ring 1 = .ok (.iload_n 1, 1) := by decide +kernel
theorem dX7_ring_2 : decode cX7_ring 2 = .ok (.invokevirtual 113, 3) := by decide +kernel
theorem dX7_ring_5 : decode cX7_ring 5 = .ok (.istore_n 2, 1) := by decide +kernel
theorem dX7_ring_6 : decode cX7_ring 6 = .ok (.iload_n 2, 1) := by decide +kernel
theorem dX7_ring_7 : decode cX7_ring 7 = .ok (.ifCond .ge 5, 3) := by decide +kernel
theorem dX7_ring_10 : decode cX7_ring 10 = .ok (.iload_n 2, 1) := by decide +kernel
theorem dX7_ring_11 : decode cX7_ring 11 = .ok (.ireturn, 1) := by decide +kernel
theorem dX7_ring_12 : decode cX7_ring 12 = .ok (.aload_n 0, 1) := by decide +kernel
theorem dX7_ring_13 : decode cX7_ring 13 = .ok (.invokevirtual 107, 3) := by decide +kernel
theorem dX7_ring_16 : decode cX7_ring 16 = .ok (.aload_n 0, 1) := by decide +kernel
theorem dX7_ring_17 : decode cX7_ring 17 = .ok (.iload_n 1, 1) := by decide +kernel
theorem dX7_ring_18 : decode cX7_ring 18 = .ok (.invokevirtual 116, 3) := by decide +kernel
theorem dX7_ring_21 : decode cX7_ring 21 = .ok (.ireturn, 1) := by decide +kernel
theorem dX7_lose_0 : decode cX7_lose 0 = .ok (.aload_n 0, 1) := by decide +kernel
theorem dX7_lose_1 : decode cX7_lose 1 = .ok (.getfield 7, 3) := by decide +kernel
theorem dX7_lose_4 : decode cX7_lose 4 = .ok (.iconst 3, 1) := by decide +kernel
theorem dX7_lose_5 : decode cX7_lose 5 = .ok (.iaload, 1) := by decide +kernel
theorem dX7_lose_6 : decode cX7_lose 6 = .ok (.ifCond .ne 6, 3) := by decide +kernel
theorem dX7_lose_9 : decode cX7_lose 9 = .ok (.bipush (-5), 2) := by decide +kernel
theorem dX7_lose_11 : decode cX7_lose 11 = .ok (.ireturn, 1) := by decide +kernel
theorem dX7_lose_12 : decode cX7_lose 12 = .ok (.aload_n 0, 1) := by decide +kernel
theorem dX7_lose_13 : decode cX7_lose 13 = .ok (.invokevirtual 107, 3) := by decide +kernel
theorem dX7_lose_16 : decode cX7_lose 16 = .ok (.aload_n 0, 1) := by decide +kernel
theorem dX7_lose_17 : decode cX7_lose 17 = .ok (.getfield 7, 3) := by decide +kernel
theorem dX7_lose_20 : decode cX7_lose 20 = .ok (.iconst 3, 1) := by decide +kernel
theorem dX7_lose_21 : decode cX7_lose 21 = .ok (.dup2, 1) := by decide +kernel
theorem dX7_lose_22 : decode cX7_lose 22 = .ok (.iaload, 1) := by decide +kernel
theorem dX7_lose_23 : decode cX7_lose 23 = .ok (.iconst 1, 1) := by decide +kernel
theorem dX7_lose_24 : decode cX7_lose 24 = .ok (.isub, 1) := by decide +kernel
theorem dX7_lose_25 : decode cX7_lose 25 = .ok (.iastore, 1) := by decide +kernel
theorem dX7_lose_26 : decode cX7_lose 26 = .ok (.aload_n 0, 1) := by decide +kernel
theorem dX7_lose_27 : decode cX7_lose 27 = .ok (.getfield 7, 3) := by decide +kernel
theorem dX7_lose_30 : decode cX7_lose 30 = .ok (.iconst 3, 1) := by decide +kernel
theorem dX7_lose_31 : decode cX7_lose 31 = .ok (.iaload, 1) := by decide +kernel
theorem dX7_lose_32 : decode cX7_lose 32 = .ok (.istore_n 1, 1) := by decide +kernel
theorem dX7_lose_33 : decode cX7_lose 33 = .ok (.aload_n 0, 1) := by decide +kernel
theorem dX7_lose_34 : decode cX7_lose 34 = .ok (.getfield 7, 3) := by decide +kernel
theorem dX7_lose_37 : decode cX7_lose 37 = .ok (.bipush 6, 2) := by decide +kernel
theorem dX7_lose_39 : decode cX7_lose 39 = .ok (.iload_n 1, 1) := by decide +kernel
theorem dX7_lose_40 : decode cX7_lose 40 = .ok (.iadd, 1) := by decide +kernel
theorem dX7_lose_41 : decode cX7_lose 41 = .ok (.iaload, 1) := by decide +kernel
theorem dX7_lose_42 : decode cX7_lose 42 = .ok (.istore_n 2, 1) := by decide +kernel
theorem dX7_lose_43 : decode cX7_lose 43 = .ok (.aload_n 0, 1) := by decide +kernel
theorem dX7_lose_44 : decode cX7_lose 44 = .ok (.getfield 7, 3) := by decide +kernel
theorem dX7_lose_47 : decode cX7_lose 47 = .ok (.bipush 6, 2) := by decide +kernel
theorem dX7_lose_49 : decode cX7_lose 49 = .ok (.iload_n 1, 1) := by decide +kernel
theorem dX7_lose_50 : decode cX7_lose 50 = .ok (.iadd, 1) := by decide +kernel
theorem dX7_lose_51 : decode cX7_lose 51 = .ok (.iconst 0, 1) := by decide +kernel
theorem dX7_lose_52 : decode cX7_lose 52 = .ok (.iastore, 1) := by decide +kernel
theorem dX7_lose_53 : decode cX7_lose 53 = .ok (.aload_n 0, 1) := by decide +kernel
theorem dX7_lose_54 : decode cX7_lose 54 = .ok (.getfield 7, 3) := by decide +kernel
theorem dX7_lose_57 : decode cX7_lose 57 = .ok (.iconst 4, 1) := by decide +kernel
theorem dX7_lose_58 : decode cX7_lose 58 = .ok (.dup2, 1) := by decide +kernel
theorem dX7_lose_59 : decode cX7_lose 59 = .ok (.iaload, 1) := by decide +kernel
theorem dX7_lose_60 : decode cX7_lose 60 = .ok (.iconst 1, 1) := by decide +kernel
theorem dX7_lose_61 : decode cX7_lose 61 = .ok (.iload_n 1, 1) := by decide +kernel
theorem dX7_lose_62 : decode cX7_lose 62 = .ok (.ishl, 1) := by decide +kernel
theorem dX7_lose_63 : decode cX7_lose 63 = .ok (.iconst (-1), 1) := by decide +kernel
theorem dX7_lose_64 : decode cX7_lose 64 = .ok (.ixor, 1) := by decide +kernel
theorem dX7_lose_65 : decode cX7_lose 65 = .ok (.iand, 1) := by decide +kernel
theorem dX7_lose_66 : decode cX7_lose 66 = .ok (.iastore, 1) := by decide +kernel
theorem dX7_lose_67 : decode cX7_lose 67 = .ok (.aload_n 0, 1) := by decide +kernel
theorem dX7_lose_68 : decode cX7_lose 68 = .ok (.invokevirtual 97, 3) := by decide +kernel
theorem dX7_lose_71 : decode cX7_lose 71 = .ok (.aload_n 0, 1) := by decide +kernel
theorem dX7_lose_72 : decode cX7_lose 72 = .ok (.invokevirtual 100, 3) := by decide +kernel
theorem dX7_lose_75 : decode cX7_lose 75 = .ok (.iload_n 2, 1) := by decide +kernel
theorem dX7_lose_76 : decode cX7_lose 76 = .ok (.ireturn, 1) := by decide +kernel
theorem dX7_whyNotMoved_0 : decode cX7_whyNotMoved 0 = .ok (.aload_n 0, 1) := by decide +kernel
theorem dX7_whyNotMoved_1 : decode cX7_whyNotMoved 1 = .ok (.iload_n 1, 1) := by decide +kernel
theorem dX7_whyNotMoved_2 : decode cX7_whyNotMoved 2 = .ok (.invokevirtual 119, 3) := by decide +kernel
theorem dX7_whyNotMoved_5 : decode cX7_whyNotMoved 5 = .ok (.ifCond .ne 7, 3) := by decide +kernel
theorem dX7_whyNotMoved_8 : decode cX7_whyNotMoved 8 = .ok (.iconst (-1), 1) := by decide +kernel
theorem dX7_whyNotMoved_9 : decode cX7_whyNotMoved 9 = .ok (.goto 18, 3) := by decide +kernel
theorem dX7_whyNotMoved_12 : decode cX7_whyNotMoved 12 = .ok (.aload_n 0, 1) := by decide +kernel
theorem dX7_whyNotMoved_13 : decode cX7_whyNotMoved 13 = .ok (.iload_n 1, 1) := by decide +kernel
theorem dX7_whyNotMoved_14 : decode cX7_whyNotMoved 14 = .ok (.invokevirtual 123, 3) := by decide +kernel
theorem dX7_whyNotMoved_17 : decode cX7_whyNotMoved 17 = .ok (.iload_n 2, 1) := by decide +kernel
theorem dX7_whyNotMoved_18 : decode cX7_whyNotMoved 18 = .ok (.if_icmp .ne 7, 3) := by decide +kernel
theorem dX7_whyNotMoved_21 : decode cX7_whyNotMoved 21 = .ok (.iconst 0, 1) := by decide +kernel
theorem dX7_whyNotMoved_22 : decode cX7_whyNotMoved 22 = .ok (.goto 5, 3) := by decide +kernel
theorem dX7_whyNotMoved_25 : decode cX7_whyNotMoved 25 = .ok (.bipush (-5), 2) := by decide +kernel
theorem dX7_whyNotMoved_27 : decode cX7_whyNotMoved 27 = .ok (.ireturn, 1) := by decide +kernel
theorem dX7_isMoved_0 : decode cX7_isMoved 0 = .ok (.aload_n 0, 1) := by decide +kernel
theorem dX7_isMoved_1 : decode cX7_isMoved 1 = .ok (.getfield 7, 3) := by decide +kernel
theorem dX7_isMoved_4 : decode cX7_isMoved 4 = .ok (.iconst 4, 1) := by decide +kernel
theorem dX7_isMoved_5 : decode cX7_isMoved 5 = .ok (.dup2, 1) := by decide +kernel
theorem dX7_isMoved_6 : decode cX7_isMoved 6 = .ok (.iaload, 1) := by decide +kernel
theorem dX7_isMoved_7 : decode cX7_isMoved 7 = .ok (.iconst 1, 1) := by decide +kernel
theorem dX7_isMoved_8 : decode cX7_isMoved 8 = .ok (.iload_n 1, 1) := by decide +kernel
theorem dX7_isMoved_9 : decode cX7_isMoved 9 = .ok (.ishl, 1) := by decide +kernel
theorem dX7_isMoved_10 : decode cX7_isMoved 10 = .ok (.ixor, 1) := by decide +kernel
theorem dX7_isMoved_11 : decode cX7_isMoved 11 = .ok (.iastore, 1) := by decide +kernel
theorem dX7_isMoved_12 : decode cX7_isMoved 12 = .ok (.aload_n 0, 1) := by decide +kernel
theorem dX7_isMoved_13 : decode cX7_isMoved 13 = .ok (.invokevirtual 100, 3) := by decide +kernel
theorem dX7_isMoved_16 : decode cX7_isMoved 16 = .ok (.aload_n 0, 1) := by decide +kernel
theorem dX7_isMoved_17 : decode cX7_isMoved 17 = .ok (.aload_n 0, 1) := by decide +kernel
theorem dX7_isMoved_18 : decode cX7_isMoved 18 = .ok (.getfield 7, 3) := by decide +kernel
theorem dX7_isMoved_21 : decode cX7_isMoved 21 = .ok (.iconst 4, 1) := by decide +kernel
theorem dX7_isMoved_22 : decode cX7_isMoved 22 = .ok (.iaload, 1) := by decide +kernel
theorem dX7_isMoved_23 : decode cX7_isMoved 23 = .ok (.invokevirtual 67, 3) := by decide +kernel
theorem dX7_isMoved_26 : decode cX7_isMoved 26 = .ok (.ireturn, 1) := by decide +kernel
theorem dX7_stack_0 : decode cX7_stack 0 = .ok (.aload_n 0, 1) := by decide +kernel
theorem dX7_stack_1 : decode cX7_stack 1 = .ok (.iload_n 1, 1) := by decide +kernel
theorem dX7_stack_2 : decode cX7_stack 2 = .ok (.iconst 0, 1) := by decide +kernel
theorem dX7_stack_3 : decode cX7_stack 3 = .ok (.invokevirtual 126, 3) := by decide +kernel
theorem dX7_stack_6 : decode cX7_stack 6 = .ok (.istore_n 2, 1) := by decide +kernel
theorem dX7_stack_7 : decode cX7_stack 7 = .ok (.iload_n 2, 1) := by decide +kernel
theorem dX7_stack_8 : decode cX7_stack 8 = .ok (.ifCond .ge 5, 3) := by decide +kernel
theorem dX7_stack_11 : decode cX7_stack 11 = .ok (.iload_n 2, 1) := by decide +kernel
theorem dX7_stack_12 : decode cX7_stack 12 = .ok (.ireturn, 1) := by decide +kernel
theorem dX7_stack_13 : decode cX7_stack 13 = .ok (.aload_n 0, 1) := by decide +kernel
theorem dX7_stack_14 : decode cX7_stack 14 = .ok (.invokevirtual 107, 3) := by decide +kernel
theorem dX7_stack_17 : decode cX7_stack 17 = .ok (.aload_n 0, 1) := by decide +kernel
theorem dX7_stack_18 : decode cX7_stack 18 = .ok (.iload_n 1, 1) := by decide +kernel
theorem dX7_stack_19 : decode cX7_stack 19 = .ok (.invokevirtual 130, 3) := by decide +kernel
theorem dX7_stack_22 : decode cX7_stack 22 = .ok (.ireturn, 1) := by decide +kernel
theorem dX7_take_0 : decode cX7_take 0 = .ok (.aload_n 0, 1) := by decide +kernel
theorem dX7_take_1 : decode cX7_take 1 = .ok (.iload_n 1, 1) := by decide +kernel
theorem dX7_take_2 : decode cX7_take 2 = .ok (.iconst 1, 1) := by decide +kernel
theorem dX7_take_3 : decode cX7_take 3 = .ok (.invokevirtual 126, 3) := by decide +kernel
theorem dX7_take_6 : decode cX7_take 6 = .ok (.istore_n 2, 1) := by decide +kernel
theorem dX7_take_7 : decode cX7_take 7 = .ok (.iload_n 2, 1) := by decide +kernel
theorem dX7_take_8 : decode cX7_take 8 = .ok (.ifCond .ge 5, 3) := by decide +kernel
theorem dX7_take_11 : decode cX7_take 11 = .ok (.iload_n 2, 1) := by decide +kernel
theorem dX7_take_12 : decode cX7_take 12 = .ok (.ireturn, 1) := by decide +kernel
theorem dX7_take_13 : decode cX7_take 13 = .ok (.aload_n 0, 1) := by decide +kernel
theorem dX7_take_14 : decode cX7_take 14 = .ok (.invokevirtual 107, 3) := by decide +kernel
theorem dX7_take_17 : decode cX7_take 17 = .ok (.aload_n 0, 1) := by decide +kernel
theorem dX7_take_18 : decode cX7_take 18 = .ok (.iload_n 1, 1) := by decide +kernel
theorem dX7_take_19 : decode cX7_take 19 = .ok (.invokevirtual 130, 3) := by decide +kernel
theorem dX7_take_22 : decode cX7_take 22 = .ok (.ireturn, 1) := by decide +kernel
theorem dX7_isError_0 : decode cX7_isError 0 = .ok (.iload_n 0, 1) := by decide +kernel
theorem dX7_isError_1 : decode cX7_isError 1 = .ok (.bipush (-99), 2) := by decide +kernel
theorem dX7_isError_3 : decode cX7_isError 3 = .ok (.bipush 99, 2) := by decide +kernel
theorem dX7_isError_5 : decode cX7_isError 5 = .ok (.invokestatic 39, 3) := by decide +kernel
theorem dX7_isError_8 : decode cX7_isError 8 = .ok (.ireturn, 1) := by decide +kernel
theorem dX7_whyNoGauge_0 : decode cX7_whyNoGauge 0 = .ok (.iload_n 1, 1) := by decide +kernel
theorem dX7_whyNoGauge_1 : decode cX7_whyNoGauge 1 = .ok (.invokestatic 133, 3) := by decide +kernel
theorem dX7_whyNoGauge_4 : decode cX7_whyNoGauge 4 = .ok (.ifCond .eq 23, 3) := by decide +kernel
theorem dX7_whyNoGauge_7 : decode cX7_whyNoGauge 7 = .ok (.iload_n 2, 1) := by decide +kernel
theorem dX7_whyNoGauge_8 : decode cX7_whyNoGauge 8 = .ok (.iconst 0, 1) := by decide +kernel
theorem dX7_whyNoGauge_9 : decode cX7_whyNoGauge 9 = .ok (.bipush 99, 2) := by decide +kernel
theorem dX7_whyNoGauge_11 : decode cX7_whyNoGauge 11 = .ok (.invokestatic 39, 3) := by decide +kernel
theorem dX7_whyNoGauge_14 : decode cX7_whyNoGauge 14 = .ok (.ifCond .eq 13, 3) := by decide +kernel
theorem dX7_whyNoGauge_17 : decode cX7_whyNoGauge 17 = .ok (.iload_n 3, 1) := by decide +kernel
theorem dX7_whyNoGauge_18 : decode cX7_whyNoGauge 18 = .ok (.iconst 1, 1) := by decide +kernel
theorem dX7_whyNoGauge_19 : decode cX7_whyNoGauge 19 = .ok (.bipush 99, 2) := by decide +kernel
theorem dX7_whyNoGauge_21 : decode cX7_whyNoGauge 21 = .ok (.invokestatic 39, 3) := by decide +kernel
theorem dX7_whyNoGauge_24 : decode cX7_whyNoGauge 24 = .ok (.ifCond .ne 6, 3) := by decide +kernel
theorem dX7_whyNoGauge_27 : decode cX7_whyNoGauge 27 = .ok (.bipush (-2), 2) := by decide +kernel
theorem dX7_whyNoGauge_29 : decode cX7_whyNoGauge 29 = .ok (.ireturn, 1) := by decide +kernel
theorem dX7_whyNoGauge_30 : decode cX7_whyNoGauge 30 = .ok (.aload_n 0, 1) := by decide +kernel
theorem dX7_whyNoGauge_31 : decode cX7_whyNoGauge 31 = .ok (.getfield 7, 3) := by decide +kernel
theorem dX7_whyNoGauge_34 : decode cX7_whyNoGauge 34 = .ok (.iconst 5, 1) := by decide +kernel
theorem dX7_whyNoGauge_35 : decode cX7_whyNoGauge 35 = .ok (.iaload, 1) := by decide +kernel
theorem dX7_whyNoGauge_36 : decode cX7_whyNoGauge 36 = .ok (.bipush 6, 2) := by decide +kernel
theorem dX7_whyNoGauge_38 : decode cX7_whyNoGauge 38 = .ok (.if_icmp .ne 8, 3) := by decide +kernel
theorem dX7_whyNoGauge_41 : decode cX7_whyNoGauge 41 = .ok (.bipush (-4), 2) := by decide +kernel
theorem dX7_whyNoGauge_43 : decode cX7_whyNoGauge 43 = .ok (.goto 4, 3) := by decide +kernel
theorem dX7_whyNoGauge_46 : decode cX7_whyNoGauge 46 = .ok (.iconst 0, 1) := by decide +kernel
theorem dX7_whyNoGauge_47 : decode cX7_whyNoGauge 47 = .ok (.ireturn, 1) := by decide +kernel
theorem dX7_comesGauge_0 : decode cX7_comesGauge 0 = .ok (.aload_n 0, 1) := by decide +kernel
theorem dX7_comesGauge_1 : decode cX7_comesGauge 1 = .ok (.getfield 7, 3) := by decide +kernel
theorem dX7_comesGauge_4 : decode cX7_comesGauge 4 = .ok (.iconst 5, 1) := by decide +kernel
theorem dX7_comesGauge_5 : decode cX7_comesGauge 5 = .ok (.iaload, 1) := by decide +kernel
theorem dX7_comesGauge_6 : decode cX7_comesGauge 6 = .ok (.istore 4, 2) := by decide +kernel
theorem dX7_comesGauge_8 : decode cX7_comesGauge 8 = .ok (.iconst 0, 1) := by decide +kernel
theorem dX7_comesGauge_9 : decode cX7_comesGauge 9 = .ok (.istore 5, 2) := by decide +kernel
theorem dX7_comesGauge_11 : decode cX7_comesGauge 11 = .ok (.iload 5, 2) := by decide +kernel
theorem dX7_comesGauge_13 : decode cX7_comesGauge 13 = .ok (.bipush 36, 2) := by decide +kernel
theorem dX7_comesGauge_15 : decode cX7_comesGauge 15 = .ok (.if_icmp .ge 18, 3) := by decide +kernel
theorem dX7_comesGauge_18 : decode cX7_comesGauge 18 = .ok (.aload_n 0, 1) := by decide +kernel
theorem dX7_comesGauge_19 : decode cX7_comesGauge 19 = .ok (.iload 4, 2) := by decide +kernel
theorem dX7_comesGauge_21 : decode cX7_comesGauge 21 = .ok (.iload 5, 2) := by decide +kernel
theorem dX7_comesGauge_23 : decode cX7_comesGauge 23 = .ok (.iconst 0, 1) := by decide +kernel
theorem dX7_comesGauge_24 : decode cX7_comesGauge 24 = .ok (.invokevirtual 74, 3) := by decide +kernel
theorem dX7_comesGauge_27 : decode cX7_comesGauge 27 = .ok (.iinc 5 1, 3) := by decide +kernel
theorem dX7_comesGauge_30 : decode cX7_comesGauge 30 = .ok (.goto (-19), 3) := by decide +kernel
theorem dX7_comesGauge_33 : decode cX7_comesGauge 33 = .ok (.aload_n 0, 1) := by decide +kernel
theorem dX7_comesGauge_34 : decode cX7_comesGauge 34 = .ok (.iload 4, 2) := by decide +kernel
theorem dX7_comesGauge_36 : decode cX7_comesGauge 36 = .ok (.iconst 0, 1) := by decide +kernel
theorem dX7_comesGauge_37 : decode cX7_comesGauge 37 = .ok (.iload_n 1, 1) := by decide +kernel
theorem dX7_comesGauge_38 : decode cX7_comesGauge 38 = .ok (.invokevirtual 74, 3) := by decide +kernel
theorem dX7_comesGauge_41 : decode cX7_comesGauge 41 = .ok (.aload_n 0, 1) := by decide +kernel
theorem dX7_comesGauge_42 : decode cX7_comesGauge 42 = .ok (.iload 4, 2) := by decide +kernel
theorem dX7_comesGauge_44 : decode cX7_comesGauge 44 = .ok (.iconst 1, 1) := by decide +kernel
theorem dX7_comesGauge_45 : decode cX7_comesGauge 45 = .ok (.iload_n 2, 1) := by decide +kernel
theorem dX7_comesGauge_46 : decode cX7_comesGauge 46 = .ok (.invokevirtual 74, 3) := by decide +kernel
theorem dX7_comesGauge_49 : decode cX7_comesGauge 49 = .ok (.aload_n 0, 1) := by decide +kernel
theorem dX7_comesGauge_50 : decode cX7_comesGauge 50 = .ok (.iload 4, 2) := by decide +kernel
theorem dX7_comesGauge_52 : decode cX7_comesGauge 52 = .ok (.iconst 2, 1) := by decide +kernel
theorem dX7_comesGauge_53 : decode cX7_comesGauge 53 = .ok (.iload_n 3, 1) := by decide +kernel
theorem dX7_comesGauge_54 : decode cX7_comesGauge 54 = .ok (.invokevirtual 74, 3) := by decide +kernel
theorem dX7_comesGauge_57 : decode cX7_comesGauge 57 = .ok (.aload_n 0, 1) := by decide +kernel
theorem dX7_comesGauge_58 : decode cX7_comesGauge 58 = .ok (.getfield 7, 3) := by decide +kernel
theorem dX7_comesGauge_61 : decode cX7_comesGauge 61 = .ok (.iconst 5, 1) := by decide +kernel
theorem dX7_comesGauge_62 : decode cX7_comesGauge 62 = .ok (.dup2, 1) := by decide +kernel
theorem dX7_comesGauge_63 : decode cX7_comesGauge 63 = .ok (.iaload, 1) := by decide +kernel
theorem dX7_comesGauge_64 : decode cX7_comesGauge 64 = .ok (.iconst 1, 1) := by decide +kernel
theorem dX7_comesGauge_65 : decode cX7_comesGauge 65 = .ok (.iadd, 1) := by decide +kernel
theorem dX7_comesGauge_66 : decode cX7_comesGauge 66 = .ok (.iastore, 1) := by decide +kernel
theorem dX7_comesGauge_67 : decode cX7_comesGauge 67 = .ok (.aload_n 0, 1) := by decide +kernel
theorem dX7_comesGauge_68 : decode cX7_comesGauge 68 = .ok (.iload 4, 2) := by decide +kernel
theorem dX7_comesGauge_70 : decode cX7_comesGauge 70 = .ok (.invokevirtual 78, 3) := by decide +kernel
theorem dX7_comesGauge_73 : decode cX7_comesGauge 73 = .ok (.iload 4, 2) := by decide +kernel
theorem dX7_comesGauge_75 : decode cX7_comesGauge 75 = .ok (.ireturn, 1) := by decide +kernel
theorem dX7_gauge_0 : decode cX7_gauge 0 = .ok (.aload_n 0, 1) := by decide +kernel
theorem dX7_gauge_1 : decode cX7_gauge 1 = .ok (.iload_n 1, 1) := by decide +kernel
theorem dX7_gauge_2 : decode cX7_gauge 2 = .ok (.iload_n 2, 1) := by decide +kernel
theorem dX7_gauge_3 : decode cX7_gauge 3 = .ok (.iload_n 3, 1) := by decide +kernel
theorem dX7_gauge_4 : decode cX7_gauge 4 = .ok (.invokevirtual 136, 3) := by decide +kernel
theorem dX7_gauge_7 : decode cX7_gauge 7 = .ok (.istore 4, 2) := by decide +kernel
theorem dX7_gauge_9 : decode cX7_gauge 9 = .ok (.iload 4, 2) := by decide +kernel
theorem dX7_gauge_11 : decode cX7_gauge 11 = .ok (.ifCond .ge 6, 3) := by decide +kernel
theorem dX7_gauge_14 : decode cX7_gauge 14 = .ok (.iload 4, 2) := by decide +kernel
theorem dX7_gauge_16 : decode cX7_gauge 16 = .ok (.ireturn, 1) := by decide +kernel
theorem dX7_gauge_17 : decode cX7_gauge 17 = .ok (.aload_n 0, 1) := by decide +kernel
theorem dX7_gauge_18 : decode cX7_gauge 18 = .ok (.invokevirtual 107, 3) := by decide +kernel
theorem dX7_gauge_21 : decode cX7_gauge 21 = .ok (.aload_n 0, 1) := by decide +kernel
theorem dX7_gauge_22 : decode cX7_gauge 22 = .ok (.iload_n 1, 1) := by decide +kernel
theorem dX7_gauge_23 : decode cX7_gauge 23 = .ok (.iload_n 2, 1) := by decide +kernel
theorem dX7_gauge_24 : decode cX7_gauge 24 = .ok (.iload_n 3, 1) := by decide +kernel
theorem dX7_gauge_25 : decode cX7_gauge 25 = .ok (.invokevirtual 140, 3) := by decide +kernel
theorem dX7_gauge_28 : decode cX7_gauge 28 = .ok (.ireturn, 1) := by decide +kernel
theorem dX7_tune_0 : decode cX7_tune 0 = .ok (.aload_n 0, 1) := by decide +kernel
theorem dX7_tune_1 : decode cX7_tune 1 = .ok (.iload_n 1, 1) := by decide +kernel
theorem dX7_tune_2 : decode cX7_tune 2 = .ok (.invokevirtual 143, 3) := by decide +kernel
theorem dX7_tune_5 : decode cX7_tune 5 = .ok (.ifCond .eq 10, 3) := by decide +kernel
theorem dX7_tune_8 : decode cX7_tune 8 = .ok (.iload_n 2, 1) := by decide +kernel
theorem dX7_tune_9 : decode cX7_tune 9 = .ok (.invokestatic 133, 3) := by decide +kernel
theorem dX7_tune_12 : decode cX7_tune 12 = .ok (.ifCond .ne 18, 3) := by decide +kernel
theorem dX7_tune_15 : decode cX7_tune 15 = .ok (.aload_n 0, 1) := by decide +kernel
theorem dX7_tune_16 : decode cX7_tune 16 = .ok (.iload_n 1, 1) := by decide +kernel
theorem dX7_tune_17 : decode cX7_tune 17 = .ok (.invokevirtual 143, 3) := by decide +kernel
theorem dX7_tune_20 : decode cX7_tune 20 = .ok (.ifCond .eq 8, 3) := by decide +kernel
theorem dX7_tune_23 : decode cX7_tune 23 = .ok (.bipush (-2), 2) := by decide +kernel
theorem dX7_tune_25 : decode cX7_tune 25 = .ok (.goto 4, 3) := by decide +kernel
theorem dX7_tune_28 : decode cX7_tune 28 = .ok (.iconst (-1), 1) := by decide +kernel
theorem dX7_tune_29 : decode cX7_tune 29 = .ok (.ireturn, 1) := by decide +kernel
theorem dX7_tune_30 : decode cX7_tune 30 = .ok (.aload_n 0, 1) := by decide +kernel
theorem dX7_tune_31 : decode cX7_tune 31 = .ok (.invokevirtual 107, 3) := by decide +kernel
theorem dX7_tune_34 : decode cX7_tune 34 = .ok (.aload_n 0, 1) := by decide +kernel
theorem dX7_tune_35 : decode cX7_tune 35 = .ok (.iload_n 1, 1) := by decide +kernel
theorem dX7_tune_36 : decode cX7_tune 36 = .ok (.iconst 0, 1) := by decide +kernel
theorem dX7_tune_37 : decode cX7_tune 37 = .ok (.invokevirtual 64, 3) := by decide +kernel
theorem dX7_tune_40 : decode cX7_tune 40 = .ok (.istore_n 3, 1) := by decide +kernel
theorem dX7_tune_41 : decode cX7_tune 41 = .ok (.aload_n 0, 1) := by decide +kernel
theorem dX7_tune_42 : decode cX7_tune 42 = .ok (.iload_n 1, 1) := by decide +kernel
theorem dX7_tune_43 : decode cX7_tune 43 = .ok (.iconst 0, 1) := by decide +kernel
theorem dX7_tune_44 : decode cX7_tune 44 = .ok (.iload_n 2, 1) := by decide +kernel
theorem dX7_tune_45 : decode cX7_tune 45 = .ok (.invokevirtual 74, 3) := by decide +kernel
theorem dX7_tune_48 : decode cX7_tune 48 = .ok (.aload_n 0, 1) := by decide +kernel
theorem dX7_tune_49 : decode cX7_tune 49 = .ok (.iload_n 1, 1) := by decide +kernel
theorem dX7_tune_50 : decode cX7_tune 50 = .ok (.invokevirtual 82, 3) := by decide +kernel
theorem dX7_tune_53 : decode cX7_tune 53 = .ok (.aload_n 0, 1) := by decide +kernel
theorem dX7_tune_54 : decode cX7_tune 54 = .ok (.iload_n 1, 1) := by decide +kernel
theorem dX7_tune_55 : decode cX7_tune 55 = .ok (.invokevirtual 78, 3) := by decide +kernel
theorem dX7_tune_58 : decode cX7_tune 58 = .ok (.iload_n 3, 1) := by decide +kernel
theorem dX7_tune_59 : decode cX7_tune 59 = .ok (.bipush 100, 2) := by decide +kernel
theorem dX7_tune_61 : decode cX7_tune 61 = .ok (.iadd, 1) := by decide +kernel
theorem dX7_tune_62 : decode cX7_tune 62 = .ok (.ireturn, 1) := by decide +kernel
theorem dX7_whyNotCertified_0 : decode cX7_whyNotCertified 0 = .ok (.aload_n 0, 1) := by decide +kernel
theorem dX7_whyNotCertified_1 : decode cX7_whyNotCertified 1 = .ok (.iload_n 1, 1) := by decide +kernel
theorem dX7_whyNotCertified_2 : decode cX7_whyNotCertified 2 = .ok (.invokevirtual 143, 3) := by decide +kernel
theorem dX7_whyNotCertified_5 : decode cX7_whyNotCertified 5 = .ok (.ifCond .ne 7, 3) := by decide +kernel
theorem dX7_whyNotCertified_8 : decode cX7_whyNotCertified 8 = .ok (.iconst (-1), 1) := by decide +kernel
theorem dX7_whyNotCertified_9 : decode cX7_whyNotCertified 9 = .ok (.goto 18, 3) := by decide +kernel
theorem dX7_whyNotCertified_12 : decode cX7_whyNotCertified 12 = .ok (.aload_n 0, 1) := by decide +kernel
theorem dX7_whyNotCertified_13 : decode cX7_whyNotCertified 13 = .ok (.getfield 7, 3) := by decide +kernel
theorem dX7_whyNotCertified_16 : decode cX7_whyNotCertified 16 = .ok (.iconst 3, 1) := by decide +kernel
theorem dX7_whyNotCertified_17 : decode cX7_whyNotCertified 17 = .ok (.iaload, 1) := by decide +kernel
theorem dX7_whyNotCertified_18 : decode cX7_whyNotCertified 18 = .ok (.ifCond .ne 8, 3) := by decide +kernel
theorem dX7_whyNotCertified_21 : decode cX7_whyNotCertified 21 = .ok (.bipush (-5), 2) := by decide +kernel
theorem dX7_whyNotCertified_23 : decode cX7_whyNotCertified 23 = .ok (.goto 4, 3) := by decide +kernel
theorem dX7_whyNotCertified_26 : decode cX7_whyNotCertified 26 = .ok (.iconst 0, 1) := by decide +kernel
theorem dX7_whyNotCertified_27 : decode cX7_whyNotCertified 27 = .ok (.ireturn, 1) := by decide +kernel
theorem dX7_certifies_0 : decode cX7_certifies 0 = .ok (.aload_n 0, 1) := by decide +kernel
theorem dX7_certifies_1 : decode cX7_certifies 1 = .ok (.iload_n 1, 1) := by decide +kernel
theorem dX7_certifies_2 : decode cX7_certifies 2 = .ok (.aload_n 0, 1) := by decide +kernel
theorem dX7_certifies_3 : decode cX7_certifies 3 = .ok (.iload_n 1, 1) := by decide +kernel
theorem dX7_certifies_4 : decode cX7_certifies 4 = .ok (.iconst 0, 1) := by decide +kernel
theorem dX7_certifies_5 : decode cX7_certifies 5 = .ok (.invokevirtual 64, 3) := by decide +kernel
theorem dX7_certifies_8 : decode cX7_certifies 8 = .ok (.invokevirtual 146, 3) := by decide +kernel
theorem dX7_certifies_11 : decode cX7_certifies 11 = .ok (.aload_n 0, 1) := by decide +kernel
theorem dX7_certifies_12 : decode cX7_certifies 12 = .ok (.getfield 85, 3) := by decide +kernel
theorem dX7_certifies_15 : decode cX7_certifies 15 = .ok (.aload_n 0, 1) := by decide +kernel
theorem dX7_certifies_16 : decode cX7_certifies 16 = .ok (.getfield 7, 3) := by decide +kernel
theorem dX7_certifies_19 : decode cX7_certifies 19 = .ok (.iconst 2, 1) := by decide +kernel
theorem dX7_certifies_20 : decode cX7_certifies 20 = .ok (.iaload, 1) := by decide +kernel
theorem dX7_certifies_21 : decode cX7_certifies 21 = .ok (.if_icmp .gt 91, 3) := by decide +kernel
theorem dX7_certifies_24 : decode cX7_certifies 24 = .ok (.aload_n 0, 1) := by decide +kernel
theorem dX7_certifies_25 : decode cX7_certifies 25 = .ok (.iload_n 1, 1) := by decide +kernel
theorem dX7_certifies_26 : decode cX7_certifies 26 = .ok (.iconst 4, 1) := by decide +kernel
theorem dX7_certifies_27 : decode cX7_certifies 27 = .ok (.iconst 1, 1) := by decide +kernel
theorem dX7_certifies_28 : decode cX7_certifies 28 = .ok (.invokevirtual 74, 3) := by decide +kernel
theorem dX7_certifies_31 : decode cX7_certifies 31 = .ok (.aload_n 0, 1) := by decide +kernel
theorem dX7_certifies_32 : decode cX7_certifies 32 = .ok (.iload_n 1, 1) := by decide +kernel
theorem dX7_certifies_33 : decode cX7_certifies 33 = .ok (.iconst 5, 1) := by decide +kernel
theorem dX7_certifies_34 : decode cX7_certifies 34 = .ok (.aload_n 0, 1) := by decide +kernel
theorem dX7_certifies_35 : decode cX7_certifies 35 = .ok (.getfield 85, 3) := by decide +kernel
theorem dX7_certifies_38 : decode cX7_certifies 38 = .ok (.invokevirtual 74, 3) := by decide +kernel
theorem dX7_certifies_41 : decode cX7_certifies 41 = .ok (.aload_n 0, 1) := by decide +kernel
theorem dX7_certifies_42 : decode cX7_certifies 42 = .ok (.iload_n 1, 1) := by decide +kernel
theorem dX7_certifies_43 : decode cX7_certifies 43 = .ok (.bipush 6, 2) := by decide +kernel
theorem dX7_certifies_45 : decode cX7_certifies 45 = .ok (.aload_n 0, 1) := by decide +kernel
theorem dX7_certifies_46 : decode cX7_certifies 46 = .ok (.getfield 7, 3) := by decide +kernel
theorem dX7_certifies_49 : decode cX7_certifies 49 = .ok (.iconst 0, 1) := by decide +kernel
theorem dX7_certifies_50 : decode cX7_certifies 50 = .ok (.iaload, 1) := by decide +kernel
theorem dX7_certifies_51 : decode cX7_certifies 51 = .ok (.invokevirtual 74, 3) := by decide +kernel
theorem dX7_certifies_54 : decode cX7_certifies 54 = .ok (.aload_n 0, 1) := by decide +kernel
theorem dX7_certifies_55 : decode cX7_certifies 55 = .ok (.iload_n 1, 1) := by decide +kernel
theorem dX7_certifies_56 : decode cX7_certifies 56 = .ok (.bipush 7, 2) := by decide +kernel
theorem dX7_certifies_58 : decode cX7_certifies 58 = .ok (.aload_n 0, 1) := by decide +kernel
theorem dX7_certifies_59 : decode cX7_certifies 59 = .ok (.getfield 7, 3) := by decide +kernel
theorem dX7_certifies_62 : decode cX7_certifies 62 = .ok (.iconst 1, 1) := by decide +kernel
theorem dX7_certifies_63 : decode cX7_certifies 63 = .ok (.iaload, 1) := by decide +kernel
theorem dX7_certifies_64 : decode cX7_certifies 64 = .ok (.invokevirtual 74, 3) := by decide +kernel
theorem dX7_certifies_67 : decode cX7_certifies 67 = .ok (.iconst 0, 1) := by decide +kernel
theorem dX7_certifies_68 : decode cX7_certifies 68 = .ok (.istore_n 2, 1) := by decide +kernel
theorem dX7_certifies_69 : decode cX7_certifies 69 = .ok (.iload_n 2, 1) := by decide +kernel
theorem dX7_certifies_70 : decode cX7_certifies 70 = .ok (.bipush 28, 2) := by decide +kernel
theorem dX7_certifies_72 : decode cX7_certifies 72 = .ok (.if_icmp .ge 40, 3) := by decide +kernel
theorem dX7_certifies_75 : decode cX7_certifies 75 = .ok (.aload_n 0, 1) := by decide +kernel
theorem dX7_certifies_76 : decode cX7_certifies 76 = .ok (.iload_n 1, 1) := by decide +kernel
theorem dX7_certifies_77 : decode cX7_certifies 77 = .ok (.bipush 8, 2) := by decide +kernel
theorem dX7_certifies_79 : decode cX7_certifies 79 = .ok (.iload_n 2, 1) := by decide +kernel
theorem dX7_certifies_80 : decode cX7_certifies 80 = .ok (.iadd, 1) := by decide +kernel
theorem dX7_certifies_81 : decode cX7_certifies 81 = .ok (.iload_n 2, 1) := by decide +kernel
theorem dX7_certifies_82 : decode cX7_certifies 82 = .ok (.iconst 2, 1) := by decide +kernel
theorem dX7_certifies_83 : decode cX7_certifies 83 = .ok (.aload_n 0, 1) := by decide +kernel
theorem dX7_certifies_84 : decode cX7_certifies 84 = .ok (.getfield 7, 3) := by decide +kernel
theorem dX7_certifies_87 : decode cX7_certifies 87 = .ok (.iconst 3, 1) := by decide +kernel
theorem dX7_certifies_88 : decode cX7_certifies 88 = .ok (.iaload, 1) := by decide +kernel
theorem dX7_certifies_89 : decode cX7_certifies 89 = .ok (.imul, 1) := by decide +kernel
theorem dX7_certifies_90 : decode cX7_certifies 90 = .ok (.if_icmp .ge 12, 3) := by decide +kernel
theorem dX7_certifies_93 : decode cX7_certifies 93 = .ok (.aload_n 0, 1) := by decide +kernel
theorem dX7_certifies_94 : decode cX7_certifies 94 = .ok (.getfield 28, 3) := by decide +kernel
theorem dX7_certifies_97 : decode cX7_certifies 97 = .ok (.iload_n 2, 1) := by decide +kernel
theorem dX7_certifies_98 : decode cX7_certifies 98 = .ok (.iaload, 1) := by decide +kernel
theorem dX7_certifies_99 : decode cX7_certifies 99 = .ok (.goto 4, 3) := by decide +kernel
theorem dX7_certifies_102 : decode cX7_certifies 102 = .ok (.iconst 0, 1) := by decide +kernel
theorem dX7_certifies_103 : decode cX7_certifies 103 = .ok (.invokevirtual 74, 3) := by decide +kernel
theorem dX7_certifies_106 : decode cX7_certifies 106 = .ok (.iinc 2 1, 3) := by decide +kernel
theorem dX7_certifies_109 : decode cX7_certifies 109 = .ok (.goto (-40), 3) := by decide +kernel
theorem dX7_certifies_112 : decode cX7_certifies 112 = .ok (.aload_n 0, 1) := by decide +kernel
theorem dX7_certifies_113 : decode cX7_certifies 113 = .ok (.getfield 85, 3) := by decide +kernel
theorem dX7_certifies_116 : decode cX7_certifies 116 = .ok (.ireturn, 1) := by decide +kernel
theorem dX7_certify_0 : decode cX7_certify 0 = .ok (.aload_n 0, 1) := by decide +kernel
theorem dX7_certify_1 : decode cX7_certify 1 = .ok (.iload_n 1, 1) := by decide +kernel
theorem dX7_certify_2 : decode cX7_certify 2 = .ok (.invokevirtual 150, 3) := by decide +kernel
theorem dX7_certify_5 : decode cX7_certify 5 = .ok (.istore_n 2, 1) := by decide +kernel
theorem dX7_certify_6 : decode cX7_certify 6 = .ok (.iload_n 2, 1) := by decide +kernel
theorem dX7_certify_7 : decode cX7_certify 7 = .ok (.ifCond .ge 5, 3) := by decide +kernel
theorem dX7_certify_10 : decode cX7_certify 10 = .ok (.iload_n 2, 1) := by decide +kernel
theorem dX7_certify_11 : decode cX7_certify 11 = .ok (.ireturn, 1) := by decide +kernel
theorem dX7_certify_12 : decode cX7_certify 12 = .ok (.aload_n 0, 1) := by decide +kernel
theorem dX7_certify_13 : decode cX7_certify 13 = .ok (.invokevirtual 107, 3) := by decide +kernel
theorem dX7_certify_16 : decode cX7_certify 16 = .ok (.aload_n 0, 1) := by decide +kernel
theorem dX7_certify_17 : decode cX7_certify 17 = .ok (.iload_n 1, 1) := by decide +kernel
theorem dX7_certify_18 : decode cX7_certify 18 = .ok (.invokevirtual 153, 3) := by decide +kernel
theorem dX7_certify_21 : decode cX7_certify 21 = .ok (.ireturn, 1) := by decide +kernel
theorem dX7_placeOf_0 : decode cX7_placeOf 0 = .ok (.aload_n 0, 1) := by decide +kernel
theorem dX7_placeOf_1 : decode cX7_placeOf 1 = .ok (.invokevirtual 91, 3) := by decide +kernel
theorem dX7_placeOf_4 : decode cX7_placeOf 4 = .ok (.bipush (-6), 2) := by decide +kernel
theorem dX7_placeOf_6 : decode cX7_placeOf 6 = .ok (.istore_n 2, 1) := by decide +kernel
theorem dX7_placeOf_7 : decode cX7_placeOf 7 = .ok (.iconst 0, 1) := by decide +kernel
theorem dX7_placeOf_8 : decode cX7_placeOf 8 = .ok (.istore_n 3, 1) := by decide +kernel
theorem dX7_placeOf_9 : decode cX7_placeOf 9 = .ok (.iload_n 3, 1) := by decide +kernel
theorem dX7_placeOf_10 : decode cX7_placeOf 10 = .ok (.aload_n 0, 1) := by decide +kernel
theorem dX7_placeOf_11 : decode cX7_placeOf 11 = .ok (.getfield 7, 3) := by decide +kernel
theorem dX7_placeOf_14 : decode cX7_placeOf 14 = .ok (.iconst 3, 1) := by decide +kernel
theorem dX7_placeOf_15 : decode cX7_placeOf 15 = .ok (.iaload, 1) := by decide +kernel
theorem dX7_placeOf_16 : decode cX7_placeOf 16 = .ok (.if_icmp .ge 25, 3) := by decide +kernel
theorem dX7_placeOf_19 : decode cX7_placeOf 19 = .ok (.aload_n 0, 1) := by decide +kernel
theorem dX7_placeOf_20 : decode cX7_placeOf 20 = .ok (.getfield 25, 3) := by decide +kernel
theorem dX7_placeOf_23 : decode cX7_placeOf 23 = .ok (.iload_n 3, 1) := by decide +kernel
theorem dX7_placeOf_24 : decode cX7_placeOf 24 = .ok (.iaload, 1) := by decide +kernel
theorem dX7_placeOf_25 : decode cX7_placeOf 25 = .ok (.iload_n 1, 1) := by decide +kernel
theorem dX7_placeOf_26 : decode cX7_placeOf 26 = .ok (.if_icmp .ne 7, 3) := by decide +kernel
theorem dX7_placeOf_29 : decode cX7_placeOf 29 = .ok (.iload_n 3, 1) := by decide +kernel
theorem dX7_placeOf_30 : decode cX7_placeOf 30 = .ok (.goto 4, 3) := by decide +kernel
theorem dX7_placeOf_33 : decode cX7_placeOf 33 = .ok (.iload_n 2, 1) := by decide +kernel
theorem dX7_placeOf_34 : decode cX7_placeOf 34 = .ok (.istore_n 2, 1) := by decide +kernel
theorem dX7_placeOf_35 : decode cX7_placeOf 35 = .ok (.iinc 3 1, 3) := by decide +kernel
theorem dX7_placeOf_38 : decode cX7_placeOf 38 = .ok (.goto (-29), 3) := by decide +kernel
theorem dX7_placeOf_41 : decode cX7_placeOf 41 = .ok (.iload_n 2, 1) := by decide +kernel
theorem dX7_placeOf_42 : decode cX7_placeOf 42 = .ok (.ireturn, 1) := by decide +kernel
theorem dX7_ofRing_0 : decode cX7_ofRing 0 = .ok (.aload_n 0, 1) := by decide +kernel
theorem dX7_ofRing_1 : decode cX7_ofRing 1 = .ok (.iload_n 1, 1) := by decide +kernel
theorem dX7_ofRing_2 : decode cX7_ofRing 2 = .ok (.invokevirtual 119, 3) := by decide +kernel
theorem dX7_ofRing_5 : decode cX7_ofRing 5 = .ok (.ifCond .ne 5, 3) := by decide +kernel
theorem dX7_ofRing_8 : decode cX7_ofRing 8 = .ok (.iconst (-1), 1) := by decide +kernel
theorem dX7_ofRing_9 : decode cX7_ofRing 9 = .ok (.ireturn, 1) := by decide +kernel
theorem dX7_ofRing_10 : decode cX7_ofRing 10 = .ok (.iload_n 2, 1) := by decide +kernel
theorem dX7_ofRing_11 : decode cX7_ofRing 11 = .ok (.tableswitch 55 0 2 #[25, 35, 49], 25) := by decide +kernel
theorem dX7_ofRing_36 : decode cX7_ofRing 36 = .ok (.aload_n 0, 1) := by decide +kernel
theorem dX7_ofRing_37 : decode cX7_ofRing 37 = .ok (.getfield 7, 3) := by decide +kernel
theorem dX7_ofRing_40 : decode cX7_ofRing 40 = .ok (.bipush 6, 2) := by decide +kernel
theorem dX7_ofRing_42 : decode cX7_ofRing 42 = .ok (.iload_n 1, 1) := by decide +kernel
theorem dX7_ofRing_43 : decode cX7_ofRing 43 = .ok (.iadd, 1) := by decide +kernel
theorem dX7_ofRing_44 : decode cX7_ofRing 44 = .ok (.iaload, 1) := by decide +kernel
theorem dX7_ofRing_45 : decode cX7_ofRing 45 = .ok (.ireturn, 1) := by decide +kernel
theorem dX7_ofRing_46 : decode cX7_ofRing 46 = .ok (.aload_n 0, 1) := by decide +kernel
theorem dX7_ofRing_47 : decode cX7_ofRing 47 = .ok (.iload_n 1, 1) := by decide +kernel
theorem dX7_ofRing_48 : decode cX7_ofRing 48 = .ok (.invokevirtual 123, 3) := by decide +kernel
theorem dX7_ofRing_51 : decode cX7_ofRing 51 = .ok (.ifCond .eq 7, 3) := by decide +kernel
theorem dX7_ofRing_54 : decode cX7_ofRing 54 = .ok (.iconst 1, 1) := by decide +kernel
theorem dX7_ofRing_55 : decode cX7_ofRing 55 = .ok (.goto 4, 3) := by decide +kernel
theorem dX7_ofRing_58 : decode cX7_ofRing 58 = .ok (.iconst 0, 1) := by decide +kernel
theorem dX7_ofRing_59 : decode cX7_ofRing 59 = .ok (.ireturn, 1) := by decide +kernel
theorem dX7_ofRing_60 : decode cX7_ofRing 60 = .ok (.aload_n 0, 1) := by decide +kernel
theorem dX7_ofRing_61 : decode cX7_ofRing 61 = .ok (.iload_n 1, 1) := by decide +kernel
theorem dX7_ofRing_62 : decode cX7_ofRing 62 = .ok (.invokevirtual 156, 3) := by decide +kernel
theorem dX7_ofRing_65 : decode cX7_ofRing 65 = .ok (.ireturn, 1) := by decide +kernel
theorem dX7_ofRing_66 : decode cX7_ofRing 66 = .ok (.bipush (-2), 2) := by decide +kernel
theorem dX7_ofRing_68 : decode cX7_ofRing 68 = .ok (.ireturn, 1) := by decide +kernel
theorem dX7_ofGauge_0 : decode cX7_ofGauge 0 = .ok (.aload_n 0, 1) := by decide +kernel
theorem dX7_ofGauge_1 : decode cX7_ofGauge 1 = .ok (.iload_n 1, 1) := by decide +kernel
theorem dX7_ofGauge_2 : decode cX7_ofGauge 2 = .ok (.invokevirtual 143, 3) := by decide +kernel
theorem dX7_ofGauge_5 : decode cX7_ofGauge 5 = .ok (.ifCond .ne 5, 3) := by decide +kernel
theorem dX7_ofGauge_8 : decode cX7_ofGauge 8 = .ok (.iconst (-1), 1) := by decide +kernel
theorem dX7_ofGauge_9 : decode cX7_ofGauge 9 = .ok (.ireturn, 1) := by decide +kernel
theorem dX7_ofGauge_10 : decode cX7_ofGauge 10 = .ok (.aload_n 0, 1) := by decide +kernel
theorem dX7_ofGauge_11 : decode cX7_ofGauge 11 = .ok (.iload_n 1, 1) := by decide +kernel
theorem dX7_ofGauge_12 : decode cX7_ofGauge 12 = .ok (.iconst 4, 1) := by decide +kernel
theorem dX7_ofGauge_13 : decode cX7_ofGauge 13 = .ok (.invokevirtual 64, 3) := by decide +kernel
theorem dX7_ofGauge_16 : decode cX7_ofGauge 16 = .ok (.iconst 1, 1) := by decide +kernel
theorem dX7_ofGauge_17 : decode cX7_ofGauge 17 = .ok (.if_icmp .ne 7, 3) := by decide +kernel
theorem dX7_ofGauge_20 : decode cX7_ofGauge 20 = .ok (.iconst 1, 1) := by decide +kernel
theorem dX7_ofGauge_21 : decode cX7_ofGauge 21 = .ok (.goto 4, 3) := by decide +kernel
theorem dX7_ofGauge_24 : decode cX7_ofGauge 24 = .ok (.iconst 0, 1) := by decide +kernel
theorem dX7_ofGauge_25 : decode cX7_ofGauge 25 = .ok (.istore_n 3, 1) := by decide +kernel
theorem dX7_ofGauge_26 : decode cX7_ofGauge 26 = .ok (.iload_n 2, 1) := by decide +kernel
theorem dX7_ofGauge_27 : decode cX7_ofGauge 27 = .ok (.tableswitch 135 0 7 #[45, 55, 62, 69, 76, 92, 102, 118], 45) := by decide +kernel
theorem dX7_ofGauge_72 : decode cX7_ofGauge 72 = .ok (.aload_n 0, 1) := by decide +kernel
theorem dX7_ofGauge_73 : decode cX7_ofGauge 73 = .ok (.iload_n 1, 1) := by decide +kernel
theorem dX7_ofGauge_74 : decode cX7_ofGauge 74 = .ok (.iconst 0, 1) := by decide +kernel
theorem dX7_ofGauge_75 : decode cX7_ofGauge 75 = .ok (.invokevirtual 64, 3) := by decide +kernel
theorem dX7_ofGauge_78 : decode cX7_ofGauge 78 = .ok (.bipush 100, 2) := by decide +kernel
theorem dX7_ofGauge_80 : decode cX7_ofGauge 80 = .ok (.iadd, 1) := by decide +kernel
theorem dX7_ofGauge_81 : decode cX7_ofGauge 81 = .ok (.ireturn, 1) := by decide +kernel
theorem dX7_ofGauge_82 : decode cX7_ofGauge 82 = .ok (.aload_n 0, 1) := by decide +kernel
theorem dX7_ofGauge_83 : decode cX7_ofGauge 83 = .ok (.iload_n 1, 1) := by decide +kernel
theorem dX7_ofGauge_84 : decode cX7_ofGauge 84 = .ok (.iconst 1, 1) := by decide +kernel
theorem dX7_ofGauge_85 : decode cX7_ofGauge 85 = .ok (.invokevirtual 64, 3) := by decide +kernel
theorem dX7_ofGauge_88 : decode cX7_ofGauge 88 = .ok (.ireturn, 1) := by decide +kernel
theorem dX7_ofGauge_89 : decode cX7_ofGauge 89 = .ok (.aload_n 0, 1) := by decide +kernel
theorem dX7_ofGauge_90 : decode cX7_ofGauge 90 = .ok (.iload_n 1, 1) := by decide +kernel
theorem dX7_ofGauge_91 : decode cX7_ofGauge 91 = .ok (.iconst 2, 1) := by decide +kernel
theorem dX7_ofGauge_92 : decode cX7_ofGauge 92 = .ok (.invokevirtual 64, 3) := by decide +kernel
theorem dX7_ofGauge_95 : decode cX7_ofGauge 95 = .ok (.ireturn, 1) := by decide +kernel
theorem dX7_ofGauge_96 : decode cX7_ofGauge 96 = .ok (.aload_n 0, 1) := by decide +kernel
theorem dX7_ofGauge_97 : decode cX7_ofGauge 97 = .ok (.iload_n 1, 1) := by decide +kernel
theorem dX7_ofGauge_98 : decode cX7_ofGauge 98 = .ok (.iconst 3, 1) := by decide +kernel
theorem dX7_ofGauge_99 : decode cX7_ofGauge 99 = .ok (.invokevirtual 64, 3) := by decide +kernel
theorem dX7_ofGauge_102 : decode cX7_ofGauge 102 = .ok (.ireturn, 1) := by decide +kernel
theorem dX7_ofGauge_103 : decode cX7_ofGauge 103 = .ok (.aload_n 0, 1) := by decide +kernel
theorem dX7_ofGauge_104 : decode cX7_ofGauge 104 = .ok (.iload_n 1, 1) := by decide +kernel
theorem dX7_ofGauge_105 : decode cX7_ofGauge 105 = .ok (.iconst 3, 1) := by decide +kernel
theorem dX7_ofGauge_106 : decode cX7_ofGauge 106 = .ok (.invokevirtual 64, 3) := by decide +kernel
theorem dX7_ofGauge_109 : decode cX7_ofGauge 109 = .ok (.aload_n 0, 1) := by decide +kernel
theorem dX7_ofGauge_110 : decode cX7_ofGauge 110 = .ok (.iload_n 1, 1) := by decide +kernel
theorem dX7_ofGauge_111 : decode cX7_ofGauge 111 = .ok (.iconst 2, 1) := by decide +kernel
theorem dX7_ofGauge_112 : decode cX7_ofGauge 112 = .ok (.invokevirtual 64, 3) := by decide +kernel
theorem dX7_ofGauge_115 : decode cX7_ofGauge 115 = .ok (.invokestatic 94, 3) := by decide +kernel
theorem dX7_ofGauge_118 : decode cX7_ofGauge 118 = .ok (.ireturn, 1) := by decide +kernel
theorem dX7_ofGauge_119 : decode cX7_ofGauge 119 = .ok (.iload_n 3, 1) := by decide +kernel
theorem dX7_ofGauge_120 : decode cX7_ofGauge 120 = .ok (.ifCond .eq 7, 3) := by decide +kernel
theorem dX7_ofGauge_123 : decode cX7_ofGauge 123 = .ok (.iconst 1, 1) := by decide +kernel
theorem dX7_ofGauge_124 : decode cX7_ofGauge 124 = .ok (.goto 4, 3) := by decide +kernel
theorem dX7_ofGauge_127 : decode cX7_ofGauge 127 = .ok (.iconst 0, 1) := by decide +kernel
theorem dX7_ofGauge_128 : decode cX7_ofGauge 128 = .ok (.ireturn, 1) := by decide +kernel
theorem dX7_ofGauge_129 : decode cX7_ofGauge 129 = .ok (.iload_n 3, 1) := by decide +kernel
theorem dX7_ofGauge_130 : decode cX7_ofGauge 130 = .ok (.ifCond .eq 12, 3) := by decide +kernel
theorem dX7_ofGauge_133 : decode cX7_ofGauge 133 = .ok (.aload_n 0, 1) := by decide +kernel
theorem dX7_ofGauge_134 : decode cX7_ofGauge 134 = .ok (.iload_n 1, 1) := by decide +kernel
theorem dX7_ofGauge_135 : decode cX7_ofGauge 135 = .ok (.iconst 5, 1) := by decide +kernel
theorem dX7_ofGauge_136 : decode cX7_ofGauge 136 = .ok (.invokevirtual 64, 3) := by decide +kernel
theorem dX7_ofGauge_139 : decode cX7_ofGauge 139 = .ok (.goto 5, 3) := by decide +kernel
theorem dX7_ofGauge_142 : decode cX7_ofGauge 142 = .ok (.bipush (-6), 2) := by decide +kernel
theorem dX7_ofGauge_144 : decode cX7_ofGauge 144 = .ok (.ireturn, 1) := by decide +kernel
theorem dX7_ofGauge_145 : decode cX7_ofGauge 145 = .ok (.iload_n 3, 1) := by decide +kernel
theorem dX7_ofGauge_146 : decode cX7_ofGauge 146 = .ok (.ifCond .eq 13, 3) := by decide +kernel
theorem dX7_ofGauge_149 : decode cX7_ofGauge 149 = .ok (.aload_n 0, 1) := by decide +kernel
theorem dX7_ofGauge_150 : decode cX7_ofGauge 150 = .ok (.iload_n 1, 1) := by decide +kernel
theorem dX7_ofGauge_151 : decode cX7_ofGauge 151 = .ok (.bipush 6, 2) := by decide +kernel
theorem dX7_ofGauge_153 : decode cX7_ofGauge 153 = .ok (.invokevirtual 64, 3) := by decide +kernel
theorem dX7_ofGauge_156 : decode cX7_ofGauge 156 = .ok (.goto 5, 3) := by decide +kernel
theorem dX7_ofGauge_159 : decode cX7_ofGauge 159 = .ok (.bipush (-6), 2) := by decide +kernel
theorem dX7_ofGauge_161 : decode cX7_ofGauge 161 = .ok (.ireturn, 1) := by decide +kernel
theorem dX7_ofGauge_162 : decode cX7_ofGauge 162 = .ok (.bipush (-2), 2) := by decide +kernel
theorem dX7_ofGauge_164 : decode cX7_ofGauge 164 = .ok (.ireturn, 1) := by decide +kernel
theorem dX7_reading_0 : decode cX7_reading 0 = .ok (.aload_n 0, 1) := by decide +kernel
theorem dX7_reading_1 : decode cX7_reading 1 = .ok (.iload_n 1, 1) := by decide +kernel
theorem dX7_reading_2 : decode cX7_reading 2 = .ok (.invokevirtual 143, 3) := by decide +kernel
theorem dX7_reading_5 : decode cX7_reading 5 = .ok (.ifCond .eq 30, 3) := by decide +kernel
theorem dX7_reading_8 : decode cX7_reading 8 = .ok (.aload_n 0, 1) := by decide +kernel
theorem dX7_reading_9 : decode cX7_reading 9 = .ok (.iload_n 1, 1) := by decide +kernel
theorem dX7_reading_10 : decode cX7_reading 10 = .ok (.iconst 4, 1) := by decide +kernel
theorem dX7_reading_11 : decode cX7_reading 11 = .ok (.invokevirtual 64, 3) := by decide +kernel
theorem dX7_reading_14 : decode cX7_reading 14 = .ok (.ifCond .eq 21, 3) := by decide +kernel
theorem dX7_reading_17 : decode cX7_reading 17 = .ok (.iload_n 2, 1) := by decide +kernel
theorem dX7_reading_18 : decode cX7_reading 18 = .ok (.iconst 0, 1) := by decide +kernel
theorem dX7_reading_19 : decode cX7_reading 19 = .ok (.iconst 2, 1) := by decide +kernel
theorem dX7_reading_20 : decode cX7_reading 20 = .ok (.aload_n 0, 1) := by decide +kernel
theorem dX7_reading_21 : decode cX7_reading 21 = .ok (.getfield 7, 3) := by decide +kernel
theorem dX7_reading_24 : decode cX7_reading 24 = .ok (.iconst 3, 1) := by decide +kernel
theorem dX7_reading_25 : decode cX7_reading 25 = .ok (.iaload, 1) := by decide +kernel
theorem dX7_reading_26 : decode cX7_reading 26 = .ok (.imul, 1) := by decide +kernel
theorem dX7_reading_27 : decode cX7_reading 27 = .ok (.iconst 1, 1) := by decide +kernel
theorem dX7_reading_28 : decode cX7_reading 28 = .ok (.isub, 1) := by decide +kernel
theorem dX7_reading_29 : decode cX7_reading 29 = .ok (.invokestatic 39, 3) := by decide +kernel
theorem dX7_reading_32 : decode cX7_reading 32 = .ok (.ifCond .ne 5, 3) := by decide +kernel
theorem dX7_reading_35 : decode cX7_reading 35 = .ok (.iconst (-1), 1) := by decide +kernel
theorem dX7_reading_36 : decode cX7_reading 36 = .ok (.ireturn, 1) := by decide +kernel
theorem dX7_reading_37 : decode cX7_reading 37 = .ok (.aload_n 0, 1) := by decide +kernel
theorem dX7_reading_38 : decode cX7_reading 38 = .ok (.iload_n 1, 1) := by decide +kernel
theorem dX7_reading_39 : decode cX7_reading 39 = .ok (.bipush 8, 2) := by decide +kernel
theorem dX7_reading_41 : decode cX7_reading 41 = .ok (.iload_n 2, 1) := by decide +kernel
theorem dX7_reading_42 : decode cX7_reading 42 = .ok (.iadd, 1) := by decide +kernel
theorem dX7_reading_43 : decode cX7_reading 43 = .ok (.invokevirtual 64, 3) := by decide +kernel
theorem dX7_reading_46 : decode cX7_reading 46 = .ok (.ireturn, 1) := by decide +kernel
theorem dX7_count_0 : decode cX7_count 0 = .ok (.iload_n 1, 1) := by decide +kernel
theorem dX7_count_1 : decode cX7_count 1 = .ok (.tableswitch 152 0 11 #[63, 70, 77, 84, 95, 116, 127, 132, 132, 132, 142, 147], 63) := by decide +kernel
theorem dX7_count_64 : decode cX7_count 64 = .ok (.aload_n 0, 1) := by decide +kernel
theorem dX7_count_65 : decode cX7_count 65 = .ok (.getfield 7, 3) := by decide +kernel
theorem dX7_count_68 : decode cX7_count 68 = .ok (.iconst 3, 1) := by decide +kernel
theorem dX7_count_69 : decode cX7_count 69 = .ok (.iaload, 1) := by decide +kernel
theorem dX7_count_70 : decode cX7_count 70 = .ok (.ireturn, 1) := by decide +kernel
theorem dX7_count_71 : decode cX7_count 71 = .ok (.aload_n 0, 1) := by decide +kernel
theorem dX7_count_72 : decode cX7_count 72 = .ok (.getfield 7, 3) := by decide +kernel
theorem dX7_count_75 : decode cX7_count 75 = .ok (.iconst 5, 1) := by decide +kernel
theorem dX7_count_76 : decode cX7_count 76 = .ok (.iaload, 1) := by decide +kernel
theorem dX7_count_77 : decode cX7_count 77 = .ok (.ireturn, 1) := by decide +kernel
theorem dX7_count_78 : decode cX7_count 78 = .ok (.aload_n 0, 1) := by decide +kernel
theorem dX7_count_79 : decode cX7_count 79 = .ok (.getfield 7, 3) := by decide +kernel
theorem dX7_count_82 : decode cX7_count 82 = .ok (.iconst 4, 1) := by decide +kernel
theorem dX7_count_83 : decode cX7_count 83 = .ok (.iaload, 1) := by decide +kernel
theorem dX7_count_84 : decode cX7_count 84 = .ok (.ireturn, 1) := by decide +kernel
theorem dX7_count_85 : decode cX7_count 85 = .ok (.aload_n 0, 1) := by decide +kernel
theorem dX7_count_86 : decode cX7_count 86 = .ok (.aload_n 0, 1) := by decide +kernel
theorem dX7_count_87 : decode cX7_count 87 = .ok (.getfield 7, 3) := by decide +kernel
theorem dX7_count_90 : decode cX7_count 90 = .ok (.iconst 4, 1) := by decide +kernel
theorem dX7_count_91 : decode cX7_count 91 = .ok (.iaload, 1) := by decide +kernel
theorem dX7_count_92 : decode cX7_count 92 = .ok (.invokevirtual 51, 3) := by decide +kernel
theorem dX7_count_95 : decode cX7_count 95 = .ok (.ireturn, 1) := by decide +kernel
theorem dX7_count_96 : decode cX7_count 96 = .ok (.aload_n 0, 1) := by decide +kernel
theorem dX7_count_97 : decode cX7_count 97 = .ok (.aload_n 0, 1) := by decide +kernel
theorem dX7_count_98 : decode cX7_count 98 = .ok (.aload_n 0, 1) := by decide +kernel
theorem dX7_count_99 : decode cX7_count 99 = .ok (.getfield 7, 3) := by decide +kernel
theorem dX7_count_102 : decode cX7_count 102 = .ok (.iconst 4, 1) := by decide +kernel
theorem dX7_count_103 : decode cX7_count 103 = .ok (.iaload, 1) := by decide +kernel
theorem dX7_count_104 : decode cX7_count 104 = .ok (.invokevirtual 51, 3) := by decide +kernel
theorem dX7_count_107 : decode cX7_count 107 = .ok (.aload_n 0, 1) := by decide +kernel
theorem dX7_count_108 : decode cX7_count 108 = .ok (.getfield 7, 3) := by decide +kernel
theorem dX7_count_111 : decode cX7_count 111 = .ok (.iconst 0, 1) := by decide +kernel
theorem dX7_count_112 : decode cX7_count 112 = .ok (.iaload, 1) := by decide +kernel
theorem dX7_count_113 : decode cX7_count 113 = .ok (.invokevirtual 48, 3) := by decide +kernel
theorem dX7_count_116 : decode cX7_count 116 = .ok (.ireturn, 1) := by decide +kernel
theorem dX7_count_117 : decode cX7_count 117 = .ok (.aload_n 0, 1) := by decide +kernel
theorem dX7_count_118 : decode cX7_count 118 = .ok (.aload_n 0, 1) := by decide +kernel
theorem dX7_count_119 : decode cX7_count 119 = .ok (.getfield 7, 3) := by decide +kernel
theorem dX7_count_122 : decode cX7_count 122 = .ok (.iconst 4, 1) := by decide +kernel
theorem dX7_count_123 : decode cX7_count 123 = .ok (.iaload, 1) := by decide +kernel
theorem dX7_count_124 : decode cX7_count 124 = .ok (.invokevirtual 67, 3) := by decide +kernel
theorem dX7_count_127 : decode cX7_count 127 = .ok (.ireturn, 1) := by decide +kernel
theorem dX7_count_128 : decode cX7_count 128 = .ok (.aload_n 0, 1) := by decide +kernel
theorem dX7_count_129 : decode cX7_count 129 = .ok (.invokevirtual 159, 3) := by decide +kernel
theorem dX7_count_132 : decode cX7_count 132 = .ok (.ireturn, 1) := by decide +kernel
theorem dX7_count_133 : decode cX7_count 133 = .ok (.aload_n 0, 1) := by decide +kernel
theorem dX7_count_134 : decode cX7_count 134 = .ok (.getfield 7, 3) := by decide +kernel
theorem dX7_count_137 : decode cX7_count 137 = .ok (.iload_n 1, 1) := by decide +kernel
theorem dX7_count_138 : decode cX7_count 138 = .ok (.bipush 7, 2) := by decide +kernel
theorem dX7_count_140 : decode cX7_count 140 = .ok (.isub, 1) := by decide +kernel
theorem dX7_count_141 : decode cX7_count 141 = .ok (.iaload, 1) := by decide +kernel
theorem dX7_count_142 : decode cX7_count 142 = .ok (.ireturn, 1) := by decide +kernel
theorem dX7_count_143 : decode cX7_count 143 = .ok (.aload_n 0, 1) := by decide +kernel
theorem dX7_count_144 : decode cX7_count 144 = .ok (.getfield 163, 3) := by decide +kernel
theorem dX7_count_147 : decode cX7_count 147 = .ok (.ireturn, 1) := by decide +kernel
theorem dX7_count_148 : decode cX7_count 148 = .ok (.aload_n 0, 1) := by decide +kernel
theorem dX7_count_149 : decode cX7_count 149 = .ok (.getfield 31, 3) := by decide +kernel
theorem dX7_count_152 : decode cX7_count 152 = .ok (.ireturn, 1) := by decide +kernel
theorem dX7_count_153 : decode cX7_count 153 = .ok (.bipush (-2), 2) := by decide +kernel
theorem dX7_count_155 : decode cX7_count 155 = .ok (.ireturn, 1) := by decide +kernel
theorem dX7_pressure_0 : decode cX7_pressure 0 = .ok (.iload_n 1, 1) := by decide +kernel
theorem dX7_pressure_1 : decode cX7_pressure 1 = .ok (.ifCond .ge 8, 3) := by decide +kernel
theorem dX7_pressure_4 : decode cX7_pressure 4 = .ok (.bipush (-2), 2) := by decide +kernel
theorem dX7_pressure_6 : decode cX7_pressure 6 = .ok (.goto 8, 3) := by decide +kernel
theorem dX7_pressure_9 : decode cX7_pressure 9 = .ok (.aload_n 0, 1) := by decide +kernel
theorem dX7_pressure_10 : decode cX7_pressure 10 = .ok (.iload_n 1, 1) := by decide +kernel
theorem dX7_pressure_11 : decode cX7_pressure 11 = .ok (.invokevirtual 67, 3) := by decide +kernel
theorem dX7_pressure_14 : decode cX7_pressure 14 = .ok (.ireturn, 1) := by decide +kernel
theorem dX7_nearest_0 : decode cX7_nearest 0 = .ok (.iload_n 1, 1) := by decide +kernel
theorem dX7_nearest_1 : decode cX7_nearest 1 = .ok (.ifCond .lt 12, 3) := by decide +kernel
theorem dX7_nearest_4 : decode cX7_nearest 4 = .ok (.iload_n 2, 1) := by decide +kernel
theorem dX7_nearest_5 : decode cX7_nearest 5 = .ok (.iconst 0, 1) := by decide +kernel
theorem dX7_nearest_6 : decode cX7_nearest 6 = .ok (.iconst 1, 1) := by decide +kernel
theorem dX7_nearest_7 : decode cX7_nearest 7 = .ok (.invokestatic 39, 3) := by decide +kernel
theorem dX7_nearest_10 : decode cX7_nearest 10 = .ok (.ifCond .ne 6, 3) := by decide +kernel
theorem dX7_nearest_13 : decode cX7_nearest 13 = .ok (.bipush (-2), 2) := by decide +kernel
theorem dX7_nearest_15 : decode cX7_nearest 15 = .ok (.ireturn, 1) := by decide +kernel
theorem dX7_nearest_16 : decode cX7_nearest 16 = .ok (.iconst 0, 1) := by decide +kernel
theorem dX7_nearest_17 : decode cX7_nearest 17 = .ok (.istore_n 3, 1) := by decide +kernel
theorem dX7_nearest_18 : decode cX7_nearest 18 = .ok (.aload_n 0, 1) := by decide +kernel
theorem dX7_nearest_19 : decode cX7_nearest 19 = .ok (.iconst 0, 1) := by decide +kernel
theorem dX7_nearest_20 : decode cX7_nearest 20 = .ok (.invokevirtual 67, 3) := by decide +kernel
theorem dX7_nearest_23 : decode cX7_nearest 23 = .ok (.iload_n 1, 1) := by decide +kernel
theorem dX7_nearest_24 : decode cX7_nearest 24 = .ok (.isub, 1) := by decide +kernel
theorem dX7_nearest_25 : decode cX7_nearest 25 = .ok (.invokestatic 58, 3) := by decide +kernel
theorem dX7_nearest_28 : decode cX7_nearest 28 = .ok (.istore 4, 2) := by decide +kernel
theorem dX7_nearest_30 : decode cX7_nearest 30 = .ok (.iconst 1, 1) := by decide +kernel
theorem dX7_nearest_31 : decode cX7_nearest 31 = .ok (.istore 5, 2) := by decide +kernel
theorem dX7_nearest_33 : decode cX7_nearest 33 = .ok (.iload 5, 2) := by decide +kernel
theorem dX7_nearest_35 : decode cX7_nearest 35 = .ok (.iconst 1, 1) := by decide +kernel
theorem dX7_nearest_36 : decode cX7_nearest 36 = .ok (.aload_n 0, 1) := by decide +kernel
theorem dX7_nearest_37 : decode cX7_nearest 37 = .ok (.getfield 7, 3) := by decide +kernel
theorem dX7_nearest_40 : decode cX7_nearest 40 = .ok (.iconst 3, 1) := by decide +kernel
theorem dX7_nearest_41 : decode cX7_nearest 41 = .ok (.iaload, 1) := by decide +kernel
theorem dX7_nearest_42 : decode cX7_nearest 42 = .ok (.ishl, 1) := by decide +kernel
theorem dX7_nearest_43 : decode cX7_nearest 43 = .ok (.if_icmp .ge 55, 3) := by decide +kernel
theorem dX7_nearest_46 : decode cX7_nearest 46 = .ok (.aload_n 0, 1) := by decide +kernel
theorem dX7_nearest_47 : decode cX7_nearest 47 = .ok (.iload 5, 2) := by decide +kernel
theorem dX7_nearest_49 : decode cX7_nearest 49 = .ok (.invokevirtual 67, 3) := by decide +kernel
theorem dX7_nearest_52 : decode cX7_nearest 52 = .ok (.iload_n 1, 1) := by decide +kernel
theorem dX7_nearest_53 : decode cX7_nearest 53 = .ok (.isub, 1) := by decide +kernel
theorem dX7_nearest_54 : decode cX7_nearest 54 = .ok (.invokestatic 58, 3) := by decide +kernel
theorem dX7_nearest_57 : decode cX7_nearest 57 = .ok (.istore 6, 2) := by decide +kernel
theorem dX7_nearest_59 : decode cX7_nearest 59 = .ok (.iload 6, 2) := by decide +kernel
theorem dX7_nearest_61 : decode cX7_nearest 61 = .ok (.iload 4, 2) := by decide +kernel
theorem dX7_nearest_63 : decode cX7_nearest 63 = .ok (.if_icmp .lt 22, 3) := by decide +kernel
theorem dX7_nearest_66 : decode cX7_nearest 66 = .ok (.iload 6, 2) := by decide +kernel
theorem dX7_nearest_68 : decode cX7_nearest 68 = .ok (.iload 4, 2) := by decide +kernel
theorem dX7_nearest_70 : decode cX7_nearest 70 = .ok (.if_icmp .ne 22, 3) := by decide +kernel
theorem dX7_nearest_73 : decode cX7_nearest 73 = .ok (.iload 5, 2) := by decide +kernel
theorem dX7_nearest_75 : decode cX7_nearest 75 = .ok (.invokestatic 166, 3) := by decide +kernel
theorem dX7_nearest_78 : decode cX7_nearest 78 = .ok (.iload_n 3, 1) := by decide +kernel
theorem dX7_nearest_79 : decode cX7_nearest 79 = .ok (.invokestatic 166, 3) := by decide +kernel
theorem dX7_nearest_82 : decode cX7_nearest 82 = .ok (.if_icmp .ge 10, 3) := by decide +kernel
theorem dX7_nearest_85 : decode cX7_nearest 85 = .ok (.iload 5, 2) := by decide +kernel
theorem dX7_nearest_87 : decode cX7_nearest 87 = .ok (.istore_n 3, 1) := by decide +kernel
theorem dX7_nearest_88 : decode cX7_nearest 88 = .ok (.iload 6, 2) := by decide +kernel
theorem dX7_nearest_90 : decode cX7_nearest 90 = .ok (.istore 4, 2) := by decide +kernel
theorem dX7_nearest_92 : decode cX7_nearest 92 = .ok (.iinc 5 1, 3) := by decide +kernel
theorem dX7_nearest_95 : decode cX7_nearest 95 = .ok (.goto (-62), 3) := by decide +kernel
theorem dX7_nearest_98 : decode cX7_nearest 98 = .ok (.iload_n 2, 1) := by decide +kernel
theorem dX7_nearest_99 : decode cX7_nearest 99 = .ok (.ifCond .ne 7, 3) := by decide +kernel
theorem dX7_nearest_102 : decode cX7_nearest 102 = .ok (.iload_n 3, 1) := by decide +kernel
theorem dX7_nearest_103 : decode cX7_nearest 103 = .ok (.goto 8, 3) := by decide +kernel
theorem dX7_nearest_106 : decode cX7_nearest 106 = .ok (.aload_n 0, 1) := by decide +kernel
theorem dX7_nearest_107 : decode cX7_nearest 107 = .ok (.iload_n 3, 1) := by decide +kernel
theorem dX7_nearest_108 : decode cX7_nearest 108 = .ok (.invokevirtual 67, 3) := by decide +kernel
theorem dX7_nearest_111 : decode cX7_nearest 111 = .ok (.ireturn, 1) := by decide +kernel
theorem dX7_test_0 : decode cX7_test 0 = .ok (.aload_n 0, 1) := by decide +kernel
theorem dX7_test_1 : decode cX7_test 1 = .ok (.iload_n 1, 1) := by decide +kernel
theorem dX7_test_2 : decode cX7_test 2 = .ok (.invokevirtual 143, 3) := by decide +kernel
theorem dX7_test_5 : decode cX7_test 5 = .ok (.ifCond .ne 5, 3) := by decide +kernel
theorem dX7_test_8 : decode cX7_test 8 = .ok (.iconst (-1), 1) := by decide +kernel
theorem dX7_test_9 : decode cX7_test 9 = .ok (.ireturn, 1) := by decide +kernel
theorem dX7_test_10 : decode cX7_test 10 = .ok (.iload_n 2, 1) := by decide +kernel
theorem dX7_test_11 : decode cX7_test 11 = .ok (.iconst 0, 1) := by decide +kernel
theorem dX7_test_12 : decode cX7_test 12 = .ok (.iconst 3, 1) := by decide +kernel
theorem dX7_test_13 : decode cX7_test 13 = .ok (.invokestatic 39, 3) := by decide +kernel
theorem dX7_test_16 : decode cX7_test 16 = .ok (.ifCond .ne 6, 3) := by decide +kernel
theorem dX7_test_19 : decode cX7_test 19 = .ok (.bipush (-2), 2) := by decide +kernel
theorem dX7_test_21 : decode cX7_test 21 = .ok (.ireturn, 1) := by decide +kernel
theorem dX7_test_22 : decode cX7_test 22 = .ok (.aload_n 0, 1) := by decide +kernel
theorem dX7_test_23 : decode cX7_test 23 = .ok (.getfield 7, 3) := by decide +kernel
theorem dX7_test_26 : decode cX7_test 26 = .ok (.iconst 3, 1) := by decide +kernel
theorem dX7_test_27 : decode cX7_test 27 = .ok (.iaload, 1) := by decide +kernel
theorem dX7_test_28 : decode cX7_test 28 = .ok (.ifCond .ne 6, 3) := by decide +kernel
theorem dX7_test_31 : decode cX7_test 31 = .ok (.bipush (-5), 2) := by decide +kernel
theorem dX7_test_33 : decode cX7_test 33 = .ok (.ireturn, 1) := by decide +kernel
theorem dX7_test_34 : decode cX7_test 34 = .ok (.aload_n 0, 1) := by decide +kernel
theorem dX7_test_35 : decode cX7_test 35 = .ok (.iload_n 1, 1) := by decide +kernel
theorem dX7_test_36 : decode cX7_test 36 = .ok (.aload_n 0, 1) := by decide +kernel
theorem dX7_test_37 : decode cX7_test 37 = .ok (.iload_n 1, 1) := by decide +kernel
theorem dX7_test_38 : decode cX7_test 38 = .ok (.iconst 0, 1) := by decide +kernel
theorem dX7_test_39 : decode cX7_test 39 = .ok (.invokevirtual 64, 3) := by decide +kernel
theorem dX7_test_42 : decode cX7_test 42 = .ok (.invokevirtual 146, 3) := by decide +kernel
theorem dX7_test_45 : decode cX7_test 45 = .ok (.iload_n 2, 1) := by decide +kernel
theorem dX7_test_46 : decode cX7_test 46 = .ok (.ifCond .ne 10, 3) := by decide +kernel
theorem dX7_test_49 : decode cX7_test 49 = .ok (.aload_n 0, 1) := by decide +kernel
theorem dX7_test_50 : decode cX7_test 50 = .ok (.getfield 85, 3) := by decide +kernel
theorem dX7_test_53 : decode cX7_test 53 = .ok (.goto 49, 3) := by decide +kernel
theorem dX7_test_56 : decode cX7_test 56 = .ok (.iload_n 2, 1) := by decide +kernel
theorem dX7_test_57 : decode cX7_test 57 = .ok (.iconst 1, 1) := by decide +kernel
theorem dX7_test_58 : decode cX7_test 58 = .ok (.if_icmp .ne 24, 3) := by decide +kernel
theorem dX7_test_61 : decode cX7_test 61 = .ok (.aload_n 0, 1) := by decide +kernel
theorem dX7_test_62 : decode cX7_test 62 = .ok (.getfield 85, 3) := by decide +kernel
theorem dX7_test_65 : decode cX7_test 65 = .ok (.aload_n 0, 1) := by decide +kernel
theorem dX7_test_66 : decode cX7_test 66 = .ok (.getfield 7, 3) := by decide +kernel
theorem dX7_test_69 : decode cX7_test 69 = .ok (.iconst 2, 1) := by decide +kernel
theorem dX7_test_70 : decode cX7_test 70 = .ok (.iaload, 1) := by decide +kernel
theorem dX7_test_71 : decode cX7_test 71 = .ok (.if_icmp .gt 7, 3) := by decide +kernel
theorem dX7_test_74 : decode cX7_test 74 = .ok (.iconst 1, 1) := by decide +kernel
theorem dX7_test_75 : decode cX7_test 75 = .ok (.goto 27, 3) := by decide +kernel
theorem dX7_test_78 : decode cX7_test 78 = .ok (.iconst 0, 1) := by decide +kernel
theorem dX7_test_79 : decode cX7_test 79 = .ok (.goto 23, 3) := by decide +kernel
theorem dX7_test_82 : decode cX7_test 82 = .ok (.iload_n 2, 1) := by decide +kernel
theorem dX7_test_83 : decode cX7_test 83 = .ok (.iconst 2, 1) := by decide +kernel
theorem dX7_test_84 : decode cX7_test 84 = .ok (.if_icmp .ne 10, 3) := by decide +kernel
theorem dX7_test_87 : decode cX7_test 87 = .ok (.aload_n 0, 1) := by decide +kernel
theorem dX7_test_88 : decode cX7_test 88 = .ok (.getfield 88, 3) := by decide +kernel
theorem dX7_test_91 : decode cX7_test 91 = .ok (.goto 11, 3) := by decide +kernel
theorem dX7_test_94 : decode cX7_test 94 = .ok (.iconst 2, 1) := by decide +kernel
theorem dX7_test_95 : decode cX7_test 95 = .ok (.aload_n 0, 1) := by decide +kernel
theorem dX7_test_96 : decode cX7_test 96 = .ok (.getfield 7, 3) := by decide +kernel
theorem dX7_test_99 : decode cX7_test 99 = .ok (.iconst 3, 1) := by decide +kernel
theorem dX7_test_100 : decode cX7_test 100 = .ok (.iaload, 1) := by decide +kernel
theorem dX7_test_101 : decode cX7_test 101 = .ok (.imul, 1) := by decide +kernel
theorem dX7_test_102 : decode cX7_test 102 = .ok (.ireturn, 1) := by decide +kernel
theorem dX7_bestError_0 : decode cX7_bestError 0 = .ok (.aload_n 0, 1) := by decide +kernel
theorem dX7_bestError_1 : decode cX7_bestError 1 = .ok (.iload_n 1, 1) := by decide +kernel
theorem dX7_bestError_2 : decode cX7_bestError 2 = .ok (.invokevirtual 143, 3) := by decide +kernel
theorem dX7_bestError_5 : decode cX7_bestError 5 = .ok (.ifCond .ne 5, 3) := by decide +kernel
theorem dX7_bestError_8 : decode cX7_bestError 8 = .ok (.iconst (-1), 1) := by decide +kernel
theorem dX7_bestError_9 : decode cX7_bestError 9 = .ok (.ireturn, 1) := by decide +kernel
theorem dX7_bestError_10 : decode cX7_bestError 10 = .ok (.iload_n 2, 1) := by decide +kernel
theorem dX7_bestError_11 : decode cX7_bestError 11 = .ok (.iconst 0, 1) := by decide +kernel
theorem dX7_bestError_12 : decode cX7_bestError 12 = .ok (.iconst 1, 1) := by decide +kernel
theorem dX7_bestError_13 : decode cX7_bestError 13 = .ok (.invokestatic 39, 3) := by decide +kernel
theorem dX7_bestError_16 : decode cX7_bestError 16 = .ok (.ifCond .ne 6, 3) := by decide +kernel
theorem dX7_bestError_19 : decode cX7_bestError 19 = .ok (.bipush (-2), 2) := by decide +kernel
theorem dX7_bestError_21 : decode cX7_bestError 21 = .ok (.ireturn, 1) := by decide +kernel
theorem dX7_bestError_22 : decode cX7_bestError 22 = .ok (.aload_n 0, 1) := by decide +kernel
theorem dX7_bestError_23 : decode cX7_bestError 23 = .ok (.getfield 7, 3) := by decide +kernel
theorem dX7_bestError_26 : decode cX7_bestError 26 = .ok (.iconst 3, 1) := by decide +kernel
theorem dX7_bestError_27 : decode cX7_bestError 27 = .ok (.iaload, 1) := by decide +kernel
theorem dX7_bestError_28 : decode cX7_bestError 28 = .ok (.ifCond .ne 6, 3) := by decide +kernel
theorem dX7_bestError_31 : decode cX7_bestError 31 = .ok (.bipush (-5), 2) := by decide +kernel
theorem dX7_bestError_33 : decode cX7_bestError 33 = .ok (.ireturn, 1) := by decide +kernel
theorem dX7_bestError_34 : decode cX7_bestError 34 = .ok (.bipush (-99), 2) := by decide +kernel
theorem dX7_bestError_36 : decode cX7_bestError 36 = .ok (.istore_n 3, 1) := by decide +kernel
theorem dX7_bestError_37 : decode cX7_bestError 37 = .ok (.bipush (-6), 2) := by decide +kernel
theorem dX7_bestError_39 : decode cX7_bestError 39 = .ok (.istore 4, 2) := by decide +kernel
theorem dX7_bestError_41 : decode cX7_bestError 41 = .ok (.bipush (-99), 2) := by decide +kernel
theorem dX7_bestError_43 : decode cX7_bestError 43 = .ok (.istore 5, 2) := by decide +kernel
theorem dX7_bestError_45 : decode cX7_bestError 45 = .ok (.iload 5, 2) := by decide +kernel
theorem dX7_bestError_47 : decode cX7_bestError 47 = .ok (.bipush 99, 2) := by decide +kernel
theorem dX7_bestError_49 : decode cX7_bestError 49 = .ok (.if_icmp .gt 67, 3) := by decide +kernel
theorem dX7_bestError_52 : decode cX7_bestError 52 = .ok (.aload_n 0, 1) := by decide +kernel
theorem dX7_bestError_53 : decode cX7_bestError 53 = .ok (.iload_n 1, 1) := by decide +kernel
theorem dX7_bestError_54 : decode cX7_bestError 54 = .ok (.iload 5, 2) := by decide +kernel
theorem dX7_bestError_56 : decode cX7_bestError 56 = .ok (.invokevirtual 146, 3) := by decide +kernel
theorem dX7_bestError_59 : decode cX7_bestError 59 = .ok (.iload 4, 2) := by decide +kernel
theorem dX7_bestError_61 : decode cX7_bestError 61 = .ok (.bipush (-6), 2) := by decide +kernel
theorem dX7_bestError_63 : decode cX7_bestError 63 = .ok (.if_icmp .eq 12, 3) := by decide +kernel
theorem dX7_bestError_66 : decode cX7_bestError 66 = .ok (.aload_n 0, 1) := by decide +kernel
theorem dX7_bestError_67 : decode cX7_bestError 67 = .ok (.getfield 85, 3) := by decide +kernel
theorem dX7_bestError_70 : decode cX7_bestError 70 = .ok (.iload 4, 2) := by decide +kernel
theorem dX7_bestError_72 : decode cX7_bestError 72 = .ok (.if_icmp .ge 7, 3) := by decide +kernel
theorem dX7_bestError_75 : decode cX7_bestError 75 = .ok (.iconst 1, 1) := by decide +kernel
theorem dX7_bestError_76 : decode cX7_bestError 76 = .ok (.goto 4, 3) := by decide +kernel
theorem dX7_bestError_79 : decode cX7_bestError 79 = .ok (.iconst 0, 1) := by decide +kernel
theorem dX7_bestError_80 : decode cX7_bestError 80 = .ok (.istore 6, 2) := by decide +kernel
theorem dX7_bestError_82 : decode cX7_bestError 82 = .ok (.iload 6, 2) := by decide +kernel
theorem dX7_bestError_84 : decode cX7_bestError 84 = .ok (.ifCond .eq 8, 3) := by decide +kernel
theorem dX7_bestError_87 : decode cX7_bestError 87 = .ok (.iload 5, 2) := by decide +kernel
theorem dX7_bestError_89 : decode cX7_bestError 89 = .ok (.goto 4, 3) := by decide +kernel
theorem dX7_bestError_92 : decode cX7_bestError 92 = .ok (.iload_n 3, 1) := by decide +kernel
theorem dX7_bestError_93 : decode cX7_bestError 93 = .ok (.istore_n 3, 1) := by decide +kernel
theorem dX7_bestError_94 : decode cX7_bestError 94 = .ok (.iload 6, 2) := by decide +kernel
theorem dX7_bestError_96 : decode cX7_bestError 96 = .ok (.ifCond .eq 10, 3) := by decide +kernel
theorem dX7_bestError_99 : decode cX7_bestError 99 = .ok (.aload_n 0, 1) := by decide +kernel
theorem dX7_bestError_100 : decode cX7_bestError 100 = .ok (.getfield 85, 3) := by decide +kernel
theorem dX7_bestError_103 : decode cX7_bestError 103 = .ok (.goto 5, 3) := by decide +kernel
theorem dX7_bestError_106 : decode cX7_bestError 106 = .ok (.iload 4, 2) := by decide +kernel
theorem dX7_bestError_108 : decode cX7_bestError 108 = .ok (.istore 4, 2) := by decide +kernel
theorem dX7_bestError_110 : decode cX7_bestError 110 = .ok (.iinc 5 1, 3) := by decide +kernel
theorem dX7_bestError_113 : decode cX7_bestError 113 = .ok (.goto (-68), 3) := by decide +kernel
theorem dX7_bestError_116 : decode cX7_bestError 116 = .ok (.iload_n 2, 1) := by decide +kernel
theorem dX7_bestError_117 : decode cX7_bestError 117 = .ok (.ifCond .ne 10, 3) := by decide +kernel
theorem dX7_bestError_120 : decode cX7_bestError 120 = .ok (.iload_n 3, 1) := by decide +kernel
theorem dX7_bestError_121 : decode cX7_bestError 121 = .ok (.bipush 100, 2) := by decide +kernel
theorem dX7_bestError_123 : decode cX7_bestError 123 = .ok (.iadd, 1) := by decide +kernel
theorem dX7_bestError_124 : decode cX7_bestError 124 = .ok (.goto 5, 3) := by decide +kernel
theorem dX7_bestError_127 : decode cX7_bestError 127 = .ok (.iload 4, 2) := by decide +kernel
theorem dX7_bestError_129 : decode cX7_bestError 129 = .ok (.ireturn, 1) := by decide +kernel
theorem dX7_airCosts_0 : decode cX7_airCosts 0 = .ok (.iload_n 1, 1) := by decide +kernel
theorem dX7_airCosts_1 : decode cX7_airCosts 1 = .ok (.iconst 0, 1) := by decide +kernel
theorem dX7_airCosts_2 : decode cX7_airCosts 2 = .ok (.bipush 9, 2) := by decide +kernel
theorem dX7_airCosts_4 : decode cX7_airCosts 4 = .ok (.invokestatic 39, 3) := by decide +kernel
theorem dX7_airCosts_7 : decode cX7_airCosts 7 = .ok (.ifCond .ne 6, 3) := by decide +kernel
theorem dX7_airCosts_10 : decode cX7_airCosts 10 = .ok (.bipush (-2), 2) := by decide +kernel
theorem dX7_airCosts_12 : decode cX7_airCosts 12 = .ok (.ireturn, 1) := by decide +kernel
theorem dX7_airCosts_13 : decode cX7_airCosts 13 = .ok (.aload_n 0, 1) := by decide +kernel
theorem dX7_airCosts_14 : decode cX7_airCosts 14 = .ok (.aload_n 0, 1) := by decide +kernel
theorem dX7_airCosts_15 : decode cX7_airCosts 15 = .ok (.getfield 7, 3) := by decide +kernel
theorem dX7_airCosts_18 : decode cX7_airCosts 18 = .ok (.iconst 4, 1) := by decide +kernel
theorem dX7_airCosts_19 : decode cX7_airCosts 19 = .ok (.iaload, 1) := by decide +kernel
theorem dX7_airCosts_20 : decode cX7_airCosts 20 = .ok (.invokevirtual 51, 3) := by decide +kernel
theorem dX7_airCosts_23 : decode cX7_airCosts 23 = .ok (.istore_n 2, 1) := by decide +kernel
theorem dX7_airCosts_24 : decode cX7_airCosts 24 = .ok (.aload_n 0, 1) := by decide +kernel
theorem dX7_airCosts_25 : decode cX7_airCosts 25 = .ok (.iload_n 2, 1) := by decide +kernel
theorem dX7_airCosts_26 : decode cX7_airCosts 26 = .ok (.iload_n 1, 1) := by decide +kernel
theorem dX7_airCosts_27 : decode cX7_airCosts 27 = .ok (.invokevirtual 55, 3) := by decide +kernel
theorem dX7_airCosts_30 : decode cX7_airCosts 30 = .ok (.aload_n 0, 1) := by decide +kernel
theorem dX7_airCosts_31 : decode cX7_airCosts 31 = .ok (.iload_n 2, 1) := by decide +kernel
theorem dX7_airCosts_32 : decode cX7_airCosts 32 = .ok (.aload_n 0, 1) := by decide +kernel
theorem dX7_airCosts_33 : decode cX7_airCosts 33 = .ok (.getfield 7, 3) := by decide +kernel
theorem dX7_airCosts_36 : decode cX7_airCosts 36 = .ok (.iconst 0, 1) := by decide +kernel
theorem dX7_airCosts_37 : decode cX7_airCosts 37 = .ok (.iaload, 1) := by decide +kernel
theorem dX7_airCosts_38 : decode cX7_airCosts 38 = .ok (.invokevirtual 55, 3) := by decide +kernel
theorem dX7_airCosts_41 : decode cX7_airCosts 41 = .ok (.isub, 1) := by decide +kernel
theorem dX7_airCosts_42 : decode cX7_airCosts 42 = .ok (.sipush 10000, 3) := by decide +kernel
theorem dX7_airCosts_45 : decode cX7_airCosts 45 = .ok (.iadd, 1) := by decide +kernel
theorem dX7_airCosts_46 : decode cX7_airCosts 46 = .ok (.ireturn, 1) := by decide +kernel
theorem dX7_put_0 : decode cX7_put 0 = .ok (.iconst 0, 1) := by decide +kernel
theorem dX7_put_1 : decode cX7_put 1 = .ok (.istore_n 3, 1) := by decide +kernel
theorem dX7_put_2 : decode cX7_put 2 = .ok (.lload_n 1, 1) := by decide +kernel
theorem dX7_put_3 : decode cX7_put 3 = .ok (.lstore 4, 2) := by decide +kernel
theorem dX7_put_5 : decode cX7_put 5 = .ok (.iconst 1, 1) := by decide +kernel
theorem dX7_put_6 : decode cX7_put 6 = .ok (.istore 6, 2) := by decide +kernel
theorem dX7_put_8 : decode cX7_put 8 = .ok (.iload_n 3, 1) := by decide +kernel
theorem dX7_put_9 : decode cX7_put 9 = .ok (.bipush 8, 2) := by decide +kernel
theorem dX7_put_11 : decode cX7_put 11 = .ok (.if_icmp .ge 56, 3) := by decide +kernel
theorem dX7_put_14 : decode cX7_put 14 = .ok (.lload 4, 2) := by decide +kernel
theorem dX7_put_16 : decode cX7_put 16 = .ok (.ldc2_w 169, 3) := by decide +kernel
theorem dX7_put_19 : decode cX7_put 19 = .ok (.land, 1) := by decide +kernel
theorem dX7_put_20 : decode cX7_put 20 = .ok (.lconst 0, 1) := by decide +kernel
theorem dX7_put_21 : decode cX7_put 21 = .ok (.lcmp, 1) := by decide +kernel
theorem dX7_put_22 : decode cX7_put 22 = .ok (.ifCond .eq 45, 3) := by decide +kernel
theorem dX7_put_25 : decode cX7_put 25 = .ok (.iload 6, 2) := by decide +kernel
theorem dX7_put_27 : decode cX7_put 27 = .ok (.ifCond .eq 24, 3) := by decide +kernel
theorem dX7_put_30 : decode cX7_put 30 = .ok (.lload 4, 2) := by decide +kernel
theorem dX7_put_32 : decode cX7_put 32 = .ok (.ldc2_w 169, 3) := by decide +kernel
theorem dX7_put_35 : decode cX7_put 35 = .ok (.land, 1) := by decide +kernel
theorem dX7_put_36 : decode cX7_put 36 = .ok (.l2i, 1) := by decide +kernel
theorem dX7_put_37 : decode cX7_put 37 = .ok (.bipush 33, 2) := by decide +kernel
theorem dX7_put_39 : decode cX7_put 39 = .ok (.bipush 126, 2) := by decide +kernel
theorem dX7_put_41 : decode cX7_put 41 = .ok (.invokestatic 39, 3) := by decide +kernel
theorem dX7_put_44 : decode cX7_put 44 = .ok (.ifCond .eq 7, 3) := by decide +kernel
theorem dX7_put_47 : decode cX7_put 47 = .ok (.iconst 1, 1) := by decide +kernel
theorem dX7_put_48 : decode cX7_put 48 = .ok (.goto 4, 3) := by decide +kernel
theorem dX7_put_51 : decode cX7_put 51 = .ok (.iconst 0, 1) := by decide +kernel
theorem dX7_put_52 : decode cX7_put 52 = .ok (.istore 6, 2) := by decide +kernel
theorem dX7_put_54 : decode cX7_put 54 = .ok (.lload 4, 2) := by decide +kernel
theorem dX7_put_56 : decode cX7_put 56 = .ok (.bipush 8, 2) := by decide +kernel
theorem dX7_put_58 : decode cX7_put 58 = .ok (.lushr, 1) := by decide +kernel
theorem dX7_put_59 : decode cX7_put 59 = .ok (.lstore 4, 2) := by decide +kernel
theorem dX7_put_61 : decode cX7_put 61 = .ok (.iinc 3 1, 3) := by decide +kernel
theorem dX7_put_64 : decode cX7_put 64 = .ok (.goto (-56), 3) := by decide +kernel
theorem dX7_put_67 : decode cX7_put 67 = .ok (.iload_n 3, 1) := by decide +kernel
theorem dX7_put_68 : decode cX7_put 68 = .ok (.ifCond .eq 15, 3) := by decide +kernel
theorem dX7_put_71 : decode cX7_put 71 = .ok (.iload 6, 2) := by decide +kernel
theorem dX7_put_73 : decode cX7_put 73 = .ok (.ifCond .eq 10, 3) := by decide +kernel
theorem dX7_put_76 : decode cX7_put 76 = .ok (.lload 4, 2) := by decide +kernel
theorem dX7_put_78 : decode cX7_put 78 = .ok (.lconst 0, 1) := by decide +kernel
theorem dX7_put_79 : decode cX7_put 79 = .ok (.lcmp, 1) := by decide +kernel
theorem dX7_put_80 : decode cX7_put 80 = .ok (.ifCond .eq 6, 3) := by decide +kernel
theorem dX7_put_83 : decode cX7_put 83 = .ok (.bipush (-2), 2) := by decide +kernel
theorem dX7_put_85 : decode cX7_put 85 = .ok (.ireturn, 1) := by decide +kernel
theorem dX7_put_86 : decode cX7_put 86 = .ok (.aload_n 0, 1) := by decide +kernel
theorem dX7_put_87 : decode cX7_put 87 = .ok (.getfield 163, 3) := by decide +kernel
theorem dX7_put_90 : decode cX7_put 90 = .ok (.iload_n 3, 1) := by decide +kernel
theorem dX7_put_91 : decode cX7_put 91 = .ok (.iadd, 1) := by decide +kernel
theorem dX7_put_92 : decode cX7_put 92 = .ok (.bipush 80, 2) := by decide +kernel
theorem dX7_put_94 : decode cX7_put 94 = .ok (.if_icmp .le 6, 3) := by decide +kernel
theorem dX7_put_97 : decode cX7_put 97 = .ok (.bipush (-4), 2) := by decide +kernel
theorem dX7_put_99 : decode cX7_put 99 = .ok (.ireturn, 1) := by decide +kernel
theorem dX7_put_100 : decode cX7_put 100 = .ok (.iload_n 3, 1) := by decide +kernel
theorem dX7_put_101 : decode cX7_put 101 = .ok (.iconst 1, 1) := by decide +kernel
theorem dX7_put_102 : decode cX7_put 102 = .ok (.isub, 1) := by decide +kernel
theorem dX7_put_103 : decode cX7_put 103 = .ok (.istore 7, 2) := by decide +kernel
theorem dX7_put_105 : decode cX7_put 105 = .ok (.iload 7, 2) := by decide +kernel
theorem dX7_put_107 : decode cX7_put 107 = .ok (.ifCond .lt 40, 3) := by decide +kernel
theorem dX7_put_110 : decode cX7_put 110 = .ok (.aload_n 0, 1) := by decide +kernel
theorem dX7_put_111 : decode cX7_put 111 = .ok (.getfield 22, 3) := by decide +kernel
theorem dX7_put_114 : decode cX7_put 114 = .ok (.aload_n 0, 1) := by decide +kernel
theorem dX7_put_115 : decode cX7_put 115 = .ok (.getfield 163, 3) := by decide +kernel
theorem dX7_put_118 : decode cX7_put 118 = .ok (.lload_n 1, 1) := by decide +kernel
theorem dX7_put_119 : decode cX7_put 119 = .ok (.bipush 8, 2) := by decide +kernel
theorem dX7_put_121 : decode cX7_put 121 = .ok (.iload 7, 2) := by decide +kernel
theorem dX7_put_123 : decode cX7_put 123 = .ok (.imul, 1) := by decide +kernel
theorem dX7_put_124 : decode cX7_put 124 = .ok (.lushr, 1) := by decide +kernel
theorem dX7_put_125 : decode cX7_put 125 = .ok (.ldc2_w 169, 3) := by decide +kernel
theorem dX7_put_128 : decode cX7_put 128 = .ok (.land, 1) := by decide +kernel
theorem dX7_put_129 : decode cX7_put 129 = .ok (.l2i, 1) := by decide +kernel
theorem dX7_put_130 : decode cX7_put 130 = .ok (.iastore, 1) := by decide +kernel
theorem dX7_put_131 : decode cX7_put 131 = .ok (.aload_n 0, 1) := by decide +kernel
theorem dX7_put_132 : decode cX7_put 132 = .ok (.dup, 1) := by decide +kernel
theorem dX7_put_133 : decode cX7_put 133 = .ok (.getfield 163, 3) := by decide +kernel
theorem dX7_put_136 : decode cX7_put 136 = .ok (.iconst 1, 1) := by decide +kernel
theorem dX7_put_137 : decode cX7_put 137 = .ok (.iadd, 1) := by decide +kernel
theorem dX7_put_138 : decode cX7_put 138 = .ok (.putfield 163, 3) := by decide +kernel
theorem dX7_put_141 : decode cX7_put 141 = .ok (.iinc 7 (-1), 3) := by decide +kernel
theorem dX7_put_144 : decode cX7_put 144 = .ok (.goto (-39), 3) := by decide +kernel
theorem dX7_put_147 : decode cX7_put 147 = .ok (.aload_n 0, 1) := by decide +kernel
theorem dX7_put_148 : decode cX7_put 148 = .ok (.getfield 163, 3) := by decide +kernel
theorem dX7_put_151 : decode cX7_put 151 = .ok (.ireturn, 1) := by decide +kernel
theorem dX7_wipe_0 : decode cX7_wipe 0 = .ok (.aload_n 0, 1) := by decide +kernel
theorem dX7_wipe_1 : decode cX7_wipe 1 = .ok (.getfield 163, 3) := by decide +kernel
theorem dX7_wipe_4 : decode cX7_wipe 4 = .ok (.istore_n 1, 1) := by decide +kernel
theorem dX7_wipe_5 : decode cX7_wipe 5 = .ok (.aload_n 0, 1) := by decide +kernel
theorem dX7_wipe_6 : decode cX7_wipe 6 = .ok (.iconst 0, 1) := by decide +kernel
theorem dX7_wipe_7 : decode cX7_wipe 7 = .ok (.putfield 163, 3) := by decide +kernel
theorem dX7_wipe_10 : decode cX7_wipe 10 = .ok (.iload_n 1, 1) := by decide +kernel
theorem dX7_wipe_11 : decode cX7_wipe 11 = .ok (.ireturn, 1) := by decide +kernel
theorem dX7_character_0 : decode cX7_character 0 = .ok (.iload_n 1, 1) := by decide +kernel
theorem dX7_character_1 : decode cX7_character 1 = .ok (.aload_n 0, 1) := by decide +kernel
theorem dX7_character_2 : decode cX7_character 2 = .ok (.getfield 163, 3) := by decide +kernel
theorem dX7_character_5 : decode cX7_character 5 = .ok (.if_icmp .ge 12, 3) := by decide +kernel
theorem dX7_character_8 : decode cX7_character 8 = .ok (.aload_n 0, 1) := by decide +kernel
theorem dX7_character_9 : decode cX7_character 9 = .ok (.getfield 22, 3) := by decide +kernel
theorem dX7_character_12 : decode cX7_character 12 = .ok (.iload_n 1, 1) := by decide +kernel
theorem dX7_character_13 : decode cX7_character 13 = .ok (.iaload, 1) := by decide +kernel
theorem dX7_character_14 : decode cX7_character 14 = .ok (.goto 4, 3) := by decide +kernel
theorem dX7_character_17 : decode cX7_character 17 = .ok (.iconst (-1), 1) := by decide +kernel
theorem dX7_character_18 : decode cX7_character 18 = .ok (.ireturn, 1) := by decide +kernel
theorem dX7_isNext_0 : decode cX7_isNext 0 = .ok (.aload_n 0, 1) := by decide +kernel
theorem dX7_isNext_1 : decode cX7_isNext 1 = .ok (.aload_n 0, 1) := by decide +kernel
theorem dX7_isNext_2 : decode cX7_isNext 2 = .ok (.getfield 171, 3) := by decide +kernel
theorem dX7_isNext_5 : decode cX7_isNext 5 = .ok (.invokevirtual 174, 3) := by decide +kernel
theorem dX7_isNext_8 : decode cX7_isNext 8 = .ok (.iload_n 1, 1) := by decide +kernel
theorem dX7_isNext_9 : decode cX7_isNext 9 = .ok (.if_icmp .ne 7, 3) := by decide +kernel
theorem dX7_isNext_12 : decode cX7_isNext 12 = .ok (.iconst 1, 1) := by decide +kernel
theorem dX7_isNext_13 : decode cX7_isNext 13 = .ok (.goto 4, 3) := by decide +kernel
theorem dX7_isNext_16 : decode cX7_isNext 16 = .ok (.iconst 0, 1) := by decide +kernel
theorem dX7_isNext_17 : decode cX7_isNext 17 = .ok (.istore_n 2, 1) := by decide +kernel
theorem dX7_isNext_18 : decode cX7_isNext 18 = .ok (.aload_n 0, 1) := by decide +kernel
theorem dX7_isNext_19 : decode cX7_isNext 19 = .ok (.dup, 1) := by decide +kernel
theorem dX7_isNext_20 : decode cX7_isNext 20 = .ok (.getfield 171, 3) := by decide +kernel
theorem dX7_isNext_23 : decode cX7_isNext 23 = .ok (.iload_n 2, 1) := by decide +kernel
theorem dX7_isNext_24 : decode cX7_isNext 24 = .ok (.ifCond .eq 7, 3) := by decide +kernel
theorem dX7_isNext_27 : decode cX7_isNext 27 = .ok (.iconst 1, 1) := by decide +kernel
theorem dX7_isNext_28 : decode cX7_isNext 28 = .ok (.goto 4, 3) := by decide +kernel
theorem dX7_isNext_31 : decode cX7_isNext 31 = .ok (.iconst 0, 1) := by decide +kernel
theorem dX7_isNext_32 : decode cX7_isNext 32 = .ok (.iadd, 1) := by decide +kernel
theorem dX7_isNext_33 : decode cX7_isNext 33 = .ok (.putfield 171, 3) := by decide +kernel
theorem dX7_isNext_36 : decode cX7_isNext 36 = .ok (.iload_n 2, 1) := by decide +kernel
theorem dX7_isNext_37 : decode cX7_isNext 37 = .ok (.ireturn, 1) := by decide +kernel
theorem dX7_takeDigit_0 : decode cX7_takeDigit 0 = .ok (.aload_n 0, 1) := by decide +kernel
theorem dX7_takeDigit_1 : decode cX7_takeDigit 1 = .ok (.aload_n 0, 1) := by decide +kernel
theorem dX7_takeDigit_2 : decode cX7_takeDigit 2 = .ok (.getfield 171, 3) := by decide +kernel
theorem dX7_takeDigit_5 : decode cX7_takeDigit 5 = .ok (.invokevirtual 174, 3) := by decide +kernel
theorem dX7_takeDigit_8 : decode cX7_takeDigit 8 = .ok (.bipush 48, 2) := by decide +kernel
theorem dX7_takeDigit_10 : decode cX7_takeDigit 10 = .ok (.isub, 1) := by decide +kernel
theorem dX7_takeDigit_11 : decode cX7_takeDigit 11 = .ok (.istore_n 1, 1) := by decide +kernel
theorem dX7_takeDigit_12 : decode cX7_takeDigit 12 = .ok (.iload_n 1, 1) := by decide +kernel
theorem dX7_takeDigit_13 : decode cX7_takeDigit 13 = .ok (.iconst 0, 1) := by decide +kernel
theorem dX7_takeDigit_14 : decode cX7_takeDigit 14 = .ok (.bipush 9, 2) := by decide +kernel
theorem dX7_takeDigit_16 : decode cX7_takeDigit 16 = .ok (.invokestatic 39, 3) := by decide +kernel
theorem dX7_takeDigit_19 : decode cX7_takeDigit 19 = .ok (.ifCond .ne 5, 3) := by decide +kernel
theorem dX7_takeDigit_22 : decode cX7_takeDigit 22 = .ok (.iconst (-1), 1) := by decide +kernel
theorem dX7_takeDigit_23 : decode cX7_takeDigit 23 = .ok (.ireturn, 1) := by decide +kernel
theorem dX7_takeDigit_24 : decode cX7_takeDigit 24 = .ok (.aload_n 0, 1) := by decide +kernel
theorem dX7_takeDigit_25 : decode cX7_takeDigit 25 = .ok (.dup, 1) := by decide +kernel
theorem dX7_takeDigit_26 : decode cX7_takeDigit 26 = .ok (.getfield 171, 3) := by decide +kernel
theorem dX7_takeDigit_29 : decode cX7_takeDigit 29 = .ok (.iconst 1, 1) := by decide +kernel
theorem dX7_takeDigit_30 : decode cX7_takeDigit 30 = .ok (.iadd, 1) := by decide +kernel
theorem dX7_takeDigit_31 : decode cX7_takeDigit 31 = .ok (.putfield 171, 3) := by decide +kernel
theorem dX7_takeDigit_34 : decode cX7_takeDigit 34 = .ok (.iload_n 1, 1) := by decide +kernel
theorem dX7_takeDigit_35 : decode cX7_takeDigit 35 = .ok (.ireturn, 1) := by decide +kernel
theorem dX7_takeNumber_0 : decode cX7_takeNumber 0 = .ok (.aload_n 0, 1) := by decide +kernel
theorem dX7_takeNumber_1 : decode cX7_takeNumber 1 = .ok (.invokevirtual 177, 3) := by decide +kernel
theorem dX7_takeNumber_4 : decode cX7_takeNumber 4 = .ok (.istore_n 1, 1) := by decide +kernel
theorem dX7_takeNumber_5 : decode cX7_takeNumber 5 = .ok (.iload_n 1, 1) := by decide +kernel
theorem dX7_takeNumber_6 : decode cX7_takeNumber 6 = .ok (.ifCond .le 41, 3) := by decide +kernel
theorem dX7_takeNumber_9 : decode cX7_takeNumber 9 = .ok (.iload_n 1, 1) := by decide +kernel
theorem dX7_takeNumber_10 : decode cX7_takeNumber 10 = .ok (.sipush 1000, 3) := by decide +kernel
theorem dX7_takeNumber_13 : decode cX7_takeNumber 13 = .ok (.if_icmp .ge 34, 3) := by decide +kernel
theorem dX7_takeNumber_16 : decode cX7_takeNumber 16 = .ok (.aload_n 0, 1) := by decide +kernel
theorem dX7_takeNumber_17 : decode cX7_takeNumber 17 = .ok (.aload_n 0, 1) := by decide +kernel
theorem dX7_takeNumber_18 : decode cX7_takeNumber 18 = .ok (.getfield 171, 3) := by decide +kernel
theorem dX7_takeNumber_21 : decode cX7_takeNumber 21 = .ok (.invokevirtual 174, 3) := by decide +kernel
theorem dX7_takeNumber_24 : decode cX7_takeNumber 24 = .ok (.bipush 48, 2) := by decide +kernel
theorem dX7_takeNumber_26 : decode cX7_takeNumber 26 = .ok (.bipush 57, 2) := by decide +kernel
theorem dX7_takeNumber_28 : decode cX7_takeNumber 28 = .ok (.invokestatic 39, 3) := by decide +kernel
theorem dX7_takeNumber_31 : decode cX7_takeNumber 31 = .ok (.ifCond .eq 16, 3) := by decide +kernel
theorem dX7_takeNumber_34 : decode cX7_takeNumber 34 = .ok (.bipush 10, 2) := by decide +kernel
theorem dX7_takeNumber_36 : decode cX7_takeNumber 36 = .ok (.iload_n 1, 1) := by decide +kernel
theorem dX7_takeNumber_37 : decode cX7_takeNumber 37 = .ok (.imul, 1) := by decide +kernel
theorem dX7_takeNumber_38 : decode cX7_takeNumber 38 = .ok (.aload_n 0, 1) := by decide +kernel
theorem dX7_takeNumber_39 : decode cX7_takeNumber 39 = .ok (.invokevirtual 177, 3) := by decide +kernel
theorem dX7_takeNumber_42 : decode cX7_takeNumber 42 = .ok (.iadd, 1) := by decide +kernel
theorem dX7_takeNumber_43 : decode cX7_takeNumber 43 = .ok (.istore_n 1, 1) := by decide +kernel
theorem dX7_takeNumber_44 : decode cX7_takeNumber 44 = .ok (.goto (-39), 3) := by decide +kernel
theorem dX7_takeNumber_47 : decode cX7_takeNumber 47 = .ok (.iload_n 1, 1) := by decide +kernel
theorem dX7_takeNumber_48 : decode cX7_takeNumber 48 = .ok (.ireturn, 1) := by decide +kernel
theorem dX7_readsGauge_0 : decode cX7_readsGauge 0 = .ok (.aload_n 0, 1) := by decide +kernel
theorem dX7_readsGauge_1 : decode cX7_readsGauge 1 = .ok (.bipush 45, 2) := by decide +kernel
theorem dX7_readsGauge_3 : decode cX7_readsGauge 3 = .ok (.invokevirtual 180, 3) := by decide +kernel
theorem dX7_readsGauge_6 : decode cX7_readsGauge 6 = .ok (.istore_n 1, 1) := by decide +kernel
theorem dX7_readsGauge_7 : decode cX7_readsGauge 7 = .ok (.aload_n 0, 1) := by decide +kernel
theorem dX7_readsGauge_8 : decode cX7_readsGauge 8 = .ok (.invokevirtual 183, 3) := by decide +kernel
theorem dX7_readsGauge_11 : decode cX7_readsGauge 11 = .ok (.istore_n 2, 1) := by decide +kernel
theorem dX7_readsGauge_12 : decode cX7_readsGauge 12 = .ok (.aload_n 0, 1) := by decide +kernel
theorem dX7_readsGauge_13 : decode cX7_readsGauge 13 = .ok (.iload_n 1, 1) := by decide +kernel
theorem dX7_readsGauge_14 : decode cX7_readsGauge 14 = .ok (.ifCond .eq 8, 3) := by decide +kernel
theorem dX7_readsGauge_17 : decode cX7_readsGauge 17 = .ok (.iload_n 2, 1) := by decide +kernel
theorem dX7_readsGauge_18 : decode cX7_readsGauge 18 = .ok (.ineg, 1) := by decide +kernel
theorem dX7_readsGauge_19 : decode cX7_readsGauge 19 = .ok (.goto 4, 3) := by decide +kernel
theorem dX7_readsGauge_22 : decode cX7_readsGauge 22 = .ok (.iload_n 2, 1) := by decide +kernel
theorem dX7_readsGauge_23 : decode cX7_readsGauge 23 = .ok (.putfield 186, 3) := by decide +kernel
theorem dX7_readsGauge_26 : decode cX7_readsGauge 26 = .ok (.aload_n 0, 1) := by decide +kernel
theorem dX7_readsGauge_27 : decode cX7_readsGauge 27 = .ok (.iload_n 2, 1) := by decide +kernel
theorem dX7_readsGauge_28 : decode cX7_readsGauge 28 = .ok (.ifCond .lt 19, 3) := by decide +kernel
theorem dX7_readsGauge_31 : decode cX7_readsGauge 31 = .ok (.aload_n 0, 1) := by decide +kernel
theorem dX7_readsGauge_32 : decode cX7_readsGauge 32 = .ok (.bipush 44, 2) := by decide +kernel
theorem dX7_readsGauge_34 : decode cX7_readsGauge 34 = .ok (.invokevirtual 180, 3) := by decide +kernel
theorem dX7_readsGauge_37 : decode cX7_readsGauge 37 = .ok (.ifCond .eq 10, 3) := by decide +kernel
theorem dX7_readsGauge_40 : decode cX7_readsGauge 40 = .ok (.aload_n 0, 1) := by decide +kernel
theorem dX7_readsGauge_41 : decode cX7_readsGauge 41 = .ok (.invokevirtual 183, 3) := by decide +kernel
theorem dX7_readsGauge_44 : decode cX7_readsGauge 44 = .ok (.goto 4, 3) := by decide +kernel
theorem dX7_readsGauge_47 : decode cX7_readsGauge 47 = .ok (.iconst (-1), 1) := by decide +kernel
theorem dX7_readsGauge_48 : decode cX7_readsGauge 48 = .ok (.putfield 189, 3) := by decide +kernel
theorem dX7_readsGauge_51 : decode cX7_readsGauge 51 = .ok (.aload_n 0, 1) := by decide +kernel
theorem dX7_readsGauge_52 : decode cX7_readsGauge 52 = .ok (.aload_n 0, 1) := by decide +kernel
theorem dX7_readsGauge_53 : decode cX7_readsGauge 53 = .ok (.getfield 189, 3) := by decide +kernel
theorem dX7_readsGauge_56 : decode cX7_readsGauge 56 = .ok (.ifCond .lt 19, 3) := by decide +kernel
theorem dX7_readsGauge_59 : decode cX7_readsGauge 59 = .ok (.aload_n 0, 1) := by decide +kernel
theorem dX7_readsGauge_60 : decode cX7_readsGauge 60 = .ok (.bipush 44, 2) := by decide +kernel
theorem dX7_readsGauge_62 : decode cX7_readsGauge 62 = .ok (.invokevirtual 180, 3) := by decide +kernel
theorem dX7_readsGauge_65 : decode cX7_readsGauge 65 = .ok (.ifCond .eq 10, 3) := by decide +kernel
theorem dX7_readsGauge_68 : decode cX7_readsGauge 68 = .ok (.aload_n 0, 1) := by decide +kernel
theorem dX7_readsGauge_69 : decode cX7_readsGauge 69 = .ok (.invokevirtual 183, 3) := by decide +kernel
theorem dX7_readsGauge_72 : decode cX7_readsGauge 72 = .ok (.goto 4, 3) := by decide +kernel
theorem dX7_readsGauge_75 : decode cX7_readsGauge 75 = .ok (.iconst (-1), 1) := by decide +kernel
theorem dX7_readsGauge_76 : decode cX7_readsGauge 76 = .ok (.putfield 192, 3) := by decide +kernel
theorem dX7_readsGauge_79 : decode cX7_readsGauge 79 = .ok (.aload_n 0, 1) := by decide +kernel
theorem dX7_readsGauge_80 : decode cX7_readsGauge 80 = .ok (.getfield 192, 3) := by decide +kernel
theorem dX7_readsGauge_83 : decode cX7_readsGauge 83 = .ok (.ifCond .lt 7, 3) := by decide +kernel
theorem dX7_readsGauge_86 : decode cX7_readsGauge 86 = .ok (.iconst 1, 1) := by decide +kernel
theorem dX7_readsGauge_87 : decode cX7_readsGauge 87 = .ok (.goto 4, 3) := by decide +kernel
theorem dX7_readsGauge_90 : decode cX7_readsGauge 90 = .ok (.iconst 0, 1) := by decide +kernel
theorem dX7_readsGauge_91 : decode cX7_readsGauge 91 = .ok (.ireturn, 1) := by decide +kernel
theorem dX7_readsOrder_0 : decode cX7_readsOrder 0 = .ok (.aload_n 0, 1) := by decide +kernel
theorem dX7_readsOrder_1 : decode cX7_readsOrder 1 = .ok (.aload_n 0, 1) := by decide +kernel
theorem dX7_readsOrder_2 : decode cX7_readsOrder 2 = .ok (.aload_n 0, 1) := by decide +kernel
theorem dX7_readsOrder_3 : decode cX7_readsOrder 3 = .ok (.getfield 171, 3) := by decide +kernel
theorem dX7_readsOrder_6 : decode cX7_readsOrder 6 = .ok (.invokevirtual 174, 3) := by decide +kernel
theorem dX7_readsOrder_9 : decode cX7_readsOrder 9 = .ok (.putfield 195, 3) := by decide +kernel
theorem dX7_readsOrder_12 : decode cX7_readsOrder 12 = .ok (.aload_n 0, 1) := by decide +kernel
theorem dX7_readsOrder_13 : decode cX7_readsOrder 13 = .ok (.dup, 1) := by decide +kernel
theorem dX7_readsOrder_14 : decode cX7_readsOrder 14 = .ok (.getfield 171, 3) := by decide +kernel
theorem dX7_readsOrder_17 : decode cX7_readsOrder 17 = .ok (.iconst 1, 1) := by decide +kernel
theorem dX7_readsOrder_18 : decode cX7_readsOrder 18 = .ok (.iadd, 1) := by decide +kernel
theorem dX7_readsOrder_19 : decode cX7_readsOrder 19 = .ok (.putfield 171, 3) := by decide +kernel
theorem dX7_readsOrder_22 : decode cX7_readsOrder 22 = .ok (.aload_n 0, 1) := by decide +kernel
theorem dX7_readsOrder_23 : decode cX7_readsOrder 23 = .ok (.getfield 195, 3) := by decide +kernel
theorem dX7_readsOrder_26 : decode cX7_readsOrder 26 = .ok (.lookupswitch 105 #[(43, 58), (45, 58), (97, 79), (103, 100), (109, 58), (116, 58)], 58) := by decide +kernel
theorem dX7_readsOrder_84 : decode cX7_readsOrder 84 = .ok (.aload_n 0, 1) := by decide +kernel
theorem dX7_readsOrder_85 : decode cX7_readsOrder 85 = .ok (.aload_n 0, 1) := by decide +kernel
theorem dX7_readsOrder_86 : decode cX7_readsOrder 86 = .ok (.invokevirtual 183, 3) := by decide +kernel
theorem dX7_readsOrder_89 : decode cX7_readsOrder 89 = .ok (.putfield 186, 3) := by decide +kernel
theorem dX7_readsOrder_92 : decode cX7_readsOrder 92 = .ok (.aload_n 0, 1) := by decide +kernel
theorem dX7_readsOrder_93 : decode cX7_readsOrder 93 = .ok (.getfield 186, 3) := by decide +kernel
theorem dX7_readsOrder_96 : decode cX7_readsOrder 96 = .ok (.ifCond .lt 7, 3) := by decide +kernel
theorem dX7_readsOrder_99 : decode cX7_readsOrder 99 = .ok (.iconst 1, 1) := by decide +kernel
theorem dX7_readsOrder_100 : decode cX7_readsOrder 100 = .ok (.goto 4, 3) := by decide +kernel
theorem dX7_readsOrder_103 : decode cX7_readsOrder 103 = .ok (.iconst 0, 1) := by decide +kernel
theorem dX7_readsOrder_104 : decode cX7_readsOrder 104 = .ok (.ireturn, 1) := by decide +kernel
theorem dX7_readsOrder_105 : decode cX7_readsOrder 105 = .ok (.aload_n 0, 1) := by decide +kernel
theorem dX7_readsOrder_106 : decode cX7_readsOrder 106 = .ok (.aload_n 0, 1) := by decide +kernel
theorem dX7_readsOrder_107 : decode cX7_readsOrder 107 = .ok (.invokevirtual 177, 3) := by decide +kernel
theorem dX7_readsOrder_110 : decode cX7_readsOrder 110 = .ok (.putfield 186, 3) := by decide +kernel
theorem dX7_readsOrder_113 : decode cX7_readsOrder 113 = .ok (.aload_n 0, 1) := by decide +kernel
theorem dX7_readsOrder_114 : decode cX7_readsOrder 114 = .ok (.getfield 186, 3) := by decide +kernel
theorem dX7_readsOrder_117 : decode cX7_readsOrder 117 = .ok (.ifCond .lt 7, 3) := by decide +kernel
theorem dX7_readsOrder_120 : decode cX7_readsOrder 120 = .ok (.iconst 1, 1) := by decide +kernel
theorem dX7_readsOrder_121 : decode cX7_readsOrder 121 = .ok (.goto 4, 3) := by decide +kernel
theorem dX7_readsOrder_124 : decode cX7_readsOrder 124 = .ok (.iconst 0, 1) := by decide +kernel
theorem dX7_readsOrder_125 : decode cX7_readsOrder 125 = .ok (.ireturn, 1) := by decide +kernel
theorem dX7_readsOrder_126 : decode cX7_readsOrder 126 = .ok (.aload_n 0, 1) := by decide +kernel
theorem dX7_readsOrder_127 : decode cX7_readsOrder 127 = .ok (.invokevirtual 198, 3) := by decide +kernel
theorem dX7_readsOrder_130 : decode cX7_readsOrder 130 = .ok (.ireturn, 1) := by decide +kernel
theorem dX7_readsOrder_131 : decode cX7_readsOrder 131 = .ok (.aload_n 0, 1) := by decide +kernel
theorem dX7_readsOrder_132 : decode cX7_readsOrder 132 = .ok (.dup, 1) := by decide +kernel
theorem dX7_readsOrder_133 : decode cX7_readsOrder 133 = .ok (.getfield 171, 3) := by decide +kernel
theorem dX7_readsOrder_136 : decode cX7_readsOrder 136 = .ok (.iconst 1, 1) := by decide +kernel
theorem dX7_readsOrder_137 : decode cX7_readsOrder 137 = .ok (.isub, 1) := by decide +kernel
theorem dX7_readsOrder_138 : decode cX7_readsOrder 138 = .ok (.putfield 171, 3) := by decide +kernel
theorem dX7_readsOrder_141 : decode cX7_readsOrder 141 = .ok (.iconst 0, 1) := by decide +kernel
theorem dX7_readsOrder_142 : decode cX7_readsOrder 142 = .ok (.ireturn, 1) := by decide +kernel
theorem dX7_findFault_0 : decode cX7_findFault 0 = .ok (.aload_n 0, 1) := by decide +kernel
theorem dX7_findFault_1 : decode cX7_findFault 1 = .ok (.iconst 0, 1) := by decide +kernel
theorem dX7_findFault_2 : decode cX7_findFault 2 = .ok (.putfield 171, 3) := by decide +kernel
theorem dX7_findFault_5 : decode cX7_findFault 5 = .ok (.aload_n 0, 1) := by decide +kernel
theorem dX7_findFault_6 : decode cX7_findFault 6 = .ok (.invokevirtual 202, 3) := by decide +kernel
theorem dX7_findFault_9 : decode cX7_findFault 9 = .ok (.ifCond .ne 8, 3) := by decide +kernel
theorem dX7_findFault_12 : decode cX7_findFault 12 = .ok (.aload_n 0, 1) := by decide +kernel
theorem dX7_findFault_13 : decode cX7_findFault 13 = .ok (.getfield 171, 3) := by decide +kernel
theorem dX7_findFault_16 : decode cX7_findFault 16 = .ok (.ireturn, 1) := by decide +kernel
theorem dX7_findFault_17 : decode cX7_findFault 17 = .ok (.aload_n 0, 1) := by decide +kernel
theorem dX7_findFault_18 : decode cX7_findFault 18 = .ok (.getfield 171, 3) := by decide +kernel
theorem dX7_findFault_21 : decode cX7_findFault 21 = .ok (.aload_n 0, 1) := by decide +kernel
theorem dX7_findFault_22 : decode cX7_findFault 22 = .ok (.getfield 163, 3) := by decide +kernel
theorem dX7_findFault_25 : decode cX7_findFault 25 = .ok (.if_icmp .ne 6, 3) := by decide +kernel
theorem dX7_findFault_28 : decode cX7_findFault 28 = .ok (.bipush (-6), 2) := by decide +kernel
theorem dX7_findFault_30 : decode cX7_findFault 30 = .ok (.ireturn, 1) := by decide +kernel
theorem dX7_findFault_31 : decode cX7_findFault 31 = .ok (.aload_n 0, 1) := by decide +kernel
theorem dX7_findFault_32 : decode cX7_findFault 32 = .ok (.bipush 59, 2) := by decide +kernel
theorem dX7_findFault_34 : decode cX7_findFault 34 = .ok (.invokevirtual 180, 3) := by decide +kernel
theorem dX7_findFault_37 : decode cX7_findFault 37 = .ok (.ifCond .ne (-32), 3) := by decide +kernel
theorem dX7_findFault_40 : decode cX7_findFault 40 = .ok (.aload_n 0, 1) := by decide +kernel
theorem dX7_findFault_41 : decode cX7_findFault 41 = .ok (.getfield 171, 3) := by decide +kernel
theorem dX7_findFault_44 : decode cX7_findFault 44 = .ok (.ireturn, 1) := by decide +kernel
theorem dX7_fault_0 : decode cX7_fault 0 = .ok (.aload_n 0, 1) := by decide +kernel
theorem dX7_fault_1 : decode cX7_fault 1 = .ok (.invokevirtual 205, 3) := by decide +kernel
theorem dX7_fault_4 : decode cX7_fault 4 = .ok (.ireturn, 1) := by decide +kernel
theorem dX7_whyNotDone_0 : decode cX7_whyNotDone 0 = .ok (.aload_n 0, 1) := by decide +kernel
theorem dX7_whyNotDone_1 : decode cX7_whyNotDone 1 = .ok (.getfield 195, 3) := by decide +kernel
theorem dX7_whyNotDone_4 : decode cX7_whyNotDone 4 = .ok (.lookupswitch 107 #[(43, 61), (45, 71), (103, 90), (109, 52), (116, 81)], 52) := by decide +kernel
theorem dX7_whyNotDone_56 : decode cX7_whyNotDone 56 = .ok (.aload_n 0, 1) := by decide +kernel
theorem dX7_whyNotDone_57 : decode cX7_whyNotDone 57 = .ok (.aload_n 0, 1) := by decide +kernel
theorem dX7_whyNotDone_58 : decode cX7_whyNotDone 58 = .ok (.getfield 186, 3) := by decide +kernel
theorem dX7_whyNotDone_61 : decode cX7_whyNotDone 61 = .ok (.invokevirtual 113, 3) := by decide +kernel
theorem dX7_whyNotDone_64 : decode cX7_whyNotDone 64 = .ok (.ireturn, 1) := by decide +kernel
theorem dX7_whyNotDone_65 : decode cX7_whyNotDone 65 = .ok (.aload_n 0, 1) := by decide +kernel
theorem dX7_whyNotDone_66 : decode cX7_whyNotDone 66 = .ok (.aload_n 0, 1) := by decide +kernel
theorem dX7_whyNotDone_67 : decode cX7_whyNotDone 67 = .ok (.getfield 186, 3) := by decide +kernel
theorem dX7_whyNotDone_70 : decode cX7_whyNotDone 70 = .ok (.iconst 0, 1) := by decide +kernel
theorem dX7_whyNotDone_71 : decode cX7_whyNotDone 71 = .ok (.invokevirtual 126, 3) := by decide +kernel
theorem dX7_whyNotDone_74 : decode cX7_whyNotDone 74 = .ok (.ireturn, 1) := by decide +kernel
theorem dX7_whyNotDone_75 : decode cX7_whyNotDone 75 = .ok (.aload_n 0, 1) := by decide +kernel
theorem dX7_whyNotDone_76 : decode cX7_whyNotDone 76 = .ok (.aload_n 0, 1) := by decide +kernel
theorem dX7_whyNotDone_77 : decode cX7_whyNotDone 77 = .ok (.getfield 186, 3) := by decide +kernel
theorem dX7_whyNotDone_80 : decode cX7_whyNotDone 80 = .ok (.iconst 1, 1) := by decide +kernel
theorem dX7_whyNotDone_81 : decode cX7_whyNotDone 81 = .ok (.invokevirtual 126, 3) := by decide +kernel
theorem dX7_whyNotDone_84 : decode cX7_whyNotDone 84 = .ok (.ireturn, 1) := by decide +kernel
theorem dX7_whyNotDone_85 : decode cX7_whyNotDone 85 = .ok (.aload_n 0, 1) := by decide +kernel
theorem dX7_whyNotDone_86 : decode cX7_whyNotDone 86 = .ok (.aload_n 0, 1) := by decide +kernel
theorem dX7_whyNotDone_87 : decode cX7_whyNotDone 87 = .ok (.getfield 186, 3) := by decide +kernel
theorem dX7_whyNotDone_90 : decode cX7_whyNotDone 90 = .ok (.invokevirtual 150, 3) := by decide +kernel
theorem dX7_whyNotDone_93 : decode cX7_whyNotDone 93 = .ok (.ireturn, 1) := by decide +kernel
theorem dX7_whyNotDone_94 : decode cX7_whyNotDone 94 = .ok (.aload_n 0, 1) := by decide +kernel
theorem dX7_whyNotDone_95 : decode cX7_whyNotDone 95 = .ok (.aload_n 0, 1) := by decide +kernel
theorem dX7_whyNotDone_96 : decode cX7_whyNotDone 96 = .ok (.getfield 186, 3) := by decide +kernel
theorem dX7_whyNotDone_99 : decode cX7_whyNotDone 99 = .ok (.aload_n 0, 1) := by decide +kernel
theorem dX7_whyNotDone_100 : decode cX7_whyNotDone 100 = .ok (.getfield 189, 3) := by decide +kernel
theorem dX7_whyNotDone_103 : decode cX7_whyNotDone 103 = .ok (.aload_n 0, 1) := by decide +kernel
theorem dX7_whyNotDone_104 : decode cX7_whyNotDone 104 = .ok (.getfield 192, 3) := by decide +kernel
theorem dX7_whyNotDone_107 : decode cX7_whyNotDone 107 = .ok (.invokevirtual 136, 3) := by decide +kernel
theorem dX7_whyNotDone_110 : decode cX7_whyNotDone 110 = .ok (.ireturn, 1) := by decide +kernel
theorem dX7_whyNotDone_111 : decode cX7_whyNotDone 111 = .ok (.iconst 0, 1) := by decide +kernel
theorem dX7_whyNotDone_112 : decode cX7_whyNotDone 112 = .ok (.ireturn, 1) := by decide +kernel
theorem dX7_does_0 : decode cX7_does 0 = .ok (.aload_n 0, 1) := by decide +kernel
theorem dX7_does_1 : decode cX7_does 1 = .ok (.getfield 195, 3) := by decide +kernel
theorem dX7_does_4 : decode cX7_does 4 = .ok (.lookupswitch 108 #[(43, 64), (45, 64), (103, 88), (109, 52), (116, 76)], 52) := by decide +kernel
theorem dX7_does_56 : decode cX7_does 56 = .ok (.aload_n 0, 1) := by decide +kernel
theorem dX7_does_57 : decode cX7_does 57 = .ok (.aload_n 0, 1) := by decide +kernel
theorem dX7_does_58 : decode cX7_does 58 = .ok (.getfield 186, 3) := by decide +kernel
theorem dX7_does_61 : decode cX7_does 61 = .ok (.invokevirtual 116, 3) := by decide +kernel
theorem dX7_does_64 : decode cX7_does 64 = .ok (.pop, 1) := by decide +kernel
theorem dX7_does_65 : decode cX7_does 65 = .ok (.goto 57, 3) := by decide +kernel
theorem dX7_does_68 : decode cX7_does 68 = .ok (.aload_n 0, 1) := by decide +kernel
theorem dX7_does_69 : decode cX7_does 69 = .ok (.aload_n 0, 1) := by decide +kernel
theorem dX7_does_70 : decode cX7_does 70 = .ok (.getfield 186, 3) := by decide +kernel
theorem dX7_does_73 : decode cX7_does 73 = .ok (.invokevirtual 130, 3) := by decide +kernel
theorem dX7_does_76 : decode cX7_does 76 = .ok (.pop, 1) := by decide +kernel
theorem dX7_does_77 : decode cX7_does 77 = .ok (.goto 45, 3) := by decide +kernel
theorem dX7_does_80 : decode cX7_does 80 = .ok (.aload_n 0, 1) := by decide +kernel
theorem dX7_does_81 : decode cX7_does 81 = .ok (.aload_n 0, 1) := by decide +kernel
theorem dX7_does_82 : decode cX7_does 82 = .ok (.getfield 186, 3) := by decide +kernel
theorem dX7_does_85 : decode cX7_does 85 = .ok (.invokevirtual 153, 3) := by decide +kernel
theorem dX7_does_88 : decode cX7_does 88 = .ok (.pop, 1) := by decide +kernel
theorem dX7_does_89 : decode cX7_does 89 = .ok (.goto 33, 3) := by decide +kernel
theorem dX7_does_92 : decode cX7_does 92 = .ok (.aload_n 0, 1) := by decide +kernel
theorem dX7_does_93 : decode cX7_does 93 = .ok (.aload_n 0, 1) := by decide +kernel
theorem dX7_does_94 : decode cX7_does 94 = .ok (.getfield 186, 3) := by decide +kernel
theorem dX7_does_97 : decode cX7_does 97 = .ok (.aload_n 0, 1) := by decide +kernel
theorem dX7_does_98 : decode cX7_does 98 = .ok (.getfield 189, 3) := by decide +kernel
theorem dX7_does_101 : decode cX7_does 101 = .ok (.aload_n 0, 1) := by decide +kernel
theorem dX7_does_102 : decode cX7_does 102 = .ok (.getfield 192, 3) := by decide +kernel
theorem dX7_does_105 : decode cX7_does 105 = .ok (.invokevirtual 140, 3) := by decide +kernel
theorem dX7_does_108 : decode cX7_does 108 = .ok (.pop, 1) := by decide +kernel
theorem dX7_does_109 : decode cX7_does 109 = .ok (.goto 13, 3) := by decide +kernel
theorem dX7_does_112 : decode cX7_does 112 = .ok (.aload_n 0, 1) := by decide +kernel
theorem dX7_does_113 : decode cX7_does 113 = .ok (.iconst 0, 1) := by decide +kernel
theorem dX7_does_114 : decode cX7_does 114 = .ok (.aload_n 0, 1) := by decide +kernel
theorem dX7_does_115 : decode cX7_does 115 = .ok (.getfield 186, 3) := by decide +kernel
theorem dX7_does_118 : decode cX7_does 118 = .ok (.invokevirtual 110, 3) := by decide +kernel
theorem dX7_does_121 : decode cX7_does 121 = .ok (.pop, 1) := by decide +kernel
theorem dX7_does_122 : decode cX7_does 122 = .ok (.return_, 1) := by decide +kernel
theorem dX7_carryOut_0 : decode cX7_carryOut 0 = .ok (.aload_n 0, 1) := by decide +kernel
theorem dX7_carryOut_1 : decode cX7_carryOut 1 = .ok (.invokevirtual 205, 3) := by decide +kernel
theorem dX7_carryOut_4 : decode cX7_carryOut 4 = .ok (.bipush (-6), 2) := by decide +kernel
theorem dX7_carryOut_6 : decode cX7_carryOut 6 = .ok (.if_icmp .eq 6, 3) := by decide +kernel
theorem dX7_carryOut_9 : decode cX7_carryOut 9 = .ok (.bipush (-3), 2) := by decide +kernel
theorem dX7_carryOut_11 : decode cX7_carryOut 11 = .ok (.ireturn, 1) := by decide +kernel
theorem dX7_carryOut_12 : decode cX7_carryOut 12 = .ok (.aload_n 0, 1) := by decide +kernel
theorem dX7_carryOut_13 : decode cX7_carryOut 13 = .ok (.invokevirtual 107, 3) := by decide +kernel
theorem dX7_carryOut_16 : decode cX7_carryOut 16 = .ok (.iconst 0, 1) := by decide +kernel
theorem dX7_carryOut_17 : decode cX7_carryOut 17 = .ok (.istore_n 1, 1) := by decide +kernel
theorem dX7_carryOut_18 : decode cX7_carryOut 18 = .ok (.aload_n 0, 1) := by decide +kernel
theorem dX7_carryOut_19 : decode cX7_carryOut 19 = .ok (.iconst 0, 1) := by decide +kernel
theorem dX7_carryOut_20 : decode cX7_carryOut 20 = .ok (.putfield 171, 3) := by decide +kernel
theorem dX7_carryOut_23 : decode cX7_carryOut 23 = .ok (.iconst 1, 1) := by decide +kernel
theorem dX7_carryOut_24 : decode cX7_carryOut 24 = .ok (.istore_n 2, 1) := by decide +kernel
theorem dX7_carryOut_25 : decode cX7_carryOut 25 = .ok (.iload_n 2, 1) := by decide +kernel
theorem dX7_carryOut_26 : decode cX7_carryOut 26 = .ok (.ifCond .eq 53, 3) := by decide +kernel
theorem dX7_carryOut_29 : decode cX7_carryOut 29 = .ok (.aload_n 0, 1) := by decide +kernel
theorem dX7_carryOut_30 : decode cX7_carryOut 30 = .ok (.getfield 171, 3) := by decide +kernel
theorem dX7_carryOut_33 : decode cX7_carryOut 33 = .ok (.aload_n 0, 1) := by decide +kernel
theorem dX7_carryOut_34 : decode cX7_carryOut 34 = .ok (.getfield 163, 3) := by decide +kernel
theorem dX7_carryOut_37 : decode cX7_carryOut 37 = .ok (.if_icmp .ge 42, 3) := by decide +kernel
theorem dX7_carryOut_40 : decode cX7_carryOut 40 = .ok (.aload_n 0, 1) := by decide +kernel
theorem dX7_carryOut_41 : decode cX7_carryOut 41 = .ok (.invokevirtual 202, 3) := by decide +kernel
theorem dX7_carryOut_44 : decode cX7_carryOut 44 = .ok (.pop, 1) := by decide +kernel
theorem dX7_carryOut_45 : decode cX7_carryOut 45 = .ok (.aload_n 0, 1) := by decide +kernel
theorem dX7_carryOut_46 : decode cX7_carryOut 46 = .ok (.bipush 59, 2) := by decide +kernel
theorem dX7_carryOut_48 : decode cX7_carryOut 48 = .ok (.invokevirtual 180, 3) := by decide +kernel
theorem dX7_carryOut_51 : decode cX7_carryOut 51 = .ok (.pop, 1) := by decide +kernel
theorem dX7_carryOut_52 : decode cX7_carryOut 52 = .ok (.aload_n 0, 1) := by decide +kernel
theorem dX7_carryOut_53 : decode cX7_carryOut 53 = .ok (.invokevirtual 208, 3) := by decide +kernel
theorem dX7_carryOut_56 : decode cX7_carryOut 56 = .ok (.ifCond .ne 7, 3) := by decide +kernel
theorem dX7_carryOut_59 : decode cX7_carryOut 59 = .ok (.iconst 1, 1) := by decide +kernel
theorem dX7_carryOut_60 : decode cX7_carryOut 60 = .ok (.goto 4, 3) := by decide +kernel
theorem dX7_carryOut_63 : decode cX7_carryOut 63 = .ok (.iconst 0, 1) := by decide +kernel
theorem dX7_carryOut_64 : decode cX7_carryOut 64 = .ok (.istore_n 2, 1) := by decide +kernel
theorem dX7_carryOut_65 : decode cX7_carryOut 65 = .ok (.iload_n 2, 1) := by decide +kernel
theorem dX7_carryOut_66 : decode cX7_carryOut 66 = .ok (.ifCond .eq (-41), 3) := by decide +kernel
theorem dX7_carryOut_69 : decode cX7_carryOut 69 = .ok (.aload_n 0, 1) := by decide +kernel
theorem dX7_carryOut_70 : decode cX7_carryOut 70 = .ok (.invokevirtual 211, 3) := by decide +kernel
theorem dX7_carryOut_73 : decode cX7_carryOut 73 = .ok (.iinc 1 1, 3) := by decide +kernel
theorem dX7_carryOut_76 : decode cX7_carryOut 76 = .ok (.goto (-51), 3) := by decide +kernel
theorem dX7_carryOut_79 : decode cX7_carryOut 79 = .ok (.aload_n 0, 1) := by decide +kernel
theorem dX7_carryOut_80 : decode cX7_carryOut 80 = .ok (.iconst 0, 1) := by decide +kernel
theorem dX7_carryOut_81 : decode cX7_carryOut 81 = .ok (.putfield 163, 3) := by decide +kernel
theorem dX7_carryOut_84 : decode cX7_carryOut 84 = .ok (.iload_n 1, 1) := by decide +kernel
theorem dX7_carryOut_85 : decode cX7_carryOut 85 = .ok (.ireturn, 1) := by decide +kernel
theorem dX7_undo_0 : decode cX7_undo 0 = .ok (.aload_n 0, 1) := by decide +kernel
theorem dX7_undo_1 : decode cX7_undo 1 = .ok (.getfield 31, 3) := by decide +kernel
theorem dX7_undo_4 : decode cX7_undo 4 = .ok (.ifCond .ne 6, 3) := by decide +kernel
theorem dX7_undo_7 : decode cX7_undo 7 = .ok (.bipush (-5), 2) := by decide +kernel
theorem dX7_undo_9 : decode cX7_undo 9 = .ok (.ireturn, 1) := by decide +kernel
theorem dX7_undo_10 : decode cX7_undo 10 = .ok (.aload_n 0, 1) := by decide +kernel
theorem dX7_undo_11 : decode cX7_undo 11 = .ok (.dup, 1) := by decide +kernel
theorem dX7_undo_12 : decode cX7_undo 12 = .ok (.getfield 31, 3) := by decide +kernel
theorem dX7_undo_15 : decode cX7_undo 15 = .ok (.iconst 1, 1) := by decide +kernel
theorem dX7_undo_16 : decode cX7_undo 16 = .ok (.isub, 1) := by decide +kernel
theorem dX7_undo_17 : decode cX7_undo 17 = .ok (.putfield 31, 3) := by decide +kernel
theorem dX7_undo_20 : decode cX7_undo 20 = .ok (.aload_n 0, 1) := by decide +kernel
theorem dX7_undo_21 : decode cX7_undo 21 = .ok (.getfield 13, 3) := by decide +kernel
theorem dX7_undo_24 : decode cX7_undo 24 = .ok (.aload_n 0, 1) := by decide +kernel
theorem dX7_undo_25 : decode cX7_undo 25 = .ok (.getfield 31, 3) := by decide +kernel
theorem dX7_undo_28 : decode cX7_undo 28 = .ok (.sipush 236, 3) := by decide +kernel
theorem dX7_undo_31 : decode cX7_undo 31 = .ok (.imul, 1) := by decide +kernel
theorem dX7_undo_32 : decode cX7_undo 32 = .ok (.aload_n 0, 1) := by decide +kernel
theorem dX7_undo_33 : decode cX7_undo 33 = .ok (.getfield 7, 3) := by decide +kernel
theorem dX7_undo_36 : decode cX7_undo 36 = .ok (.iconst 0, 1) := by decide +kernel
theorem dX7_undo_37 : decode cX7_undo 37 = .ok (.invokestatic 35, 3) := by decide +kernel
theorem dX7_undo_40 : decode cX7_undo 40 = .ok (.aload_n 0, 1) := by decide +kernel
theorem dX7_undo_41 : decode cX7_undo 41 = .ok (.getfield 31, 3) := by decide +kernel
theorem dX7_undo_44 : decode cX7_undo 44 = .ok (.ireturn, 1) := by decide +kernel
theorem dX7_save_0 : decode cX7_save 0 = .ok (.iload_n 1, 1) := by decide +kernel
theorem dX7_save_1 : decode cX7_save 1 = .ok (.iconst 0, 1) := by decide +kernel
theorem dX7_save_2 : decode cX7_save 2 = .ok (.iconst 1, 1) := by decide +kernel
theorem dX7_save_3 : decode cX7_save 3 = .ok (.invokestatic 39, 3) := by decide +kernel
theorem dX7_save_6 : decode cX7_save 6 = .ok (.ifCond .ne 6, 3) := by decide +kernel
theorem dX7_save_9 : decode cX7_save 9 = .ok (.bipush (-2), 2) := by decide +kernel
theorem dX7_save_11 : decode cX7_save 11 = .ok (.ireturn, 1) := by decide +kernel
theorem dX7_save_12 : decode cX7_save 12 = .ok (.aload_n 0, 1) := by decide +kernel
theorem dX7_save_13 : decode cX7_save 13 = .ok (.getfield 7, 3) := by decide +kernel
theorem dX7_save_16 : decode cX7_save 16 = .ok (.iconst 0, 1) := by decide +kernel
theorem dX7_save_17 : decode cX7_save 17 = .ok (.aload_n 0, 1) := by decide +kernel
theorem dX7_save_18 : decode cX7_save 18 = .ok (.getfield 16, 3) := by decide +kernel
theorem dX7_save_21 : decode cX7_save 21 = .ok (.sipush 236, 3) := by decide +kernel
theorem dX7_save_24 : decode cX7_save 24 = .ok (.iload_n 1, 1) := by decide +kernel
theorem dX7_save_25 : decode cX7_save 25 = .ok (.imul, 1) := by decide +kernel
theorem dX7_save_26 : decode cX7_save 26 = .ok (.invokestatic 35, 3) := by decide +kernel
theorem dX7_save_29 : decode cX7_save 29 = .ok (.aload_n 0, 1) := by decide +kernel
theorem dX7_save_30 : decode cX7_save 30 = .ok (.getfield 19, 3) := by decide +kernel
theorem dX7_save_33 : decode cX7_save 33 = .ok (.iload_n 1, 1) := by decide +kernel
theorem dX7_save_34 : decode cX7_save 34 = .ok (.iconst 1, 1) := by decide +kernel
theorem dX7_save_35 : decode cX7_save 35 = .ok (.iastore, 1) := by decide +kernel
theorem dX7_save_36 : decode cX7_save 36 = .ok (.aload_n 0, 1) := by decide +kernel
theorem dX7_save_37 : decode cX7_save 37 = .ok (.getfield 7, 3) := by decide +kernel
theorem dX7_save_40 : decode cX7_save 40 = .ok (.iconst 3, 1) := by decide +kernel
theorem dX7_save_41 : decode cX7_save 41 = .ok (.iaload, 1) := by decide +kernel
theorem dX7_save_42 : decode cX7_save 42 = .ok (.ireturn, 1) := by decide +kernel
theorem dX7_restore_0 : decode cX7_restore 0 = .ok (.iload_n 1, 1) := by decide +kernel
theorem dX7_restore_1 : decode cX7_restore 1 = .ok (.iconst 0, 1) := by decide +kernel
theorem dX7_restore_2 : decode cX7_restore 2 = .ok (.iconst 1, 1) := by decide +kernel
theorem dX7_restore_3 : decode cX7_restore 3 = .ok (.invokestatic 39, 3) := by decide +kernel
theorem dX7_restore_6 : decode cX7_restore 6 = .ok (.ifCond .ne 6, 3) := by decide +kernel
theorem dX7_restore_9 : decode cX7_restore 9 = .ok (.bipush (-2), 2) := by decide +kernel
theorem dX7_restore_11 : decode cX7_restore 11 = .ok (.ireturn, 1) := by decide +kernel
theorem dX7_restore_12 : decode cX7_restore 12 = .ok (.aload_n 0, 1) := by decide +kernel
theorem dX7_restore_13 : decode cX7_restore 13 = .ok (.getfield 19, 3) := by decide +kernel
theorem dX7_restore_16 : decode cX7_restore 16 = .ok (.iload_n 1, 1) := by decide +kernel
theorem dX7_restore_17 : decode cX7_restore 17 = .ok (.iaload, 1) := by decide +kernel
theorem dX7_restore_18 : decode cX7_restore 18 = .ok (.ifCond .ne 6, 3) := by decide +kernel
theorem dX7_restore_21 : decode cX7_restore 21 = .ok (.bipush (-5), 2) := by decide +kernel
theorem dX7_restore_23 : decode cX7_restore 23 = .ok (.ireturn, 1) := by decide +kernel
theorem dX7_restore_24 : decode cX7_restore 24 = .ok (.aload_n 0, 1) := by decide +kernel
theorem dX7_restore_25 : decode cX7_restore 25 = .ok (.invokevirtual 107, 3) := by decide +kernel
theorem dX7_restore_28 : decode cX7_restore 28 = .ok (.aload_n 0, 1) := by decide +kernel
theorem dX7_restore_29 : decode cX7_restore 29 = .ok (.getfield 16, 3) := by decide +kernel
theorem dX7_restore_32 : decode cX7_restore 32 = .ok (.sipush 236, 3) := by decide +kernel
theorem dX7_restore_35 : decode cX7_restore 35 = .ok (.iload_n 1, 1) := by decide +kernel
theorem dX7_restore_36 : decode cX7_restore 36 = .ok (.imul, 1) := by decide +kernel
theorem dX7_restore_37 : decode cX7_restore 37 = .ok (.aload_n 0, 1) := by decide +kernel
theorem dX7_restore_38 : decode cX7_restore 38 = .ok (.getfield 7, 3) := by decide +kernel
theorem dX7_restore_41 : decode cX7_restore 41 = .ok (.iconst 0, 1) := by decide +kernel
theorem dX7_restore_42 : decode cX7_restore 42 = .ok (.invokestatic 35, 3) := by decide +kernel
theorem dX7_restore_45 : decode cX7_restore 45 = .ok (.aload_n 0, 1) := by decide +kernel
theorem dX7_restore_46 : decode cX7_restore 46 = .ok (.getfield 7, 3) := by decide +kernel
theorem dX7_restore_49 : decode cX7_restore 49 = .ok (.iconst 3, 1) := by decide +kernel
theorem dX7_restore_50 : decode cX7_restore 50 = .ok (.iaload, 1) := by decide +kernel
theorem dX7_restore_51 : decode cX7_restore 51 = .ok (.ireturn, 1) := by decide +kernel
