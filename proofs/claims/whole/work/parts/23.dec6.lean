theorem dX0_init_0 : decode cX0_init 0 = .ok (.aload_n 0, 1) := by decide +kernel
theorem dX0_init_1 : decode cX0_init 1 = .ok (.invokespecial 1, 3) := by decide +kernel
theorem dX0_init_4 : decode cX0_init 4 = .ok (.aload_n 0, 1) := by decide +kernel
theorem dX0_init_5 : decode cX0_init 5 = .ok (.aload_n 1, 1) := by decide +kernel
theorem dX0_init_6 : decode cX0_init 6 = .ok (.getfield 7, 3) := by decide +kernel
theorem dX0_init_9 : decode cX0_init 9 = .ok (.aload_n 1, 1) := by decide +kernel
theorem dX0_init_10 : decode cX0_init 10 = .ok (.getfield 13, 3) := by decide +kernel
theorem dX0_init_13 : decode cX0_init 13 = .ok (.invokestatic 17, 3) := by decide +kernel
theorem dX0_init_16 : decode cX0_init 16 = .ok (.putfield 23, 3) := by decide +kernel
theorem dX0_init_19 : decode cX0_init 19 = .ok (.aload_n 0, 1) := by decide +kernel
theorem dX0_init_20 : decode cX0_init 20 = .ok (.aload_n 1, 1) := by decide +kernel
theorem dX0_init_21 : decode cX0_init 21 = .ok (.getfield 26, 3) := by decide +kernel
theorem dX0_init_24 : decode cX0_init 24 = .ok (.putfield 29, 3) := by decide +kernel
theorem dX0_init_27 : decode cX0_init 27 = .ok (.aload_n 0, 1) := by decide +kernel
theorem dX0_init_28 : decode cX0_init 28 = .ok (.iload_n 2, 1) := by decide +kernel
theorem dX0_init_29 : decode cX0_init 29 = .ok (.putfield 30, 3) := by decide +kernel
theorem dX0_init_32 : decode cX0_init 32 = .ok (.return_, 1) := by decide +kernel
theorem dX1_init_0 : decode cX1_init 0 = .ok (.aload_n 0, 1) := by decide +kernel
theorem dX1_init_1 : decode cX1_init 1 = .ok (.invokespecial 3, 3) := by decide +kernel
theorem dX1_init_4 : decode cX1_init 4 = .ok (.return_, 1) := by decide +kernel
theorem dX1_begin_0 : decode cX1_begin 0 = .ok (.aload_n 0, 1) := by decide +kernel
theorem dX1_begin_1 : decode cX1_begin 1 = .ok (.iload_n 1, 1) := by decide +kernel
theorem dX1_begin_2 : decode cX1_begin 2 = .ok (.putfield 9, 3) := by decide +kernel
theorem dX1_begin_5 : decode cX1_begin 5 = .ok (.aload_n 0, 1) := by decide +kernel
theorem dX1_begin_6 : decode cX1_begin 6 = .ok (.iload_n 2, 1) := by decide +kernel
theorem dX1_begin_7 : decode cX1_begin 7 = .ok (.putfield 15, 3) := by decide +kernel
theorem dX1_begin_10 : decode cX1_begin 10 = .ok (.aload_n 0, 1) := by decide +kernel
theorem dX1_begin_11 : decode cX1_begin 11 = .ok (.iload_n 3, 1) := by decide +kernel
theorem dX1_begin_12 : decode cX1_begin 12 = .ok (.putfield 18, 3) := by decide +kernel
theorem dX1_begin_15 : decode cX1_begin 15 = .ok (.aload_n 0, 1) := by decide +kernel
theorem dX1_begin_16 : decode cX1_begin 16 = .ok (.iconst 0, 1) := by decide +kernel
theorem dX1_begin_17 : decode cX1_begin 17 = .ok (.putfield 21, 3) := by decide +kernel
theorem dX1_begin_20 : decode cX1_begin 20 = .ok (.aload_n 0, 1) := by decide +kernel
theorem dX1_begin_21 : decode cX1_begin 21 = .ok (.aconst_null, 1) := by decide +kernel
theorem dX1_begin_22 : decode cX1_begin 22 = .ok (.putfield 24, 3) := by decide +kernel
theorem dX1_begin_25 : decode cX1_begin 25 = .ok (.return_, 1) := by decide +kernel
theorem dX1_copyFrom_0 : decode cX1_copyFrom 0 = .ok (.aload_n 0, 1) := by decide +kernel
theorem dX1_copyFrom_1 : decode cX1_copyFrom 1 = .ok (.aload_n 1, 1) := by decide +kernel
theorem dX1_copyFrom_2 : decode cX1_copyFrom 2 = .ok (.getfield 9, 3) := by decide +kernel
theorem dX1_copyFrom_5 : decode cX1_copyFrom 5 = .ok (.putfield 9, 3) := by decide +kernel
theorem dX1_copyFrom_8 : decode cX1_copyFrom 8 = .ok (.aload_n 0, 1) := by decide +kernel
theorem dX1_copyFrom_9 : decode cX1_copyFrom 9 = .ok (.aload_n 1, 1) := by decide +kernel
theorem dX1_copyFrom_10 : decode cX1_copyFrom 10 = .ok (.getfield 15, 3) := by decide +kernel
theorem dX1_copyFrom_13 : decode cX1_copyFrom 13 = .ok (.putfield 15, 3) := by decide +kernel
theorem dX1_copyFrom_16 : decode cX1_copyFrom 16 = .ok (.aload_n 0, 1) := by decide +kernel
theorem dX1_copyFrom_17 : decode cX1_copyFrom 17 = .ok (.aload_n 1, 1) := by decide +kernel
theorem dX1_copyFrom_18 : decode cX1_copyFrom 18 = .ok (.getfield 18, 3) := by decide +kernel
theorem dX1_copyFrom_21 : decode cX1_copyFrom 21 = .ok (.putfield 18, 3) := by decide +kernel
theorem dX1_copyFrom_24 : decode cX1_copyFrom 24 = .ok (.aload_n 0, 1) := by decide +kernel
theorem dX1_copyFrom_25 : decode cX1_copyFrom 25 = .ok (.aload_n 1, 1) := by decide +kernel
theorem dX1_copyFrom_26 : decode cX1_copyFrom 26 = .ok (.getfield 21, 3) := by decide +kernel
theorem dX1_copyFrom_29 : decode cX1_copyFrom 29 = .ok (.putfield 21, 3) := by decide +kernel
theorem dX1_copyFrom_32 : decode cX1_copyFrom 32 = .ok (.aload_n 0, 1) := by decide +kernel
theorem dX1_copyFrom_33 : decode cX1_copyFrom 33 = .ok (.aload_n 1, 1) := by decide +kernel
theorem dX1_copyFrom_34 : decode cX1_copyFrom 34 = .ok (.getfield 24, 3) := by decide +kernel
theorem dX1_copyFrom_37 : decode cX1_copyFrom 37 = .ok (.putfield 24, 3) := by decide +kernel
theorem dX1_copyFrom_40 : decode cX1_copyFrom 40 = .ok (.return_, 1) := by decide +kernel
theorem dX1_follow_0 : decode cX1_follow 0 = .ok (.iload_n 1, 1) := by decide +kernel
theorem dX1_follow_1 : decode cX1_follow 1 = .ok (.aload_n 0, 1) := by decide +kernel
theorem dX1_follow_2 : decode cX1_follow 2 = .ok (.getfield 9, 3) := by decide +kernel
theorem dX1_follow_5 : decode cX1_follow 5 = .ok (.invokestatic 28, 3) := by decide +kernel
theorem dX1_follow_8 : decode cX1_follow 8 = .ok (.imul, 1) := by decide +kernel
theorem dX1_follow_9 : decode cX1_follow 9 = .ok (.sipush 1000, 3) := by decide +kernel
theorem dX1_follow_12 : decode cX1_follow 12 = .ok (.invokestatic 34, 3) := by decide +kernel
theorem dX1_follow_15 : decode cX1_follow 15 = .ok (.istore_n 2, 1) := by decide +kernel
theorem dX1_follow_16 : decode cX1_follow 16 = .ok (.aload_n 0, 1) := by decide +kernel
theorem dX1_follow_17 : decode cX1_follow 17 = .ok (.getfield 9, 3) := by decide +kernel
theorem dX1_follow_20 : decode cX1_follow 20 = .ok (.ifCond .ge 9, 3) := by decide +kernel
theorem dX1_follow_23 : decode cX1_follow 23 = .ok (.iload_n 1, 1) := by decide +kernel
theorem dX1_follow_24 : decode cX1_follow 24 = .ok (.iload_n 2, 1) := by decide +kernel
theorem dX1_follow_25 : decode cX1_follow 25 = .ok (.isub, 1) := by decide +kernel
theorem dX1_follow_26 : decode cX1_follow 26 = .ok (.goto 6, 3) := by decide +kernel
theorem dX1_follow_29 : decode cX1_follow 29 = .ok (.iload_n 1, 1) := by decide +kernel
theorem dX1_follow_30 : decode cX1_follow 30 = .ok (.iload_n 2, 1) := by decide +kernel
theorem dX1_follow_31 : decode cX1_follow 31 = .ok (.iadd, 1) := by decide +kernel
theorem dX1_follow_32 : decode cX1_follow 32 = .ok (.istore_n 3, 1) := by decide +kernel
theorem dX1_follow_33 : decode cX1_follow 33 = .ok (.aload_n 0, 1) := by decide +kernel
theorem dX1_follow_34 : decode cX1_follow 34 = .ok (.getfield 21, 3) := by decide +kernel
theorem dX1_follow_37 : decode cX1_follow 37 = .ok (.iload_n 3, 1) := by decide +kernel
theorem dX1_follow_38 : decode cX1_follow 38 = .ok (.aload_n 0, 1) := by decide +kernel
theorem dX1_follow_39 : decode cX1_follow 39 = .ok (.getfield 15, 3) := by decide +kernel
theorem dX1_follow_42 : decode cX1_follow 42 = .ok (.isub, 1) := by decide +kernel
theorem dX1_follow_43 : decode cX1_follow 43 = .ok (.if_icmp .ge 16, 3) := by decide +kernel
theorem dX1_follow_46 : decode cX1_follow 46 = .ok (.aload_n 0, 1) := by decide +kernel
theorem dX1_follow_47 : decode cX1_follow 47 = .ok (.iload_n 3, 1) := by decide +kernel
theorem dX1_follow_48 : decode cX1_follow 48 = .ok (.aload_n 0, 1) := by decide +kernel
theorem dX1_follow_49 : decode cX1_follow 49 = .ok (.getfield 15, 3) := by decide +kernel
theorem dX1_follow_52 : decode cX1_follow 52 = .ok (.isub, 1) := by decide +kernel
theorem dX1_follow_53 : decode cX1_follow 53 = .ok (.putfield 21, 3) := by decide +kernel
theorem dX1_follow_56 : decode cX1_follow 56 = .ok (.goto 26, 3) := by decide +kernel
theorem dX1_follow_59 : decode cX1_follow 59 = .ok (.aload_n 0, 1) := by decide +kernel
theorem dX1_follow_60 : decode cX1_follow 60 = .ok (.getfield 21, 3) := by decide +kernel
theorem dX1_follow_63 : decode cX1_follow 63 = .ok (.iload_n 3, 1) := by decide +kernel
theorem dX1_follow_64 : decode cX1_follow 64 = .ok (.aload_n 0, 1) := by decide +kernel
theorem dX1_follow_65 : decode cX1_follow 65 = .ok (.getfield 15, 3) := by decide +kernel
theorem dX1_follow_68 : decode cX1_follow 68 = .ok (.iadd, 1) := by decide +kernel
theorem dX1_follow_69 : decode cX1_follow 69 = .ok (.if_icmp .le 13, 3) := by decide +kernel
theorem dX1_follow_72 : decode cX1_follow 72 = .ok (.aload_n 0, 1) := by decide +kernel
theorem dX1_follow_73 : decode cX1_follow 73 = .ok (.iload_n 3, 1) := by decide +kernel
theorem dX1_follow_74 : decode cX1_follow 74 = .ok (.aload_n 0, 1) := by decide +kernel
theorem dX1_follow_75 : decode cX1_follow 75 = .ok (.getfield 15, 3) := by decide +kernel
theorem dX1_follow_78 : decode cX1_follow 78 = .ok (.iadd, 1) := by decide +kernel
theorem dX1_follow_79 : decode cX1_follow 79 = .ok (.putfield 21, 3) := by decide +kernel
theorem dX1_follow_82 : decode cX1_follow 82 = .ok (.return_, 1) := by decide +kernel
theorem dX1_shown_0 : decode cX1_shown 0 = .ok (.aload_n 0, 1) := by decide +kernel
theorem dX1_shown_1 : decode cX1_shown 1 = .ok (.getfield 21, 3) := by decide +kernel
theorem dX1_shown_4 : decode cX1_shown 4 = .ok (.aload_n 0, 1) := by decide +kernel
theorem dX1_shown_5 : decode cX1_shown 5 = .ok (.getfield 18, 3) := by decide +kernel
theorem dX1_shown_8 : decode cX1_shown 8 = .ok (.invokestatic 38, 3) := by decide +kernel
theorem dX1_shown_11 : decode cX1_shown 11 = .ok (.aload_n 0, 1) := by decide +kernel
theorem dX1_shown_12 : decode cX1_shown 12 = .ok (.getfield 18, 3) := by decide +kernel
theorem dX1_shown_15 : decode cX1_shown 15 = .ok (.imul, 1) := by decide +kernel
theorem dX1_shown_16 : decode cX1_shown 16 = .ok (.ireturn, 1) := by decide +kernel
theorem dX1_tell_0 : decode cX1_tell 0 = .ok (.iload_n 1, 1) := by decide +kernel
theorem dX1_tell_1 : decode cX1_tell 1 = .ok (.tableswitch 128 0 7 #[47, 55, 60, 65, 70, 75, 88, 108], 47) := by decide +kernel
theorem dX1_tell_48 : decode cX1_tell 48 = .ok (.aload_n 0, 1) := by decide +kernel
theorem dX1_tell_49 : decode cX1_tell 49 = .ok (.getfield 9, 3) := by decide +kernel
theorem dX1_tell_52 : decode cX1_tell 52 = .ok (.bipush 100, 2) := by decide +kernel
theorem dX1_tell_54 : decode cX1_tell 54 = .ok (.iadd, 1) := by decide +kernel
theorem dX1_tell_55 : decode cX1_tell 55 = .ok (.ireturn, 1) := by decide +kernel
theorem dX1_tell_56 : decode cX1_tell 56 = .ok (.aload_n 0, 1) := by decide +kernel
theorem dX1_tell_57 : decode cX1_tell 57 = .ok (.getfield 15, 3) := by decide +kernel
theorem dX1_tell_60 : decode cX1_tell 60 = .ok (.ireturn, 1) := by decide +kernel
theorem dX1_tell_61 : decode cX1_tell 61 = .ok (.aload_n 0, 1) := by decide +kernel
theorem dX1_tell_62 : decode cX1_tell 62 = .ok (.getfield 18, 3) := by decide +kernel
theorem dX1_tell_65 : decode cX1_tell 65 = .ok (.ireturn, 1) := by decide +kernel
theorem dX1_tell_66 : decode cX1_tell 66 = .ok (.aload_n 0, 1) := by decide +kernel
theorem dX1_tell_67 : decode cX1_tell 67 = .ok (.getfield 21, 3) := by decide +kernel
theorem dX1_tell_70 : decode cX1_tell 70 = .ok (.ireturn, 1) := by decide +kernel
theorem dX1_tell_71 : decode cX1_tell 71 = .ok (.aload_n 0, 1) := by decide +kernel
theorem dX1_tell_72 : decode cX1_tell 72 = .ok (.invokevirtual 41, 3) := by decide +kernel
theorem dX1_tell_75 : decode cX1_tell 75 = .ok (.ireturn, 1) := by decide +kernel
theorem dX1_tell_76 : decode cX1_tell 76 = .ok (.aload_n 0, 1) := by decide +kernel
theorem dX1_tell_77 : decode cX1_tell 77 = .ok (.getfield 24, 3) := by decide +kernel
theorem dX1_tell_80 : decode cX1_tell 80 = .ok (.ifnonnull 7, 3) := by decide +kernel
theorem dX1_tell_83 : decode cX1_tell 83 = .ok (.iconst 0, 1) := by decide +kernel
theorem dX1_tell_84 : decode cX1_tell 84 = .ok (.goto 4, 3) := by decide +kernel
theorem dX1_tell_87 : decode cX1_tell 87 = .ok (.iconst 1, 1) := by decide +kernel
theorem dX1_tell_88 : decode cX1_tell 88 = .ok (.ireturn, 1) := by decide +kernel
theorem dX1_tell_89 : decode cX1_tell 89 = .ok (.aload_n 0, 1) := by decide +kernel
theorem dX1_tell_90 : decode cX1_tell 90 = .ok (.getfield 24, 3) := by decide +kernel
theorem dX1_tell_93 : decode cX1_tell 93 = .ok (.ifnonnull 8, 3) := by decide +kernel
theorem dX1_tell_96 : decode cX1_tell 96 = .ok (.bipush (-6), 2) := by decide +kernel
theorem dX1_tell_98 : decode cX1_tell 98 = .ok (.goto 10, 3) := by decide +kernel
theorem dX1_tell_101 : decode cX1_tell 101 = .ok (.aload_n 0, 1) := by decide +kernel
theorem dX1_tell_102 : decode cX1_tell 102 = .ok (.getfield 24, 3) := by decide +kernel
theorem dX1_tell_105 : decode cX1_tell 105 = .ok (.getfield 45, 3) := by decide +kernel
theorem dX1_tell_108 : decode cX1_tell 108 = .ok (.ireturn, 1) := by decide +kernel
theorem dX1_tell_109 : decode cX1_tell 109 = .ok (.aload_n 0, 1) := by decide +kernel
theorem dX1_tell_110 : decode cX1_tell 110 = .ok (.getfield 24, 3) := by decide +kernel
theorem dX1_tell_113 : decode cX1_tell 113 = .ok (.ifnonnull 8, 3) := by decide +kernel
theorem dX1_tell_116 : decode cX1_tell 116 = .ok (.bipush (-6), 2) := by decide +kernel
theorem dX1_tell_118 : decode cX1_tell 118 = .ok (.goto 10, 3) := by decide +kernel
theorem dX1_tell_121 : decode cX1_tell 121 = .ok (.aload_n 0, 1) := by decide +kernel
theorem dX1_tell_122 : decode cX1_tell 122 = .ok (.getfield 24, 3) := by decide +kernel
theorem dX1_tell_125 : decode cX1_tell 125 = .ok (.getfield 50, 3) := by decide +kernel
theorem dX1_tell_128 : decode cX1_tell 128 = .ok (.ireturn, 1) := by decide +kernel
theorem dX1_tell_129 : decode cX1_tell 129 = .ok (.bipush (-2), 2) := by decide +kernel
theorem dX1_tell_131 : decode cX1_tell 131 = .ok (.ireturn, 1) := by decide +kernel
theorem dX2_init_0 : decode cX2_init 0 = .ok (.aload_n 0, 1) := by decide +kernel
theorem dX2_init_1 : decode cX2_init 1 = .ok (.invokespecial 3, 3) := by decide +kernel
theorem dX2_init_4 : decode cX2_init 4 = .ok (.aload_n 0, 1) := by decide +kernel
theorem dX2_init_5 : decode cX2_init 5 = .ok (.bipush 7, 2) := by decide +kernel
theorem dX2_init_7 : decode cX2_init 7 = .ok (.anewarray 9, 3) := by decide +kernel
theorem dX2_init_10 : decode cX2_init 10 = .ok (.putfield 11, 3) := by decide +kernel
theorem dX2_init_13 : decode cX2_init 13 = .ok (.iconst 0, 1) := by decide +kernel
theorem dX2_init_14 : decode cX2_init 14 = .ok (.istore_n 1, 1) := by decide +kernel
theorem dX2_init_15 : decode cX2_init 15 = .ok (.iload_n 1, 1) := by decide +kernel
theorem dX2_init_16 : decode cX2_init 16 = .ok (.aload_n 0, 1) := by decide +kernel
theorem dX2_init_17 : decode cX2_init 17 = .ok (.getfield 11, 3) := by decide +kernel
theorem dX2_init_20 : decode cX2_init 20 = .ok (.arraylength, 1) := by decide +kernel
theorem dX2_init_21 : decode cX2_init 21 = .ok (.if_icmp .ge 22, 3) := by decide +kernel
theorem dX2_init_24 : decode cX2_init 24 = .ok (.aload_n 0, 1) := by decide +kernel
theorem dX2_init_25 : decode cX2_init 25 = .ok (.getfield 11, 3) := by decide +kernel
theorem dX2_init_28 : decode cX2_init 28 = .ok (.iload_n 1, 1) := by decide +kernel
theorem dX2_init_29 : decode cX2_init 29 = .ok (.new 9, 3) := by decide +kernel
theorem dX2_init_32 : decode cX2_init 32 = .ok (.dup, 1) := by decide +kernel
theorem dX2_init_33 : decode cX2_init 33 = .ok (.invokespecial 17, 3) := by decide +kernel
theorem dX2_init_36 : decode cX2_init 36 = .ok (.aastore, 1) := by decide +kernel
theorem dX2_init_37 : decode cX2_init 37 = .ok (.iinc 1 1, 3) := by decide +kernel
theorem dX2_init_40 : decode cX2_init 40 = .ok (.goto (-25), 3) := by decide +kernel
theorem dX2_init_43 : decode cX2_init 43 = .ok (.return_, 1) := by decide +kernel
theorem dX2_remember_0 : decode cX2_remember 0 = .ok (.aload_n 0, 1) := by decide +kernel
theorem dX2_remember_1 : decode cX2_remember 1 = .ok (.getfield 11, 3) := by decide +kernel
theorem dX2_remember_4 : decode cX2_remember 4 = .ok (.aload_n 0, 1) := by decide +kernel
theorem dX2_remember_5 : decode cX2_remember 5 = .ok (.getfield 18, 3) := by decide +kernel
theorem dX2_remember_8 : decode cX2_remember 8 = .ok (.aaload, 1) := by decide +kernel
theorem dX2_remember_9 : decode cX2_remember 9 = .ok (.aload_n 1, 1) := by decide +kernel
theorem dX2_remember_10 : decode cX2_remember 10 = .ok (.invokevirtual 22, 3) := by decide +kernel
theorem dX2_remember_13 : decode cX2_remember 13 = .ok (.return_, 1) := by decide +kernel
theorem dX2_settle_0 : decode cX2_settle 0 = .ok (.iload_n 1, 1) := by decide +kernel
theorem dX2_settle_1 : decode cX2_settle 1 = .ok (.ifCond .lt 41, 3) := by decide +kernel
theorem dX2_settle_4 : decode cX2_settle 4 = .ok (.aload_n 0, 1) := by decide +kernel
theorem dX2_settle_5 : decode cX2_settle 5 = .ok (.aload_n 0, 1) := by decide +kernel
theorem dX2_settle_6 : decode cX2_settle 6 = .ok (.getfield 18, 3) := by decide +kernel
theorem dX2_settle_9 : decode cX2_settle 9 = .ok (.bipush 6, 2) := by decide +kernel
theorem dX2_settle_11 : decode cX2_settle 11 = .ok (.if_icmp .ge 12, 3) := by decide +kernel
theorem dX2_settle_14 : decode cX2_settle 14 = .ok (.aload_n 0, 1) := by decide +kernel
theorem dX2_settle_15 : decode cX2_settle 15 = .ok (.getfield 18, 3) := by decide +kernel
theorem dX2_settle_18 : decode cX2_settle 18 = .ok (.iconst 1, 1) := by decide +kernel
theorem dX2_settle_19 : decode cX2_settle 19 = .ok (.iadd, 1) := by decide +kernel
theorem dX2_settle_20 : decode cX2_settle 20 = .ok (.goto 4, 3) := by decide +kernel
theorem dX2_settle_23 : decode cX2_settle 23 = .ok (.iconst 0, 1) := by decide +kernel
theorem dX2_settle_24 : decode cX2_settle 24 = .ok (.putfield 18, 3) := by decide +kernel
theorem dX2_settle_27 : decode cX2_settle 27 = .ok (.aload_n 0, 1) := by decide +kernel
theorem dX2_settle_28 : decode cX2_settle 28 = .ok (.aload_n 0, 1) := by decide +kernel
theorem dX2_settle_29 : decode cX2_settle 29 = .ok (.getfield 26, 3) := by decide +kernel
theorem dX2_settle_32 : decode cX2_settle 32 = .ok (.iconst 1, 1) := by decide +kernel
theorem dX2_settle_33 : decode cX2_settle 33 = .ok (.iadd, 1) := by decide +kernel
theorem dX2_settle_34 : decode cX2_settle 34 = .ok (.bipush 6, 2) := by decide +kernel
theorem dX2_settle_36 : decode cX2_settle 36 = .ok (.invokestatic 29, 3) := by decide +kernel
theorem dX2_settle_39 : decode cX2_settle 39 = .ok (.putfield 26, 3) := by decide +kernel
theorem dX2_settle_42 : decode cX2_settle 42 = .ok (.iload_n 1, 1) := by decide +kernel
theorem dX2_settle_43 : decode cX2_settle 43 = .ok (.ireturn, 1) := by decide +kernel
theorem dX2_stepBack_0 : decode cX2_stepBack 0 = .ok (.aload_n 0, 1) := by decide +kernel
theorem dX2_stepBack_1 : decode cX2_stepBack 1 = .ok (.getfield 26, 3) := by decide +kernel
theorem dX2_stepBack_4 : decode cX2_stepBack 4 = .ok (.iconst 1, 1) := by decide +kernel
theorem dX2_stepBack_5 : decode cX2_stepBack 5 = .ok (.if_icmp .ge 6, 3) := by decide +kernel
theorem dX2_stepBack_8 : decode cX2_stepBack 8 = .ok (.bipush (-5), 2) := by decide +kernel
theorem dX2_stepBack_10 : decode cX2_stepBack 10 = .ok (.ireturn, 1) := by decide +kernel
theorem dX2_stepBack_11 : decode cX2_stepBack 11 = .ok (.aload_n 0, 1) := by decide +kernel
theorem dX2_stepBack_12 : decode cX2_stepBack 12 = .ok (.aload_n 0, 1) := by decide +kernel
theorem dX2_stepBack_13 : decode cX2_stepBack 13 = .ok (.getfield 18, 3) := by decide +kernel
theorem dX2_stepBack_16 : decode cX2_stepBack 16 = .ok (.ifCond .le 12, 3) := by decide +kernel
theorem dX2_stepBack_19 : decode cX2_stepBack 19 = .ok (.aload_n 0, 1) := by decide +kernel
theorem dX2_stepBack_20 : decode cX2_stepBack 20 = .ok (.getfield 18, 3) := by decide +kernel
theorem dX2_stepBack_23 : decode cX2_stepBack 23 = .ok (.iconst 1, 1) := by decide +kernel
theorem dX2_stepBack_24 : decode cX2_stepBack 24 = .ok (.isub, 1) := by decide +kernel
theorem dX2_stepBack_25 : decode cX2_stepBack 25 = .ok (.goto 5, 3) := by decide +kernel
theorem dX2_stepBack_28 : decode cX2_stepBack 28 = .ok (.bipush 6, 2) := by decide +kernel
theorem dX2_stepBack_30 : decode cX2_stepBack 30 = .ok (.putfield 18, 3) := by decide +kernel
theorem dX2_stepBack_33 : decode cX2_stepBack 33 = .ok (.aload_n 0, 1) := by decide +kernel
theorem dX2_stepBack_34 : decode cX2_stepBack 34 = .ok (.dup, 1) := by decide +kernel
theorem dX2_stepBack_35 : decode cX2_stepBack 35 = .ok (.getfield 26, 3) := by decide +kernel
theorem dX2_stepBack_38 : decode cX2_stepBack 38 = .ok (.iconst 1, 1) := by decide +kernel
theorem dX2_stepBack_39 : decode cX2_stepBack 39 = .ok (.isub, 1) := by decide +kernel
theorem dX2_stepBack_40 : decode cX2_stepBack 40 = .ok (.putfield 26, 3) := by decide +kernel
theorem dX2_stepBack_43 : decode cX2_stepBack 43 = .ok (.aload_n 1, 1) := by decide +kernel
theorem dX2_stepBack_44 : decode cX2_stepBack 44 = .ok (.aload_n 0, 1) := by decide +kernel
theorem dX2_stepBack_45 : decode cX2_stepBack 45 = .ok (.getfield 11, 3) := by decide +kernel
theorem dX2_stepBack_48 : decode cX2_stepBack 48 = .ok (.aload_n 0, 1) := by decide +kernel
theorem dX2_stepBack_49 : decode cX2_stepBack 49 = .ok (.getfield 18, 3) := by decide +kernel
theorem dX2_stepBack_52 : decode cX2_stepBack 52 = .ok (.aaload, 1) := by decide +kernel
theorem dX2_stepBack_53 : decode cX2_stepBack 53 = .ok (.invokevirtual 22, 3) := by decide +kernel
theorem dX2_stepBack_56 : decode cX2_stepBack 56 = .ok (.aload_n 0, 1) := by decide +kernel
theorem dX2_stepBack_57 : decode cX2_stepBack 57 = .ok (.getfield 26, 3) := by decide +kernel
theorem dX2_stepBack_60 : decode cX2_stepBack 60 = .ok (.ireturn, 1) := by decide +kernel
theorem dX3_init_0 : decode cX3_init 0 = .ok (.aload_n 0, 1) := by decide +kernel
theorem dX3_init_1 : decode cX3_init 1 = .ok (.invokespecial 3, 3) := by decide +kernel
theorem dX3_init_4 : decode cX3_init 4 = .ok (.aload_n 0, 1) := by decide +kernel
theorem dX3_init_5 : decode cX3_init 5 = .ok (.iconst 3, 1) := by decide +kernel
theorem dX3_init_6 : decode cX3_init 6 = .ok (.newarray .int, 2) := by decide +kernel
theorem dX3_init_8 : decode cX3_init 8 = .ok (.putfield 9, 3) := by decide +kernel
theorem dX3_init_11 : decode cX3_init 11 = .ok (.aload_n 0, 1) := by decide +kernel
theorem dX3_init_12 : decode cX3_init 12 = .ok (.bipush 80, 2) := by decide +kernel
theorem dX3_init_14 : decode cX3_init 14 = .ok (.newarray .char, 2) := by decide +kernel
theorem dX3_init_16 : decode cX3_init 16 = .ok (.putfield 15, 3) := by decide +kernel
theorem dX3_init_19 : decode cX3_init 19 = .ok (.return_, 1) := by decide +kernel
theorem dX3_append_0 : decode cX3_append 0 = .ok (.lload_n 1, 1) := by decide +kernel
theorem dX3_append_1 : decode cX3_append 1 = .ok (.invokestatic 19, 3) := by decide +kernel
theorem dX3_append_4 : decode cX3_append 4 = .ok (.istore_n 3, 1) := by decide +kernel
theorem dX3_append_5 : decode cX3_append 5 = .ok (.iload_n 3, 1) := by decide +kernel
theorem dX3_append_6 : decode cX3_append 6 = .ok (.ifCond .ne 6, 3) := by decide +kernel
theorem dX3_append_9 : decode cX3_append 9 = .ok (.bipush (-2), 2) := by decide +kernel
theorem dX3_append_11 : decode cX3_append 11 = .ok (.ireturn, 1) := by decide +kernel
theorem dX3_append_12 : decode cX3_append 12 = .ok (.aload_n 0, 1) := by decide +kernel
theorem dX3_append_13 : decode cX3_append 13 = .ok (.getfield 23, 3) := by decide +kernel
theorem dX3_append_16 : decode cX3_append 16 = .ok (.iload_n 3, 1) := by decide +kernel
theorem dX3_append_17 : decode cX3_append 17 = .ok (.iadd, 1) := by decide +kernel
theorem dX3_append_18 : decode cX3_append 18 = .ok (.bipush 80, 2) := by decide +kernel
theorem dX3_append_20 : decode cX3_append 20 = .ok (.if_icmp .le 6, 3) := by decide +kernel
theorem dX3_append_23 : decode cX3_append 23 = .ok (.bipush (-4), 2) := by decide +kernel
theorem dX3_append_25 : decode cX3_append 25 = .ok (.ireturn, 1) := by decide +kernel
theorem dX3_append_26 : decode cX3_append 26 = .ok (.iload_n 3, 1) := by decide +kernel
theorem dX3_append_27 : decode cX3_append 27 = .ok (.iconst 1, 1) := by decide +kernel
theorem dX3_append_28 : decode cX3_append 28 = .ok (.isub, 1) := by decide +kernel
theorem dX3_append_29 : decode cX3_append 29 = .ok (.istore 4, 2) := by decide +kernel
theorem dX3_append_31 : decode cX3_append 31 = .ok (.iload 4, 2) := by decide +kernel
theorem dX3_append_33 : decode cX3_append 33 = .ok (.ifCond .lt 41, 3) := by decide +kernel
theorem dX3_append_36 : decode cX3_append 36 = .ok (.aload_n 0, 1) := by decide +kernel
theorem dX3_append_37 : decode cX3_append 37 = .ok (.getfield 15, 3) := by decide +kernel
theorem dX3_append_40 : decode cX3_append 40 = .ok (.aload_n 0, 1) := by decide +kernel
theorem dX3_append_41 : decode cX3_append 41 = .ok (.getfield 23, 3) := by decide +kernel
theorem dX3_append_44 : decode cX3_append 44 = .ok (.lload_n 1, 1) := by decide +kernel
theorem dX3_append_45 : decode cX3_append 45 = .ok (.bipush 8, 2) := by decide +kernel
theorem dX3_append_47 : decode cX3_append 47 = .ok (.iload 4, 2) := by decide +kernel
theorem dX3_append_49 : decode cX3_append 49 = .ok (.imul, 1) := by decide +kernel
theorem dX3_append_50 : decode cX3_append 50 = .ok (.lushr, 1) := by decide +kernel
theorem dX3_append_51 : decode cX3_append 51 = .ok (.ldc2_w 27, 3) := by decide +kernel
theorem dX3_append_54 : decode cX3_append 54 = .ok (.land, 1) := by decide +kernel
theorem dX3_append_55 : decode cX3_append 55 = .ok (.l2i, 1) := by decide +kernel
theorem dX3_append_56 : decode cX3_append 56 = .ok (.i2c, 1) := by decide +kernel
theorem dX3_append_57 : decode cX3_append 57 = .ok (.castore, 1) := by decide +kernel
theorem dX3_append_58 : decode cX3_append 58 = .ok (.aload_n 0, 1) := by decide +kernel
theorem dX3_append_59 : decode cX3_append 59 = .ok (.dup, 1) := by decide +kernel
theorem dX3_append_60 : decode cX3_append 60 = .ok (.getfield 23, 3) := by decide +kernel
theorem dX3_append_63 : decode cX3_append 63 = .ok (.iconst 1, 1) := by decide +kernel
theorem dX3_append_64 : decode cX3_append 64 = .ok (.iadd, 1) := by decide +kernel
theorem dX3_append_65 : decode cX3_append 65 = .ok (.putfield 23, 3) := by decide +kernel
theorem dX3_append_68 : decode cX3_append 68 = .ok (.iinc 4 (-1), 3) := by decide +kernel
theorem dX3_append_71 : decode cX3_append 71 = .ok (.goto (-40), 3) := by decide +kernel
theorem dX3_append_74 : decode cX3_append 74 = .ok (.aload_n 0, 1) := by decide +kernel
theorem dX3_append_75 : decode cX3_append 75 = .ok (.getfield 23, 3) := by decide +kernel
theorem dX3_append_78 : decode cX3_append 78 = .ok (.ireturn, 1) := by decide +kernel
theorem dX3_howMany_0 : decode cX3_howMany 0 = .ok (.iconst 0, 1) := by decide +kernel
theorem dX3_howMany_1 : decode cX3_howMany 1 = .ok (.istore_n 2, 1) := by decide +kernel
theorem dX3_howMany_2 : decode cX3_howMany 2 = .ok (.iload_n 2, 1) := by decide +kernel
theorem dX3_howMany_3 : decode cX3_howMany 3 = .ok (.bipush 8, 2) := by decide +kernel
theorem dX3_howMany_5 : decode cX3_howMany 5 = .ok (.if_icmp .ge 49, 3) := by decide +kernel
theorem dX3_howMany_8 : decode cX3_howMany 8 = .ok (.lload_n 0, 1) := by decide +kernel
theorem dX3_howMany_9 : decode cX3_howMany 9 = .ok (.bipush 8, 2) := by decide +kernel
theorem dX3_howMany_11 : decode cX3_howMany 11 = .ok (.iload_n 2, 1) := by decide +kernel
theorem dX3_howMany_12 : decode cX3_howMany 12 = .ok (.imul, 1) := by decide +kernel
theorem dX3_howMany_13 : decode cX3_howMany 13 = .ok (.lushr, 1) := by decide +kernel
theorem dX3_howMany_14 : decode cX3_howMany 14 = .ok (.lconst 0, 1) := by decide +kernel
theorem dX3_howMany_15 : decode cX3_howMany 15 = .ok (.lcmp, 1) := by decide +kernel
theorem dX3_howMany_16 : decode cX3_howMany 16 = .ok (.ifCond .eq 38, 3) := by decide +kernel
theorem dX3_howMany_19 : decode cX3_howMany 19 = .ok (.lload_n 0, 1) := by decide +kernel
theorem dX3_howMany_20 : decode cX3_howMany 20 = .ok (.bipush 8, 2) := by decide +kernel
theorem dX3_howMany_22 : decode cX3_howMany 22 = .ok (.iload_n 2, 1) := by decide +kernel
theorem dX3_howMany_23 : decode cX3_howMany 23 = .ok (.imul, 1) := by decide +kernel
theorem dX3_howMany_24 : decode cX3_howMany 24 = .ok (.lushr, 1) := by decide +kernel
theorem dX3_howMany_25 : decode cX3_howMany 25 = .ok (.ldc2_w 27, 3) := by decide +kernel
theorem dX3_howMany_28 : decode cX3_howMany 28 = .ok (.land, 1) := by decide +kernel
theorem dX3_howMany_29 : decode cX3_howMany 29 = .ok (.lstore_n 3, 1) := by decide +kernel
theorem dX3_howMany_30 : decode cX3_howMany 30 = .ok (.lload_n 3, 1) := by decide +kernel
theorem dX3_howMany_31 : decode cX3_howMany 31 = .ok (.ldc2_w 29, 3) := by decide +kernel
theorem dX3_howMany_34 : decode cX3_howMany 34 = .ok (.lcmp, 1) := by decide +kernel
theorem dX3_howMany_35 : decode cX3_howMany 35 = .ok (.ifCond .lt 11, 3) := by decide +kernel
theorem dX3_howMany_38 : decode cX3_howMany 38 = .ok (.lload_n 3, 1) := by decide +kernel
theorem dX3_howMany_39 : decode cX3_howMany 39 = .ok (.ldc2_w 31, 3) := by decide +kernel
theorem dX3_howMany_42 : decode cX3_howMany 42 = .ok (.lcmp, 1) := by decide +kernel
theorem dX3_howMany_43 : decode cX3_howMany 43 = .ok (.ifCond .le 5, 3) := by decide +kernel
theorem dX3_howMany_46 : decode cX3_howMany 46 = .ok (.iconst 0, 1) := by decide +kernel
theorem dX3_howMany_47 : decode cX3_howMany 47 = .ok (.ireturn, 1) := by decide +kernel
theorem dX3_howMany_48 : decode cX3_howMany 48 = .ok (.iinc 2 1, 3) := by decide +kernel
theorem dX3_howMany_51 : decode cX3_howMany 51 = .ok (.goto (-49), 3) := by decide +kernel
theorem dX3_howMany_54 : decode cX3_howMany 54 = .ok (.iload_n 2, 1) := by decide +kernel
theorem dX3_howMany_55 : decode cX3_howMany 55 = .ok (.ireturn, 1) := by decide +kernel
theorem dX3_clear_0 : decode cX3_clear 0 = .ok (.aload_n 0, 1) := by decide +kernel
theorem dX3_clear_1 : decode cX3_clear 1 = .ok (.getfield 23, 3) := by decide +kernel
theorem dX3_clear_4 : decode cX3_clear 4 = .ok (.istore_n 1, 1) := by decide +kernel
theorem dX3_clear_5 : decode cX3_clear 5 = .ok (.aload_n 0, 1) := by decide +kernel
theorem dX3_clear_6 : decode cX3_clear 6 = .ok (.iconst 0, 1) := by decide +kernel
theorem dX3_clear_7 : decode cX3_clear 7 = .ok (.putfield 23, 3) := by decide +kernel
theorem dX3_clear_10 : decode cX3_clear 10 = .ok (.iload_n 1, 1) := by decide +kernel
theorem dX3_clear_11 : decode cX3_clear 11 = .ok (.ireturn, 1) := by decide +kernel
theorem dX3_findFault_0 : decode cX3_findFault 0 = .ok (.aload_n 0, 1) := by decide +kernel
theorem dX3_findFault_1 : decode cX3_findFault 1 = .ok (.invokevirtual 33, 3) := by decide +kernel
theorem dX3_findFault_4 : decode cX3_findFault 4 = .ok (.aload_n 0, 1) := by decide +kernel
theorem dX3_findFault_5 : decode cX3_findFault 5 = .ok (.invokevirtual 36, 3) := by decide +kernel
theorem dX3_findFault_8 : decode cX3_findFault 8 = .ok (.istore_n 1, 1) := by decide +kernel
theorem dX3_findFault_9 : decode cX3_findFault 9 = .ok (.iconst 1, 1) := by decide +kernel
theorem dX3_findFault_10 : decode cX3_findFault 10 = .ok (.istore_n 2, 1) := by decide +kernel
theorem dX3_findFault_11 : decode cX3_findFault 11 = .ok (.iload_n 2, 1) := by decide +kernel
theorem dX3_findFault_12 : decode cX3_findFault 12 = .ok (.bipush 80, 2) := by decide +kernel
theorem dX3_findFault_14 : decode cX3_findFault 14 = .ok (.if_icmp .ge 29, 3) := by decide +kernel
theorem dX3_findFault_17 : decode cX3_findFault 17 = .ok (.iload_n 1, 1) := by decide +kernel
theorem dX3_findFault_18 : decode cX3_findFault 18 = .ok (.ifCond .eq 25, 3) := by decide +kernel
theorem dX3_findFault_21 : decode cX3_findFault 21 = .ok (.aload_n 0, 1) := by decide +kernel
theorem dX3_findFault_22 : decode cX3_findFault 22 = .ok (.getfield 40, 3) := by decide +kernel
theorem dX3_findFault_25 : decode cX3_findFault 25 = .ok (.aload_n 0, 1) := by decide +kernel
theorem dX3_findFault_26 : decode cX3_findFault 26 = .ok (.getfield 23, 3) := by decide +kernel
theorem dX3_findFault_29 : decode cX3_findFault 29 = .ok (.if_icmp .ge 14, 3) := by decide +kernel
theorem dX3_findFault_32 : decode cX3_findFault 32 = .ok (.aload_n 0, 1) := by decide +kernel
theorem dX3_findFault_33 : decode cX3_findFault 33 = .ok (.invokevirtual 36, 3) := by decide +kernel
theorem dX3_findFault_36 : decode cX3_findFault 36 = .ok (.istore_n 1, 1) := by decide +kernel
theorem dX3_findFault_37 : decode cX3_findFault 37 = .ok (.iinc 2 1, 3) := by decide +kernel
theorem dX3_findFault_40 : decode cX3_findFault 40 = .ok (.goto (-29), 3) := by decide +kernel
theorem dX3_findFault_43 : decode cX3_findFault 43 = .ok (.iload_n 1, 1) := by decide +kernel
theorem dX3_findFault_44 : decode cX3_findFault 44 = .ok (.ifCond .eq 19, 3) := by decide +kernel
theorem dX3_findFault_47 : decode cX3_findFault 47 = .ok (.aload_n 0, 1) := by decide +kernel
theorem dX3_findFault_48 : decode cX3_findFault 48 = .ok (.getfield 40, 3) := by decide +kernel
theorem dX3_findFault_51 : decode cX3_findFault 51 = .ok (.aload_n 0, 1) := by decide +kernel
theorem dX3_findFault_52 : decode cX3_findFault 52 = .ok (.getfield 23, 3) := by decide +kernel
theorem dX3_findFault_55 : decode cX3_findFault 55 = .ok (.if_icmp .ne 8, 3) := by decide +kernel
theorem dX3_findFault_58 : decode cX3_findFault 58 = .ok (.bipush (-6), 2) := by decide +kernel
theorem dX3_findFault_60 : decode cX3_findFault 60 = .ok (.goto 7, 3) := by decide +kernel
theorem dX3_findFault_63 : decode cX3_findFault 63 = .ok (.aload_n 0, 1) := by decide +kernel
theorem dX3_findFault_64 : decode cX3_findFault 64 = .ok (.getfield 40, 3) := by decide +kernel
theorem dX3_findFault_67 : decode cX3_findFault 67 = .ok (.ireturn, 1) := by decide +kernel
theorem dX3_rewind_0 : decode cX3_rewind 0 = .ok (.aload_n 0, 1) := by decide +kernel
theorem dX3_rewind_1 : decode cX3_rewind 1 = .ok (.iconst 0, 1) := by decide +kernel
theorem dX3_rewind_2 : decode cX3_rewind 2 = .ok (.putfield 40, 3) := by decide +kernel
theorem dX3_rewind_5 : decode cX3_rewind 5 = .ok (.return_, 1) := by decide +kernel
theorem dX3_nextOrder_0 : decode cX3_nextOrder 0 = .ok (.aload_n 0, 1) := by decide +kernel
theorem dX3_nextOrder_1 : decode cX3_nextOrder 1 = .ok (.getfield 40, 3) := by decide +kernel
theorem dX3_nextOrder_4 : decode cX3_nextOrder 4 = .ok (.ifCond .le 14, 3) := by decide +kernel
theorem dX3_nextOrder_7 : decode cX3_nextOrder 7 = .ok (.aload_n 0, 1) := by decide +kernel
theorem dX3_nextOrder_8 : decode cX3_nextOrder 8 = .ok (.bipush 59, 2) := by decide +kernel
theorem dX3_nextOrder_10 : decode cX3_nextOrder 10 = .ok (.invokevirtual 43, 3) := by decide +kernel
theorem dX3_nextOrder_13 : decode cX3_nextOrder 13 = .ok (.ifCond .ne 5, 3) := by decide +kernel
theorem dX3_nextOrder_16 : decode cX3_nextOrder 16 = .ok (.iconst 0, 1) := by decide +kernel
theorem dX3_nextOrder_17 : decode cX3_nextOrder 17 = .ok (.ireturn, 1) := by decide +kernel
theorem dX3_nextOrder_18 : decode cX3_nextOrder 18 = .ok (.aload_n 0, 1) := by decide +kernel
theorem dX3_nextOrder_19 : decode cX3_nextOrder 19 = .ok (.aload_n 0, 1) := by decide +kernel
theorem dX3_nextOrder_20 : decode cX3_nextOrder 20 = .ok (.aload_n 0, 1) := by decide +kernel
theorem dX3_nextOrder_21 : decode cX3_nextOrder 21 = .ok (.getfield 40, 3) := by decide +kernel
theorem dX3_nextOrder_24 : decode cX3_nextOrder 24 = .ok (.invokevirtual 47, 3) := by decide +kernel
theorem dX3_nextOrder_27 : decode cX3_nextOrder 27 = .ok (.putfield 51, 3) := by decide +kernel
theorem dX3_nextOrder_30 : decode cX3_nextOrder 30 = .ok (.aload_n 0, 1) := by decide +kernel
theorem dX3_nextOrder_31 : decode cX3_nextOrder 31 = .ok (.getfield 51, 3) := by decide +kernel
theorem dX3_nextOrder_34 : decode cX3_nextOrder 34 = .ok (.lookupswitch 165 #[(43, 58), (45, 58), (97, 83), (103, 107), (109, 58), (116, 58)], 58) := by decide +kernel
theorem dX3_nextOrder_92 : decode cX3_nextOrder 92 = .ok (.aload_n 0, 1) := by decide +kernel
theorem dX3_nextOrder_93 : decode cX3_nextOrder 93 = .ok (.aload_n 0, 1) := by decide +kernel
theorem dX3_nextOrder_94 : decode cX3_nextOrder 94 = .ok (.getfield 51, 3) := by decide +kernel
theorem dX3_nextOrder_97 : decode cX3_nextOrder 97 = .ok (.invokevirtual 43, 3) := by decide +kernel
theorem dX3_nextOrder_100 : decode cX3_nextOrder 100 = .ok (.ifCond .eq 15, 3) := by decide +kernel
theorem dX3_nextOrder_103 : decode cX3_nextOrder 103 = .ok (.aload_n 0, 1) := by decide +kernel
theorem dX3_nextOrder_104 : decode cX3_nextOrder 104 = .ok (.iconst 0, 1) := by decide +kernel
theorem dX3_nextOrder_105 : decode cX3_nextOrder 105 = .ok (.invokevirtual 54, 3) := by decide +kernel
theorem dX3_nextOrder_108 : decode cX3_nextOrder 108 = .ok (.ifCond .eq 7, 3) := by decide +kernel
theorem dX3_nextOrder_111 : decode cX3_nextOrder 111 = .ok (.iconst 1, 1) := by decide +kernel
theorem dX3_nextOrder_112 : decode cX3_nextOrder 112 = .ok (.goto 4, 3) := by decide +kernel
theorem dX3_nextOrder_115 : decode cX3_nextOrder 115 = .ok (.iconst 0, 1) := by decide +kernel
theorem dX3_nextOrder_116 : decode cX3_nextOrder 116 = .ok (.ireturn, 1) := by decide +kernel
theorem dX3_nextOrder_117 : decode cX3_nextOrder 117 = .ok (.aload_n 0, 1) := by decide +kernel
theorem dX3_nextOrder_118 : decode cX3_nextOrder 118 = .ok (.aload_n 0, 1) := by decide +kernel
theorem dX3_nextOrder_119 : decode cX3_nextOrder 119 = .ok (.getfield 51, 3) := by decide +kernel
theorem dX3_nextOrder_122 : decode cX3_nextOrder 122 = .ok (.invokevirtual 43, 3) := by decide +kernel
theorem dX3_nextOrder_125 : decode cX3_nextOrder 125 = .ok (.ifCond .eq 14, 3) := by decide +kernel
theorem dX3_nextOrder_128 : decode cX3_nextOrder 128 = .ok (.aload_n 0, 1) := by decide +kernel
theorem dX3_nextOrder_129 : decode cX3_nextOrder 129 = .ok (.invokevirtual 57, 3) := by decide +kernel
theorem dX3_nextOrder_132 : decode cX3_nextOrder 132 = .ok (.ifCond .eq 7, 3) := by decide +kernel
theorem dX3_nextOrder_135 : decode cX3_nextOrder 135 = .ok (.iconst 1, 1) := by decide +kernel
theorem dX3_nextOrder_136 : decode cX3_nextOrder 136 = .ok (.goto 4, 3) := by decide +kernel
theorem dX3_nextOrder_139 : decode cX3_nextOrder 139 = .ok (.iconst 0, 1) := by decide +kernel
theorem dX3_nextOrder_140 : decode cX3_nextOrder 140 = .ok (.ireturn, 1) := by decide +kernel
theorem dX3_nextOrder_141 : decode cX3_nextOrder 141 = .ok (.aload_n 0, 1) := by decide +kernel
theorem dX3_nextOrder_142 : decode cX3_nextOrder 142 = .ok (.aload_n 0, 1) := by decide +kernel
theorem dX3_nextOrder_143 : decode cX3_nextOrder 143 = .ok (.getfield 51, 3) := by decide +kernel
theorem dX3_nextOrder_146 : decode cX3_nextOrder 146 = .ok (.invokevirtual 43, 3) := by decide +kernel
theorem dX3_nextOrder_149 : decode cX3_nextOrder 149 = .ok (.ifCond .eq 48, 3) := by decide +kernel
theorem dX3_nextOrder_152 : decode cX3_nextOrder 152 = .ok (.aload_n 0, 1) := by decide +kernel
theorem dX3_nextOrder_153 : decode cX3_nextOrder 153 = .ok (.invokevirtual 60, 3) := by decide +kernel
theorem dX3_nextOrder_156 : decode cX3_nextOrder 156 = .ok (.ifCond .eq 41, 3) := by decide +kernel
theorem dX3_nextOrder_159 : decode cX3_nextOrder 159 = .ok (.aload_n 0, 1) := by decide +kernel
theorem dX3_nextOrder_160 : decode cX3_nextOrder 160 = .ok (.bipush 44, 2) := by decide +kernel
theorem dX3_nextOrder_162 : decode cX3_nextOrder 162 = .ok (.invokevirtual 43, 3) := by decide +kernel
theorem dX3_nextOrder_165 : decode cX3_nextOrder 165 = .ok (.ifCond .eq 32, 3) := by decide +kernel
theorem dX3_nextOrder_168 : decode cX3_nextOrder 168 = .ok (.aload_n 0, 1) := by decide +kernel
theorem dX3_nextOrder_169 : decode cX3_nextOrder 169 = .ok (.iconst 1, 1) := by decide +kernel
theorem dX3_nextOrder_170 : decode cX3_nextOrder 170 = .ok (.invokevirtual 54, 3) := by decide +kernel
theorem dX3_nextOrder_173 : decode cX3_nextOrder 173 = .ok (.ifCond .eq 24, 3) := by decide +kernel
theorem dX3_nextOrder_176 : decode cX3_nextOrder 176 = .ok (.aload_n 0, 1) := by decide +kernel
theorem dX3_nextOrder_177 : decode cX3_nextOrder 177 = .ok (.bipush 44, 2) := by decide +kernel
theorem dX3_nextOrder_179 : decode cX3_nextOrder 179 = .ok (.invokevirtual 43, 3) := by decide +kernel
theorem dX3_nextOrder_182 : decode cX3_nextOrder 182 = .ok (.ifCond .eq 15, 3) := by decide +kernel
theorem dX3_nextOrder_185 : decode cX3_nextOrder 185 = .ok (.aload_n 0, 1) := by decide +kernel
theorem dX3_nextOrder_186 : decode cX3_nextOrder 186 = .ok (.iconst 2, 1) := by decide +kernel
theorem dX3_nextOrder_187 : decode cX3_nextOrder 187 = .ok (.invokevirtual 54, 3) := by decide +kernel
theorem dX3_nextOrder_190 : decode cX3_nextOrder 190 = .ok (.ifCond .eq 7, 3) := by decide +kernel
theorem dX3_nextOrder_193 : decode cX3_nextOrder 193 = .ok (.iconst 1, 1) := by decide +kernel
theorem dX3_nextOrder_194 : decode cX3_nextOrder 194 = .ok (.goto 4, 3) := by decide +kernel
theorem dX3_nextOrder_197 : decode cX3_nextOrder 197 = .ok (.iconst 0, 1) := by decide +kernel
theorem dX3_nextOrder_198 : decode cX3_nextOrder 198 = .ok (.ireturn, 1) := by decide +kernel
theorem dX3_nextOrder_199 : decode cX3_nextOrder 199 = .ok (.iconst 0, 1) := by decide +kernel
theorem dX3_nextOrder_200 : decode cX3_nextOrder 200 = .ok (.ireturn, 1) := by decide +kernel
theorem dX3_readValue_0 : decode cX3_readValue 0 = .ok (.aload_n 0, 1) := by decide +kernel
theorem dX3_readValue_1 : decode cX3_readValue 1 = .ok (.bipush 45, 2) := by decide +kernel
theorem dX3_readValue_3 : decode cX3_readValue 3 = .ok (.invokevirtual 43, 3) := by decide +kernel
theorem dX3_readValue_6 : decode cX3_readValue 6 = .ok (.istore_n 1, 1) := by decide +kernel
theorem dX3_readValue_7 : decode cX3_readValue 7 = .ok (.aload_n 0, 1) := by decide +kernel
theorem dX3_readValue_8 : decode cX3_readValue 8 = .ok (.iconst 0, 1) := by decide +kernel
theorem dX3_readValue_9 : decode cX3_readValue 9 = .ok (.invokevirtual 54, 3) := by decide +kernel
theorem dX3_readValue_12 : decode cX3_readValue 12 = .ok (.ifCond .ne 5, 3) := by decide +kernel
theorem dX3_readValue_15 : decode cX3_readValue 15 = .ok (.iconst 0, 1) := by decide +kernel
theorem dX3_readValue_16 : decode cX3_readValue 16 = .ok (.ireturn, 1) := by decide +kernel
theorem dX3_readValue_17 : decode cX3_readValue 17 = .ok (.iload_n 1, 1) := by decide +kernel
theorem dX3_readValue_18 : decode cX3_readValue 18 = .ok (.ifCond .eq 16, 3) := by decide +kernel
theorem dX3_readValue_21 : decode cX3_readValue 21 = .ok (.aload_n 0, 1) := by decide +kernel
theorem dX3_readValue_22 : decode cX3_readValue 22 = .ok (.getfield 9, 3) := by decide +kernel
theorem dX3_readValue_25 : decode cX3_readValue 25 = .ok (.iconst 0, 1) := by decide +kernel
theorem dX3_readValue_26 : decode cX3_readValue 26 = .ok (.aload_n 0, 1) := by decide +kernel
theorem dX3_readValue_27 : decode cX3_readValue 27 = .ok (.getfield 9, 3) := by decide +kernel
theorem dX3_readValue_30 : decode cX3_readValue 30 = .ok (.iconst 0, 1) := by decide +kernel
theorem dX3_readValue_31 : decode cX3_readValue 31 = .ok (.iaload, 1) := by decide +kernel
theorem dX3_readValue_32 : decode cX3_readValue 32 = .ok (.ineg, 1) := by decide +kernel
theorem dX3_readValue_33 : decode cX3_readValue 33 = .ok (.iastore, 1) := by decide +kernel
theorem dX3_readValue_34 : decode cX3_readValue 34 = .ok (.iconst 1, 1) := by decide +kernel
theorem dX3_readValue_35 : decode cX3_readValue 35 = .ok (.ireturn, 1) := by decide +kernel
theorem dX3_readNumber_0 : decode cX3_readNumber 0 = .ok (.aload_n 0, 1) := by decide +kernel
theorem dX3_readNumber_1 : decode cX3_readNumber 1 = .ok (.aload_n 0, 1) := by decide +kernel
theorem dX3_readNumber_2 : decode cX3_readNumber 2 = .ok (.getfield 40, 3) := by decide +kernel
theorem dX3_readNumber_5 : decode cX3_readNumber 5 = .ok (.invokevirtual 47, 3) := by decide +kernel
theorem dX3_readNumber_8 : decode cX3_readNumber 8 = .ok (.invokestatic 63, 3) := by decide +kernel
theorem dX3_readNumber_11 : decode cX3_readNumber 11 = .ok (.ifCond .ne 5, 3) := by decide +kernel
theorem dX3_readNumber_14 : decode cX3_readNumber 14 = .ok (.iconst 0, 1) := by decide +kernel
theorem dX3_readNumber_15 : decode cX3_readNumber 15 = .ok (.ireturn, 1) := by decide +kernel
theorem dX3_readNumber_16 : decode cX3_readNumber 16 = .ok (.iconst 0, 1) := by decide +kernel
theorem dX3_readNumber_17 : decode cX3_readNumber 17 = .ok (.istore_n 2, 1) := by decide +kernel
theorem dX3_readNumber_18 : decode cX3_readNumber 18 = .ok (.iconst 0, 1) := by decide +kernel
theorem dX3_readNumber_19 : decode cX3_readNumber 19 = .ok (.istore_n 3, 1) := by decide +kernel
theorem dX3_readNumber_20 : decode cX3_readNumber 20 = .ok (.iload_n 3, 1) := by decide +kernel
theorem dX3_readNumber_21 : decode cX3_readNumber 21 = .ok (.iconst 4, 1) := by decide +kernel
theorem dX3_readNumber_22 : decode cX3_readNumber 22 = .ok (.if_icmp .ge 58, 3) := by decide +kernel
theorem dX3_readNumber_25 : decode cX3_readNumber 25 = .ok (.aload_n 0, 1) := by decide +kernel
theorem dX3_readNumber_26 : decode cX3_readNumber 26 = .ok (.aload_n 0, 1) := by decide +kernel
theorem dX3_readNumber_27 : decode cX3_readNumber 27 = .ok (.getfield 40, 3) := by decide +kernel
theorem dX3_readNumber_30 : decode cX3_readNumber 30 = .ok (.invokevirtual 47, 3) := by decide +kernel
theorem dX3_readNumber_33 : decode cX3_readNumber 33 = .ok (.invokestatic 63, 3) := by decide +kernel
theorem dX3_readNumber_36 : decode cX3_readNumber 36 = .ok (.ifCond .eq 44, 3) := by decide +kernel
theorem dX3_readNumber_39 : decode cX3_readNumber 39 = .ok (.iload_n 3, 1) := by decide +kernel
theorem dX3_readNumber_40 : decode cX3_readNumber 40 = .ok (.ifCond .eq 7, 3) := by decide +kernel
theorem dX3_readNumber_43 : decode cX3_readNumber 43 = .ok (.iload_n 2, 1) := by decide +kernel
theorem dX3_readNumber_44 : decode cX3_readNumber 44 = .ok (.ifCond .le 36, 3) := by decide +kernel
theorem dX3_readNumber_47 : decode cX3_readNumber 47 = .ok (.iload_n 2, 1) := by decide +kernel
theorem dX3_readNumber_48 : decode cX3_readNumber 48 = .ok (.bipush 10, 2) := by decide +kernel
theorem dX3_readNumber_50 : decode cX3_readNumber 50 = .ok (.imul, 1) := by decide +kernel
theorem dX3_readNumber_51 : decode cX3_readNumber 51 = .ok (.aload_n 0, 1) := by decide +kernel
theorem dX3_readNumber_52 : decode cX3_readNumber 52 = .ok (.aload_n 0, 1) := by decide +kernel
theorem dX3_readNumber_53 : decode cX3_readNumber 53 = .ok (.getfield 40, 3) := by decide +kernel
theorem dX3_readNumber_56 : decode cX3_readNumber 56 = .ok (.invokevirtual 47, 3) := by decide +kernel
theorem dX3_readNumber_59 : decode cX3_readNumber 59 = .ok (.iadd, 1) := by decide +kernel
theorem dX3_readNumber_60 : decode cX3_readNumber 60 = .ok (.bipush 48, 2) := by decide +kernel
theorem dX3_readNumber_62 : decode cX3_readNumber 62 = .ok (.isub, 1) := by decide +kernel
theorem dX3_readNumber_63 : decode cX3_readNumber 63 = .ok (.istore_n 2, 1) := by decide +kernel
theorem dX3_readNumber_64 : decode cX3_readNumber 64 = .ok (.aload_n 0, 1) := by decide +kernel
theorem dX3_readNumber_65 : decode cX3_readNumber 65 = .ok (.dup, 1) := by decide +kernel
theorem dX3_readNumber_66 : decode cX3_readNumber 66 = .ok (.getfield 40, 3) := by decide +kernel
theorem dX3_readNumber_69 : decode cX3_readNumber 69 = .ok (.iconst 1, 1) := by decide +kernel
theorem dX3_readNumber_70 : decode cX3_readNumber 70 = .ok (.iadd, 1) := by decide +kernel
theorem dX3_readNumber_71 : decode cX3_readNumber 71 = .ok (.putfield 40, 3) := by decide +kernel
theorem dX3_readNumber_74 : decode cX3_readNumber 74 = .ok (.iinc 3 1, 3) := by decide +kernel
theorem dX3_readNumber_77 : decode cX3_readNumber 77 = .ok (.goto (-57), 3) := by decide +kernel
theorem dX3_readNumber_80 : decode cX3_readNumber 80 = .ok (.aload_n 0, 1) := by decide +kernel
theorem dX3_readNumber_81 : decode cX3_readNumber 81 = .ok (.getfield 9, 3) := by decide +kernel
theorem dX3_readNumber_84 : decode cX3_readNumber 84 = .ok (.iload_n 1, 1) := by decide +kernel
theorem dX3_readNumber_85 : decode cX3_readNumber 85 = .ok (.iload_n 2, 1) := by decide +kernel
theorem dX3_readNumber_86 : decode cX3_readNumber 86 = .ok (.iastore, 1) := by decide +kernel
theorem dX3_readNumber_87 : decode cX3_readNumber 87 = .ok (.iconst 1, 1) := by decide +kernel
theorem dX3_readNumber_88 : decode cX3_readNumber 88 = .ok (.ireturn, 1) := by decide +kernel
theorem dX3_readDigit_0 : decode cX3_readDigit 0 = .ok (.aload_n 0, 1) := by decide +kernel
theorem dX3_readDigit_1 : decode cX3_readDigit 1 = .ok (.aload_n 0, 1) := by decide +kernel
theorem dX3_readDigit_2 : decode cX3_readDigit 2 = .ok (.getfield 40, 3) := by decide +kernel
theorem dX3_readDigit_5 : decode cX3_readDigit 5 = .ok (.invokevirtual 47, 3) := by decide +kernel
theorem dX3_readDigit_8 : decode cX3_readDigit 8 = .ok (.istore_n 1, 1) := by decide +kernel
theorem dX3_readDigit_9 : decode cX3_readDigit 9 = .ok (.iload_n 1, 1) := by decide +kernel
theorem dX3_readDigit_10 : decode cX3_readDigit 10 = .ok (.invokestatic 63, 3) := by decide +kernel
theorem dX3_readDigit_13 : decode cX3_readDigit 13 = .ok (.ifCond .ne 5, 3) := by decide +kernel
theorem dX3_readDigit_16 : decode cX3_readDigit 16 = .ok (.iconst 0, 1) := by decide +kernel
theorem dX3_readDigit_17 : decode cX3_readDigit 17 = .ok (.ireturn, 1) := by decide +kernel
theorem dX3_readDigit_18 : decode cX3_readDigit 18 = .ok (.aload_n 0, 1) := by decide +kernel
theorem dX3_readDigit_19 : decode cX3_readDigit 19 = .ok (.getfield 9, 3) := by decide +kernel
theorem dX3_readDigit_22 : decode cX3_readDigit 22 = .ok (.iconst 0, 1) := by decide +kernel
theorem dX3_readDigit_23 : decode cX3_readDigit 23 = .ok (.iload_n 1, 1) := by decide +kernel
theorem dX3_readDigit_24 : decode cX3_readDigit 24 = .ok (.bipush 48, 2) := by decide +kernel
theorem dX3_readDigit_26 : decode cX3_readDigit 26 = .ok (.isub, 1) := by decide +kernel
theorem dX3_readDigit_27 : decode cX3_readDigit 27 = .ok (.iastore, 1) := by decide +kernel
theorem dX3_readDigit_28 : decode cX3_readDigit 28 = .ok (.aload_n 0, 1) := by decide +kernel
theorem dX3_readDigit_29 : decode cX3_readDigit 29 = .ok (.dup, 1) := by decide +kernel
theorem dX3_readDigit_30 : decode cX3_readDigit 30 = .ok (.getfield 40, 3) := by decide +kernel
theorem dX3_readDigit_33 : decode cX3_readDigit 33 = .ok (.iconst 1, 1) := by decide +kernel
theorem dX3_readDigit_34 : decode cX3_readDigit 34 = .ok (.iadd, 1) := by decide +kernel
theorem dX3_readDigit_35 : decode cX3_readDigit 35 = .ok (.putfield 40, 3) := by decide +kernel
theorem dX3_readDigit_38 : decode cX3_readDigit 38 = .ok (.iconst 1, 1) := by decide +kernel
theorem dX3_readDigit_39 : decode cX3_readDigit 39 = .ok (.ireturn, 1) := by decide +kernel
theorem dX3_pass_0 : decode cX3_pass 0 = .ok (.aload_n 0, 1) := by decide +kernel
theorem dX3_pass_1 : decode cX3_pass 1 = .ok (.aload_n 0, 1) := by decide +kernel
theorem dX3_pass_2 : decode cX3_pass 2 = .ok (.getfield 40, 3) := by decide +kernel
theorem dX3_pass_5 : decode cX3_pass 5 = .ok (.invokevirtual 47, 3) := by decide +kernel
theorem dX3_pass_8 : decode cX3_pass 8 = .ok (.iload_n 1, 1) := by decide +kernel
theorem dX3_pass_9 : decode cX3_pass 9 = .ok (.if_icmp .eq 5, 3) := by decide +kernel
theorem dX3_pass_12 : decode cX3_pass 12 = .ok (.iconst 0, 1) := by decide +kernel
theorem dX3_pass_13 : decode cX3_pass 13 = .ok (.ireturn, 1) := by decide +kernel
theorem dX3_pass_14 : decode cX3_pass 14 = .ok (.aload_n 0, 1) := by decide +kernel
theorem dX3_pass_15 : decode cX3_pass 15 = .ok (.dup, 1) := by decide +kernel
theorem dX3_pass_16 : decode cX3_pass 16 = .ok (.getfield 40, 3) := by decide +kernel
theorem dX3_pass_19 : decode cX3_pass 19 = .ok (.iconst 1, 1) := by decide +kernel
theorem dX3_pass_20 : decode cX3_pass 20 = .ok (.iadd, 1) := by decide +kernel
theorem dX3_pass_21 : decode cX3_pass 21 = .ok (.putfield 40, 3) := by decide +kernel
theorem dX3_pass_24 : decode cX3_pass 24 = .ok (.iconst 1, 1) := by decide +kernel
theorem dX3_pass_25 : decode cX3_pass 25 = .ok (.ireturn, 1) := by decide +kernel
theorem dX3_signAt_0 : decode cX3_signAt 0 = .ok (.iload_n 1, 1) := by decide +kernel
theorem dX3_signAt_1 : decode cX3_signAt 1 = .ok (.ifCond .lt 11, 3) := by decide +kernel
theorem dX3_signAt_4 : decode cX3_signAt 4 = .ok (.iload_n 1, 1) := by decide +kernel
theorem dX3_signAt_5 : decode cX3_signAt 5 = .ok (.aload_n 0, 1) := by decide +kernel
theorem dX3_signAt_6 : decode cX3_signAt 6 = .ok (.getfield 23, 3) := by decide +kernel
theorem dX3_signAt_9 : decode cX3_signAt 9 = .ok (.if_icmp .lt 7, 3) := by decide +kernel
theorem dX3_signAt_12 : decode cX3_signAt 12 = .ok (.iconst 0, 1) := by decide +kernel
theorem dX3_signAt_13 : decode cX3_signAt 13 = .ok (.goto 9, 3) := by decide +kernel
theorem dX3_signAt_16 : decode cX3_signAt 16 = .ok (.aload_n 0, 1) := by decide +kernel
theorem dX3_signAt_17 : decode cX3_signAt 17 = .ok (.getfield 15, 3) := by decide +kernel
theorem dX3_signAt_20 : decode cX3_signAt 20 = .ok (.iload_n 1, 1) := by decide +kernel
theorem dX3_signAt_21 : decode cX3_signAt 21 = .ok (.caload, 1) := by decide +kernel
theorem dX3_signAt_22 : decode cX3_signAt 22 = .ok (.ireturn, 1) := by decide +kernel
theorem dX3_isDigit_0 : decode cX3_isDigit 0 = .ok (.iload_n 0, 1) := by decide +kernel
theorem dX3_isDigit_1 : decode cX3_isDigit 1 = .ok (.bipush 48, 2) := by decide +kernel
theorem dX3_isDigit_3 : decode cX3_isDigit 3 = .ok (.if_icmp .lt 13, 3) := by decide +kernel
theorem dX3_isDigit_6 : decode cX3_isDigit 6 = .ok (.iload_n 0, 1) := by decide +kernel
theorem dX3_isDigit_7 : decode cX3_isDigit 7 = .ok (.bipush 57, 2) := by decide +kernel
theorem dX3_isDigit_9 : decode cX3_isDigit 9 = .ok (.if_icmp .gt 7, 3) := by decide +kernel
theorem dX3_isDigit_12 : decode cX3_isDigit 12 = .ok (.iconst 1, 1) := by decide +kernel
theorem dX3_isDigit_13 : decode cX3_isDigit 13 = .ok (.goto 4, 3) := by decide +kernel
theorem dX3_isDigit_16 : decode cX3_isDigit 16 = .ok (.iconst 0, 1) := by decide +kernel
theorem dX3_isDigit_17 : decode cX3_isDigit 17 = .ok (.ireturn, 1) := by decide +kernel
theorem dX4_init_0 : decode cX4_init 0 = .ok (.aload_n 0, 1) := by decide +kernel
theorem dX4_init_1 : decode cX4_init 1 = .ok (.invokespecial 3, 3) := by decide +kernel
theorem dX4_init_4 : decode cX4_init 4 = .ok (.aload_n 0, 1) := by decide +kernel
theorem dX4_init_5 : decode cX4_init 5 = .ok (.getstatic 9, 3) := by decide +kernel
theorem dX4_init_8 : decode cX4_init 8 = .ok (.invokevirtual 13, 3) := by decide +kernel
theorem dX4_init_11 : decode cX4_init 11 = .ok (.checkcast 14, 3) := by decide +kernel
theorem dX4_init_14 : decode cX4_init 14 = .ok (.putfield 18, 3) := by decide +kernel
theorem dX4_init_17 : decode cX4_init 17 = .ok (.aload_n 0, 1) := by decide +kernel
theorem dX4_init_18 : decode cX4_init 18 = .ok (.bipush 14, 2) := by decide +kernel
theorem dX4_init_20 : decode cX4_init 20 = .ok (.newarray .int, 2) := by decide +kernel
theorem dX4_init_22 : decode cX4_init 22 = .ok (.putfield 23, 3) := by decide +kernel
theorem dX4_init_25 : decode cX4_init 25 = .ok (.aload_n 0, 1) := by decide +kernel
theorem dX4_init_26 : decode cX4_init 26 = .ok (.bipush 6, 2) := by decide +kernel
theorem dX4_init_28 : decode cX4_init 28 = .ok (.anewarray 26, 3) := by decide +kernel
theorem dX4_init_31 : decode cX4_init 31 = .ok (.putfield 28, 3) := by decide +kernel
theorem dX4_init_34 : decode cX4_init 34 = .ok (.iconst 0, 1) := by decide +kernel
theorem dX4_init_35 : decode cX4_init 35 = .ok (.istore_n 1, 1) := by decide +kernel
theorem dX4_init_36 : decode cX4_init 36 = .ok (.iload_n 1, 1) := by decide +kernel
theorem dX4_init_37 : decode cX4_init 37 = .ok (.bipush 6, 2) := by decide +kernel
theorem dX4_init_39 : decode cX4_init 39 = .ok (.if_icmp .ge 22, 3) := by decide +kernel
theorem dX4_init_42 : decode cX4_init 42 = .ok (.aload_n 0, 1) := by decide +kernel
theorem dX4_init_43 : decode cX4_init 43 = .ok (.getfield 28, 3) := by decide +kernel
theorem dX4_init_46 : decode cX4_init 46 = .ok (.iload_n 1, 1) := by decide +kernel
theorem dX4_init_47 : decode cX4_init 47 = .ok (.new 26, 3) := by decide +kernel
theorem dX4_init_50 : decode cX4_init 50 = .ok (.dup, 1) := by decide +kernel
theorem dX4_init_51 : decode cX4_init 51 = .ok (.invokespecial 32, 3) := by decide +kernel
theorem dX4_init_54 : decode cX4_init 54 = .ok (.aastore, 1) := by decide +kernel
theorem dX4_init_55 : decode cX4_init 55 = .ok (.iinc 1 1, 3) := by decide +kernel
theorem dX4_init_58 : decode cX4_init 58 = .ok (.goto (-22), 3) := by decide +kernel
theorem dX4_init_61 : decode cX4_init 61 = .ok (.return_, 1) := by decide +kernel
theorem dX4_copyFrom_0 : decode cX4_copyFrom 0 = .ok (.aload_n 1, 1) := by decide +kernel
theorem dX4_copyFrom_1 : decode cX4_copyFrom 1 = .ok (.getfield 18, 3) := by decide +kernel
theorem dX4_copyFrom_4 : decode cX4_copyFrom 4 = .ok (.iconst 0, 1) := by decide +kernel
theorem dX4_copyFrom_5 : decode cX4_copyFrom 5 = .ok (.aload_n 0, 1) := by decide +kernel
theorem dX4_copyFrom_6 : decode cX4_copyFrom 6 = .ok (.getfield 18, 3) := by decide +kernel
theorem dX4_copyFrom_9 : decode cX4_copyFrom 9 = .ok (.iconst 0, 1) := by decide +kernel
theorem dX4_copyFrom_10 : decode cX4_copyFrom 10 = .ok (.aload_n 0, 1) := by decide +kernel
theorem dX4_copyFrom_11 : decode cX4_copyFrom 11 = .ok (.getfield 18, 3) := by decide +kernel
theorem dX4_copyFrom_14 : decode cX4_copyFrom 14 = .ok (.arraylength, 1) := by decide +kernel
theorem dX4_copyFrom_15 : decode cX4_copyFrom 15 = .ok (.invokestatic 33, 3) := by decide +kernel
theorem dX4_copyFrom_18 : decode cX4_copyFrom 18 = .ok (.aload_n 1, 1) := by decide +kernel
theorem dX4_copyFrom_19 : decode cX4_copyFrom 19 = .ok (.getfield 23, 3) := by decide +kernel
theorem dX4_copyFrom_22 : decode cX4_copyFrom 22 = .ok (.iconst 0, 1) := by decide +kernel
theorem dX4_copyFrom_23 : decode cX4_copyFrom 23 = .ok (.aload_n 0, 1) := by decide +kernel
theorem dX4_copyFrom_24 : decode cX4_copyFrom 24 = .ok (.getfield 23, 3) := by decide +kernel
theorem dX4_copyFrom_27 : decode cX4_copyFrom 27 = .ok (.iconst 0, 1) := by decide +kernel
theorem dX4_copyFrom_28 : decode cX4_copyFrom 28 = .ok (.bipush 14, 2) := by decide +kernel
theorem dX4_copyFrom_30 : decode cX4_copyFrom 30 = .ok (.invokestatic 33, 3) := by decide +kernel
theorem dX4_copyFrom_33 : decode cX4_copyFrom 33 = .ok (.iconst 0, 1) := by decide +kernel
theorem dX4_copyFrom_34 : decode cX4_copyFrom 34 = .ok (.istore_n 2, 1) := by decide +kernel
theorem dX4_copyFrom_35 : decode cX4_copyFrom 35 = .ok (.iload_n 2, 1) := by decide +kernel
theorem dX4_copyFrom_36 : decode cX4_copyFrom 36 = .ok (.bipush 6, 2) := by decide +kernel
theorem dX4_copyFrom_38 : decode cX4_copyFrom 38 = .ok (.if_icmp .ge 24, 3) := by decide +kernel
theorem dX4_copyFrom_41 : decode cX4_copyFrom 41 = .ok (.aload_n 0, 1) := by decide +kernel
theorem dX4_copyFrom_42 : decode cX4_copyFrom 42 = .ok (.getfield 28, 3) := by decide +kernel
theorem dX4_copyFrom_45 : decode cX4_copyFrom 45 = .ok (.iload_n 2, 1) := by decide +kernel
theorem dX4_copyFrom_46 : decode cX4_copyFrom 46 = .ok (.aaload, 1) := by decide +kernel
theorem dX4_copyFrom_47 : decode cX4_copyFrom 47 = .ok (.aload_n 1, 1) := by decide +kernel
theorem dX4_copyFrom_48 : decode cX4_copyFrom 48 = .ok (.getfield 28, 3) := by decide +kernel
theorem dX4_copyFrom_51 : decode cX4_copyFrom 51 = .ok (.iload_n 2, 1) := by decide +kernel
theorem dX4_copyFrom_52 : decode cX4_copyFrom 52 = .ok (.aaload, 1) := by decide +kernel
theorem dX4_copyFrom_53 : decode cX4_copyFrom 53 = .ok (.invokevirtual 39, 3) := by decide +kernel
theorem dX4_copyFrom_56 : decode cX4_copyFrom 56 = .ok (.iinc 2 1, 3) := by decide +kernel
theorem dX4_copyFrom_59 : decode cX4_copyFrom 59 = .ok (.goto (-24), 3) := by decide +kernel
theorem dX4_copyFrom_62 : decode cX4_copyFrom 62 = .ok (.aload_n 0, 1) := by decide +kernel
theorem dX4_copyFrom_63 : decode cX4_copyFrom 63 = .ok (.aload_n 1, 1) := by decide +kernel
theorem dX4_copyFrom_64 : decode cX4_copyFrom 64 = .ok (.getfield 43, 3) := by decide +kernel
theorem dX4_copyFrom_67 : decode cX4_copyFrom 67 = .ok (.putfield 43, 3) := by decide +kernel
theorem dX4_copyFrom_70 : decode cX4_copyFrom 70 = .ok (.aload_n 0, 1) := by decide +kernel
theorem dX4_copyFrom_71 : decode cX4_copyFrom 71 = .ok (.aload_n 1, 1) := by decide +kernel
theorem dX4_copyFrom_72 : decode cX4_copyFrom 72 = .ok (.getfield 47, 3) := by decide +kernel
theorem dX4_copyFrom_75 : decode cX4_copyFrom 75 = .ok (.putfield 47, 3) := by decide +kernel
theorem dX4_copyFrom_78 : decode cX4_copyFrom 78 = .ok (.aload_n 0, 1) := by decide +kernel
theorem dX4_copyFrom_79 : decode cX4_copyFrom 79 = .ok (.aload_n 1, 1) := by decide +kernel
theorem dX4_copyFrom_80 : decode cX4_copyFrom 80 = .ok (.getfield 50, 3) := by decide +kernel
theorem dX4_copyFrom_83 : decode cX4_copyFrom 83 = .ok (.putfield 50, 3) := by decide +kernel
theorem dX4_copyFrom_86 : decode cX4_copyFrom 86 = .ok (.return_, 1) := by decide +kernel
theorem dX4_change_0 : decode cX4_change 0 = .ok (.iload_n 1, 1) := by decide +kernel
theorem dX4_change_1 : decode cX4_change 1 = .ok (.ifCond .lt 30, 3) := by decide +kernel
theorem dX4_change_4 : decode cX4_change 4 = .ok (.iload_n 1, 1) := by decide +kernel
theorem dX4_change_5 : decode cX4_change 5 = .ok (.aload_n 0, 1) := by decide +kernel
theorem dX4_change_6 : decode cX4_change 6 = .ok (.getfield 18, 3) := by decide +kernel
theorem dX4_change_9 : decode cX4_change 9 = .ok (.arraylength, 1) := by decide +kernel
theorem dX4_change_10 : decode cX4_change 10 = .ok (.if_icmp .ge 21, 3) := by decide +kernel
theorem dX4_change_13 : decode cX4_change 13 = .ok (.iload_n 2, 1) := by decide +kernel
theorem dX4_change_14 : decode cX4_change 14 = .ok (.getstatic 53, 3) := by decide +kernel
theorem dX4_change_17 : decode cX4_change 17 = .ok (.iload_n 1, 1) := by decide +kernel
theorem dX4_change_18 : decode cX4_change 18 = .ok (.iaload, 1) := by decide +kernel
theorem dX4_change_19 : decode cX4_change 19 = .ok (.if_icmp .lt 12, 3) := by decide +kernel
theorem dX4_change_22 : decode cX4_change 22 = .ok (.iload_n 2, 1) := by decide +kernel
theorem dX4_change_23 : decode cX4_change 23 = .ok (.getstatic 56, 3) := by decide +kernel
theorem dX4_change_26 : decode cX4_change 26 = .ok (.iload_n 1, 1) := by decide +kernel
theorem dX4_change_27 : decode cX4_change 27 = .ok (.iaload, 1) := by decide +kernel
theorem dX4_change_28 : decode cX4_change 28 = .ok (.if_icmp .le 6, 3) := by decide +kernel
theorem dX4_change_31 : decode cX4_change 31 = .ok (.bipush (-2), 2) := by decide +kernel
theorem dX4_change_33 : decode cX4_change 33 = .ok (.ireturn, 1) := by decide +kernel
theorem dX4_change_34 : decode cX4_change 34 = .ok (.aload_n 0, 1) := by decide +kernel
theorem dX4_change_35 : decode cX4_change 35 = .ok (.getfield 18, 3) := by decide +kernel
theorem dX4_change_38 : decode cX4_change 38 = .ok (.iload_n 1, 1) := by decide +kernel
theorem dX4_change_39 : decode cX4_change 39 = .ok (.iaload, 1) := by decide +kernel
theorem dX4_change_40 : decode cX4_change 40 = .ok (.istore_n 3, 1) := by decide +kernel
theorem dX4_change_41 : decode cX4_change 41 = .ok (.aload_n 0, 1) := by decide +kernel
theorem dX4_change_42 : decode cX4_change 42 = .ok (.getfield 18, 3) := by decide +kernel
theorem dX4_change_45 : decode cX4_change 45 = .ok (.iload_n 1, 1) := by decide +kernel
theorem dX4_change_46 : decode cX4_change 46 = .ok (.iload_n 2, 1) := by decide +kernel
theorem dX4_change_47 : decode cX4_change 47 = .ok (.iastore, 1) := by decide +kernel
theorem dX4_change_48 : decode cX4_change 48 = .ok (.iload_n 1, 1) := by decide +kernel
theorem dX4_change_49 : decode cX4_change 49 = .ok (.iconst 1, 1) := by decide +kernel
theorem dX4_change_50 : decode cX4_change 50 = .ok (.if_icmp .ne 7, 3) := by decide +kernel
theorem dX4_change_53 : decode cX4_change 53 = .ok (.aload_n 0, 1) := by decide +kernel
theorem dX4_change_54 : decode cX4_change 54 = .ok (.invokevirtual 59, 3) := by decide +kernel
theorem dX4_change_57 : decode cX4_change 57 = .ok (.aload_n 0, 1) := by decide +kernel
theorem dX4_change_58 : decode cX4_change 58 = .ok (.invokevirtual 62, 3) := by decide +kernel
theorem dX4_change_61 : decode cX4_change 61 = .ok (.pop, 1) := by decide +kernel
theorem dX4_change_62 : decode cX4_change 62 = .ok (.iload_n 3, 1) := by decide +kernel
theorem dX4_change_63 : decode cX4_change 63 = .ok (.ireturn, 1) := by decide +kernel
theorem dX4_addRing_0 : decode cX4_addRing 0 = .ok (.iload_n 1, 1) := by decide +kernel
theorem dX4_addRing_1 : decode cX4_addRing 1 = .ok (.iconst 1, 1) := by decide +kernel
theorem dX4_addRing_2 : decode cX4_addRing 2 = .ok (.if_icmp .lt 10, 3) := by decide +kernel
theorem dX4_addRing_5 : decode cX4_addRing 5 = .ok (.iload_n 1, 1) := by decide +kernel
theorem dX4_addRing_6 : decode cX4_addRing 6 = .ok (.sipush 9999, 3) := by decide +kernel
theorem dX4_addRing_9 : decode cX4_addRing 9 = .ok (.if_icmp .le 6, 3) := by decide +kernel
theorem dX4_addRing_12 : decode cX4_addRing 12 = .ok (.bipush (-2), 2) := by decide +kernel
theorem dX4_addRing_14 : decode cX4_addRing 14 = .ok (.ireturn, 1) := by decide +kernel
theorem dX4_addRing_15 : decode cX4_addRing 15 = .ok (.aload_n 0, 1) := by decide +kernel
theorem dX4_addRing_16 : decode cX4_addRing 16 = .ok (.getfield 43, 3) := by decide +kernel
theorem dX4_addRing_19 : decode cX4_addRing 19 = .ok (.bipush 14, 2) := by decide +kernel
theorem dX4_addRing_21 : decode cX4_addRing 21 = .ok (.if_icmp .lt 6, 3) := by decide +kernel
theorem dX4_addRing_24 : decode cX4_addRing 24 = .ok (.bipush (-4), 2) := by decide +kernel
theorem dX4_addRing_26 : decode cX4_addRing 26 = .ok (.ireturn, 1) := by decide +kernel
theorem dX4_addRing_27 : decode cX4_addRing 27 = .ok (.aload_n 0, 1) := by decide +kernel
theorem dX4_addRing_28 : decode cX4_addRing 28 = .ok (.getfield 23, 3) := by decide +kernel
theorem dX4_addRing_31 : decode cX4_addRing 31 = .ok (.aload_n 0, 1) := by decide +kernel
theorem dX4_addRing_32 : decode cX4_addRing 32 = .ok (.getfield 43, 3) := by decide +kernel
theorem dX4_addRing_35 : decode cX4_addRing 35 = .ok (.iload_n 1, 1) := by decide +kernel
theorem dX4_addRing_36 : decode cX4_addRing 36 = .ok (.iastore, 1) := by decide +kernel
theorem dX4_addRing_37 : decode cX4_addRing 37 = .ok (.aload_n 0, 1) := by decide +kernel
theorem dX4_addRing_38 : decode cX4_addRing 38 = .ok (.invokevirtual 59, 3) := by decide +kernel
theorem dX4_addRing_41 : decode cX4_addRing 41 = .ok (.aload_n 0, 1) := by decide +kernel
theorem dX4_addRing_42 : decode cX4_addRing 42 = .ok (.dup, 1) := by decide +kernel
theorem dX4_addRing_43 : decode cX4_addRing 43 = .ok (.getfield 43, 3) := by decide +kernel
theorem dX4_addRing_46 : decode cX4_addRing 46 = .ok (.dup_x1, 1) := by decide +kernel
theorem dX4_addRing_47 : decode cX4_addRing 47 = .ok (.iconst 1, 1) := by decide +kernel
theorem dX4_addRing_48 : decode cX4_addRing 48 = .ok (.iadd, 1) := by decide +kernel
theorem dX4_addRing_49 : decode cX4_addRing 49 = .ok (.putfield 43, 3) := by decide +kernel
theorem dX4_addRing_52 : decode cX4_addRing 52 = .ok (.ireturn, 1) := by decide +kernel
theorem dX4_dropRing_0 : decode cX4_dropRing 0 = .ok (.aload_n 0, 1) := by decide +kernel
theorem dX4_dropRing_1 : decode cX4_dropRing 1 = .ok (.getfield 43, 3) := by decide +kernel
theorem dX4_dropRing_4 : decode cX4_dropRing 4 = .ok (.iconst 1, 1) := by decide +kernel
theorem dX4_dropRing_5 : decode cX4_dropRing 5 = .ok (.if_icmp .ge 6, 3) := by decide +kernel
theorem dX4_dropRing_8 : decode cX4_dropRing 8 = .ok (.bipush (-5), 2) := by decide +kernel
theorem dX4_dropRing_10 : decode cX4_dropRing 10 = .ok (.ireturn, 1) := by decide +kernel
theorem dX4_dropRing_11 : decode cX4_dropRing 11 = .ok (.aload_n 0, 1) := by decide +kernel
theorem dX4_dropRing_12 : decode cX4_dropRing 12 = .ok (.dup, 1) := by decide +kernel
theorem dX4_dropRing_13 : decode cX4_dropRing 13 = .ok (.getfield 43, 3) := by decide +kernel
theorem dX4_dropRing_16 : decode cX4_dropRing 16 = .ok (.iconst 1, 1) := by decide +kernel
theorem dX4_dropRing_17 : decode cX4_dropRing 17 = .ok (.isub, 1) := by decide +kernel
theorem dX4_dropRing_18 : decode cX4_dropRing 18 = .ok (.putfield 43, 3) := by decide +kernel
theorem dX4_dropRing_21 : decode cX4_dropRing 21 = .ok (.aload_n 0, 1) := by decide +kernel
theorem dX4_dropRing_22 : decode cX4_dropRing 22 = .ok (.dup, 1) := by decide +kernel
theorem dX4_dropRing_23 : decode cX4_dropRing 23 = .ok (.getfield 47, 3) := by decide +kernel
theorem dX4_dropRing_26 : decode cX4_dropRing 26 = .ok (.iconst 1, 1) := by decide +kernel
theorem dX4_dropRing_27 : decode cX4_dropRing 27 = .ok (.aload_n 0, 1) := by decide +kernel
theorem dX4_dropRing_28 : decode cX4_dropRing 28 = .ok (.getfield 43, 3) := by decide +kernel
theorem dX4_dropRing_31 : decode cX4_dropRing 31 = .ok (.ishl, 1) := by decide +kernel
theorem dX4_dropRing_32 : decode cX4_dropRing 32 = .ok (.iconst (-1), 1) := by decide +kernel
theorem dX4_dropRing_33 : decode cX4_dropRing 33 = .ok (.ixor, 1) := by decide +kernel
theorem dX4_dropRing_34 : decode cX4_dropRing 34 = .ok (.iand, 1) := by decide +kernel
theorem dX4_dropRing_35 : decode cX4_dropRing 35 = .ok (.putfield 47, 3) := by decide +kernel
theorem dX4_dropRing_38 : decode cX4_dropRing 38 = .ok (.aload_n 0, 1) := by decide +kernel
theorem dX4_dropRing_39 : decode cX4_dropRing 39 = .ok (.invokevirtual 59, 3) := by decide +kernel
theorem dX4_dropRing_42 : decode cX4_dropRing 42 = .ok (.aload_n 0, 1) := by decide +kernel
theorem dX4_dropRing_43 : decode cX4_dropRing 43 = .ok (.invokevirtual 62, 3) := by decide +kernel
theorem dX4_dropRing_46 : decode cX4_dropRing 46 = .ok (.pop, 1) := by decide +kernel
theorem dX4_dropRing_47 : decode cX4_dropRing 47 = .ok (.aload_n 0, 1) := by decide +kernel
theorem dX4_dropRing_48 : decode cX4_dropRing 48 = .ok (.getfield 23, 3) := by decide +kernel
theorem dX4_dropRing_51 : decode cX4_dropRing 51 = .ok (.aload_n 0, 1) := by decide +kernel
theorem dX4_dropRing_52 : decode cX4_dropRing 52 = .ok (.getfield 43, 3) := by decide +kernel
theorem dX4_dropRing_55 : decode cX4_dropRing 55 = .ok (.iaload, 1) := by decide +kernel
theorem dX4_dropRing_56 : decode cX4_dropRing 56 = .ok (.ireturn, 1) := by decide +kernel
theorem dX4_putOn_0 : decode cX4_putOn 0 = .ok (.aload_n 0, 1) := by decide +kernel
theorem dX4_putOn_1 : decode cX4_putOn 1 = .ok (.iload_n 1, 1) := by decide +kernel
theorem dX4_putOn_2 : decode cX4_putOn 2 = .ok (.invokevirtual 66, 3) := by decide +kernel
theorem dX4_putOn_5 : decode cX4_putOn 5 = .ok (.ifCond .ne 5, 3) := by decide +kernel
theorem dX4_putOn_8 : decode cX4_putOn 8 = .ok (.iconst (-1), 1) := by decide +kernel
theorem dX4_putOn_9 : decode cX4_putOn 9 = .ok (.ireturn, 1) := by decide +kernel
theorem dX4_putOn_10 : decode cX4_putOn 10 = .ok (.aload_n 0, 1) := by decide +kernel
theorem dX4_putOn_11 : decode cX4_putOn 11 = .ok (.iload_n 1, 1) := by decide +kernel
theorem dX4_putOn_12 : decode cX4_putOn 12 = .ok (.invokevirtual 70, 3) := by decide +kernel
theorem dX4_putOn_15 : decode cX4_putOn 15 = .ok (.ifCond .eq 6, 3) := by decide +kernel
theorem dX4_putOn_18 : decode cX4_putOn 18 = .ok (.bipush (-5), 2) := by decide +kernel
theorem dX4_putOn_20 : decode cX4_putOn 20 = .ok (.ireturn, 1) := by decide +kernel
theorem dX4_putOn_21 : decode cX4_putOn 21 = .ok (.aload_n 0, 1) := by decide +kernel
theorem dX4_putOn_22 : decode cX4_putOn 22 = .ok (.dup, 1) := by decide +kernel
theorem dX4_putOn_23 : decode cX4_putOn 23 = .ok (.getfield 47, 3) := by decide +kernel
theorem dX4_putOn_26 : decode cX4_putOn 26 = .ok (.iconst 1, 1) := by decide +kernel
theorem dX4_putOn_27 : decode cX4_putOn 27 = .ok (.iload_n 1, 1) := by decide +kernel
theorem dX4_putOn_28 : decode cX4_putOn 28 = .ok (.ishl, 1) := by decide +kernel
theorem dX4_putOn_29 : decode cX4_putOn 29 = .ok (.ior, 1) := by decide +kernel
theorem dX4_putOn_30 : decode cX4_putOn 30 = .ok (.putfield 47, 3) := by decide +kernel
theorem dX4_putOn_33 : decode cX4_putOn 33 = .ok (.aload_n 0, 1) := by decide +kernel
theorem dX4_putOn_34 : decode cX4_putOn 34 = .ok (.invokevirtual 62, 3) := by decide +kernel
theorem dX4_putOn_37 : decode cX4_putOn 37 = .ok (.ireturn, 1) := by decide +kernel
theorem dX4_takeOff_0 : decode cX4_takeOff 0 = .ok (.aload_n 0, 1) := by decide +kernel
theorem dX4_takeOff_1 : decode cX4_takeOff 1 = .ok (.iload_n 1, 1) := by decide +kernel
theorem dX4_takeOff_2 : decode cX4_takeOff 2 = .ok (.invokevirtual 66, 3) := by decide +kernel
theorem dX4_takeOff_5 : decode cX4_takeOff 5 = .ok (.ifCond .ne 5, 3) := by decide +kernel
theorem dX4_takeOff_8 : decode cX4_takeOff 8 = .ok (.iconst (-1), 1) := by decide +kernel
theorem dX4_takeOff_9 : decode cX4_takeOff 9 = .ok (.ireturn, 1) := by decide +kernel
theorem dX4_takeOff_10 : decode cX4_takeOff 10 = .ok (.aload_n 0, 1) := by decide +kernel
theorem dX4_takeOff_11 : decode cX4_takeOff 11 = .ok (.iload_n 1, 1) := by decide +kernel
theorem dX4_takeOff_12 : decode cX4_takeOff 12 = .ok (.invokevirtual 70, 3) := by decide +kernel
theorem dX4_takeOff_15 : decode cX4_takeOff 15 = .ok (.ifCond .ne 6, 3) := by decide +kernel
theorem dX4_takeOff_18 : decode cX4_takeOff 18 = .ok (.bipush (-5), 2) := by decide +kernel
theorem dX4_takeOff_20 : decode cX4_takeOff 20 = .ok (.ireturn, 1) := by decide +kernel
theorem dX4_takeOff_21 : decode cX4_takeOff 21 = .ok (.aload_n 0, 1) := by decide +kernel
theorem dX4_takeOff_22 : decode cX4_takeOff 22 = .ok (.dup, 1) := by decide +kernel
theorem dX4_takeOff_23 : decode cX4_takeOff 23 = .ok (.getfield 47, 3) := by decide +kernel
theorem dX4_takeOff_26 : decode cX4_takeOff 26 = .ok (.iconst 1, 1) := by decide +kernel
theorem dX4_takeOff_27 : decode cX4_takeOff 27 = .ok (.iload_n 1, 1) := by decide +kernel
theorem dX4_takeOff_28 : decode cX4_takeOff 28 = .ok (.ishl, 1) := by decide +kernel
theorem dX4_takeOff_29 : decode cX4_takeOff 29 = .ok (.iconst (-1), 1) := by decide +kernel
theorem dX4_takeOff_30 : decode cX4_takeOff 30 = .ok (.ixor, 1) := by decide +kernel
theorem dX4_takeOff_31 : decode cX4_takeOff 31 = .ok (.iand, 1) := by decide +kernel
theorem dX4_takeOff_32 : decode cX4_takeOff 32 = .ok (.putfield 47, 3) := by decide +kernel
theorem dX4_takeOff_35 : decode cX4_takeOff 35 = .ok (.aload_n 0, 1) := by decide +kernel
theorem dX4_takeOff_36 : decode cX4_takeOff 36 = .ok (.invokevirtual 62, 3) := by decide +kernel
theorem dX4_takeOff_39 : decode cX4_takeOff 39 = .ok (.ireturn, 1) := by decide +kernel
theorem dX4_addGauge_0 : decode cX4_addGauge 0 = .ok (.iload_n 1, 1) := by decide +kernel
theorem dX4_addGauge_1 : decode cX4_addGauge 1 = .ok (.bipush (-99), 2) := by decide +kernel
theorem dX4_addGauge_3 : decode cX4_addGauge 3 = .ok (.if_icmp .lt 30, 3) := by decide +kernel
theorem dX4_addGauge_6 : decode cX4_addGauge 6 = .ok (.iload_n 1, 1) := by decide +kernel
theorem dX4_addGauge_7 : decode cX4_addGauge 7 = .ok (.bipush 99, 2) := by decide +kernel
theorem dX4_addGauge_9 : decode cX4_addGauge 9 = .ok (.if_icmp .gt 24, 3) := by decide +kernel
theorem dX4_addGauge_12 : decode cX4_addGauge 12 = .ok (.iload_n 2, 1) := by decide +kernel
theorem dX4_addGauge_13 : decode cX4_addGauge 13 = .ok (.ifCond .lt 20, 3) := by decide +kernel
theorem dX4_addGauge_16 : decode cX4_addGauge 16 = .ok (.iload_n 2, 1) := by decide +kernel
theorem dX4_addGauge_17 : decode cX4_addGauge 17 = .ok (.bipush 99, 2) := by decide +kernel
theorem dX4_addGauge_19 : decode cX4_addGauge 19 = .ok (.if_icmp .gt 14, 3) := by decide +kernel
theorem dX4_addGauge_22 : decode cX4_addGauge 22 = .ok (.iload_n 3, 1) := by decide +kernel
theorem dX4_addGauge_23 : decode cX4_addGauge 23 = .ok (.iconst 1, 1) := by decide +kernel
theorem dX4_addGauge_24 : decode cX4_addGauge 24 = .ok (.if_icmp .lt 9, 3) := by decide +kernel
theorem dX4_addGauge_27 : decode cX4_addGauge 27 = .ok (.iload_n 3, 1) := by decide +kernel
theorem dX4_addGauge_28 : decode cX4_addGauge 28 = .ok (.bipush 99, 2) := by decide +kernel
theorem dX4_addGauge_30 : decode cX4_addGauge 30 = .ok (.if_icmp .le 6, 3) := by decide +kernel
theorem dX4_addGauge_33 : decode cX4_addGauge 33 = .ok (.bipush (-2), 2) := by decide +kernel
theorem dX4_addGauge_35 : decode cX4_addGauge 35 = .ok (.ireturn, 1) := by decide +kernel
theorem dX4_addGauge_36 : decode cX4_addGauge 36 = .ok (.aload_n 0, 1) := by decide +kernel
theorem dX4_addGauge_37 : decode cX4_addGauge 37 = .ok (.getfield 50, 3) := by decide +kernel
theorem dX4_addGauge_40 : decode cX4_addGauge 40 = .ok (.bipush 6, 2) := by decide +kernel
theorem dX4_addGauge_42 : decode cX4_addGauge 42 = .ok (.if_icmp .lt 6, 3) := by decide +kernel
theorem dX4_addGauge_45 : decode cX4_addGauge 45 = .ok (.bipush (-4), 2) := by decide +kernel
theorem dX4_addGauge_47 : decode cX4_addGauge 47 = .ok (.ireturn, 1) := by decide +kernel
theorem dX4_addGauge_48 : decode cX4_addGauge 48 = .ok (.aload_n 0, 1) := by decide +kernel
theorem dX4_addGauge_49 : decode cX4_addGauge 49 = .ok (.getfield 28, 3) := by decide +kernel
theorem dX4_addGauge_52 : decode cX4_addGauge 52 = .ok (.aload_n 0, 1) := by decide +kernel
theorem dX4_addGauge_53 : decode cX4_addGauge 53 = .ok (.getfield 50, 3) := by decide +kernel
theorem dX4_addGauge_56 : decode cX4_addGauge 56 = .ok (.aaload, 1) := by decide +kernel
theorem dX4_addGauge_57 : decode cX4_addGauge 57 = .ok (.iload_n 1, 1) := by decide +kernel
theorem dX4_addGauge_58 : decode cX4_addGauge 58 = .ok (.iload_n 2, 1) := by decide +kernel
theorem dX4_addGauge_59 : decode cX4_addGauge 59 = .ok (.iload_n 3, 1) := by decide +kernel
theorem dX4_addGauge_60 : decode cX4_addGauge 60 = .ok (.invokevirtual 73, 3) := by decide +kernel
theorem dX4_addGauge_63 : decode cX4_addGauge 63 = .ok (.aload_n 0, 1) := by decide +kernel
theorem dX4_addGauge_64 : decode cX4_addGauge 64 = .ok (.getfield 28, 3) := by decide +kernel
theorem dX4_addGauge_67 : decode cX4_addGauge 67 = .ok (.aload_n 0, 1) := by decide +kernel
theorem dX4_addGauge_68 : decode cX4_addGauge 68 = .ok (.getfield 50, 3) := by decide +kernel
theorem dX4_addGauge_71 : decode cX4_addGauge 71 = .ok (.aaload, 1) := by decide +kernel
theorem dX4_addGauge_72 : decode cX4_addGauge 72 = .ok (.aload_n 0, 1) := by decide +kernel
theorem dX4_addGauge_73 : decode cX4_addGauge 73 = .ok (.invokevirtual 77, 3) := by decide +kernel
theorem dX4_addGauge_76 : decode cX4_addGauge 76 = .ok (.invokevirtual 80, 3) := by decide +kernel
theorem dX4_addGauge_79 : decode cX4_addGauge 79 = .ok (.aload_n 0, 1) := by decide +kernel
theorem dX4_addGauge_80 : decode cX4_addGauge 80 = .ok (.dup, 1) := by decide +kernel
theorem dX4_addGauge_81 : decode cX4_addGauge 81 = .ok (.getfield 50, 3) := by decide +kernel
theorem dX4_addGauge_84 : decode cX4_addGauge 84 = .ok (.dup_x1, 1) := by decide +kernel
theorem dX4_addGauge_85 : decode cX4_addGauge 85 = .ok (.iconst 1, 1) := by decide +kernel
theorem dX4_addGauge_86 : decode cX4_addGauge 86 = .ok (.iadd, 1) := by decide +kernel
theorem dX4_addGauge_87 : decode cX4_addGauge 87 = .ok (.putfield 50, 3) := by decide +kernel
theorem dX4_addGauge_90 : decode cX4_addGauge 90 = .ok (.ireturn, 1) := by decide +kernel
theorem dX4_adjust_0 : decode cX4_adjust 0 = .ok (.aload_n 0, 1) := by decide +kernel
theorem dX4_adjust_1 : decode cX4_adjust 1 = .ok (.iload_n 1, 1) := by decide +kernel
theorem dX4_adjust_2 : decode cX4_adjust 2 = .ok (.invokevirtual 84, 3) := by decide +kernel
theorem dX4_adjust_5 : decode cX4_adjust 5 = .ok (.astore_n 3, 1) := by decide +kernel
theorem dX4_adjust_6 : decode cX4_adjust 6 = .ok (.aload_n 3, 1) := by decide +kernel
theorem dX4_adjust_7 : decode cX4_adjust 7 = .ok (.ifnonnull 5, 3) := by decide +kernel
theorem dX4_adjust_10 : decode cX4_adjust 10 = .ok (.iconst (-1), 1) := by decide +kernel
theorem dX4_adjust_11 : decode cX4_adjust 11 = .ok (.ireturn, 1) := by decide +kernel
theorem dX4_adjust_12 : decode cX4_adjust 12 = .ok (.iload_n 2, 1) := by decide +kernel
theorem dX4_adjust_13 : decode cX4_adjust 13 = .ok (.bipush (-99), 2) := by decide +kernel
theorem dX4_adjust_15 : decode cX4_adjust 15 = .ok (.if_icmp .lt 9, 3) := by decide +kernel
theorem dX4_adjust_18 : decode cX4_adjust 18 = .ok (.iload_n 2, 1) := by decide +kernel
theorem dX4_adjust_19 : decode cX4_adjust 19 = .ok (.bipush 99, 2) := by decide +kernel
theorem dX4_adjust_21 : decode cX4_adjust 21 = .ok (.if_icmp .le 6, 3) := by decide +kernel
theorem dX4_adjust_24 : decode cX4_adjust 24 = .ok (.bipush (-2), 2) := by decide +kernel
theorem dX4_adjust_26 : decode cX4_adjust 26 = .ok (.ireturn, 1) := by decide +kernel
theorem dX4_adjust_27 : decode cX4_adjust 27 = .ok (.aload_n 3, 1) := by decide +kernel
theorem dX4_adjust_28 : decode cX4_adjust 28 = .ok (.getfield 88, 3) := by decide +kernel
theorem dX4_adjust_31 : decode cX4_adjust 31 = .ok (.bipush 100, 2) := by decide +kernel
theorem dX4_adjust_33 : decode cX4_adjust 33 = .ok (.iadd, 1) := by decide +kernel
theorem dX4_adjust_34 : decode cX4_adjust 34 = .ok (.istore 4, 2) := by decide +kernel
theorem dX4_adjust_36 : decode cX4_adjust 36 = .ok (.aload_n 3, 1) := by decide +kernel
theorem dX4_adjust_37 : decode cX4_adjust 37 = .ok (.iload_n 2, 1) := by decide +kernel
theorem dX4_adjust_38 : decode cX4_adjust 38 = .ok (.putfield 88, 3) := by decide +kernel
theorem dX4_adjust_41 : decode cX4_adjust 41 = .ok (.aload_n 3, 1) := by decide +kernel
theorem dX4_adjust_42 : decode cX4_adjust 42 = .ok (.aconst_null, 1) := by decide +kernel
theorem dX4_adjust_43 : decode cX4_adjust 43 = .ok (.putfield 91, 3) := by decide +kernel
theorem dX4_adjust_46 : decode cX4_adjust 46 = .ok (.aload_n 3, 1) := by decide +kernel
theorem dX4_adjust_47 : decode cX4_adjust 47 = .ok (.aload_n 0, 1) := by decide +kernel
theorem dX4_adjust_48 : decode cX4_adjust 48 = .ok (.invokevirtual 77, 3) := by decide +kernel
theorem dX4_adjust_51 : decode cX4_adjust 51 = .ok (.invokevirtual 80, 3) := by decide +kernel
theorem dX4_adjust_54 : decode cX4_adjust 54 = .ok (.iload 4, 2) := by decide +kernel
theorem dX4_adjust_56 : decode cX4_adjust 56 = .ok (.ireturn, 1) := by decide +kernel
theorem dX4_certifyBy_0 : decode cX4_certifyBy 0 = .ok (.aload_n 0, 1) := by decide +kernel
theorem dX4_certifyBy_1 : decode cX4_certifyBy 1 = .ok (.iload_n 2, 1) := by decide +kernel
theorem dX4_certifyBy_2 : decode cX4_certifyBy 2 = .ok (.invokevirtual 84, 3) := by decide +kernel
theorem dX4_certifyBy_5 : decode cX4_certifyBy 5 = .ok (.astore_n 3, 1) := by decide +kernel
theorem dX4_certifyBy_6 : decode cX4_certifyBy 6 = .ok (.aload_n 3, 1) := by decide +kernel
theorem dX4_certifyBy_7 : decode cX4_certifyBy 7 = .ok (.ifnonnull 5, 3) := by decide +kernel
theorem dX4_certifyBy_10 : decode cX4_certifyBy 10 = .ok (.iconst (-1), 1) := by decide +kernel
theorem dX4_certifyBy_11 : decode cX4_certifyBy 11 = .ok (.ireturn, 1) := by decide +kernel
theorem dX4_certifyBy_12 : decode cX4_certifyBy 12 = .ok (.aload_n 0, 1) := by decide +kernel
theorem dX4_certifyBy_13 : decode cX4_certifyBy 13 = .ok (.getfield 43, 3) := by decide +kernel
theorem dX4_certifyBy_16 : decode cX4_certifyBy 16 = .ok (.ifCond .ne 6, 3) := by decide +kernel
theorem dX4_certifyBy_19 : decode cX4_certifyBy 19 = .ok (.bipush (-5), 2) := by decide +kernel
theorem dX4_certifyBy_21 : decode cX4_certifyBy 21 = .ok (.ireturn, 1) := by decide +kernel
theorem dX4_certifyBy_22 : decode cX4_certifyBy 22 = .ok (.aload_n 1, 1) := by decide +kernel
theorem dX4_certifyBy_23 : decode cX4_certifyBy 23 = .ok (.aload_n 0, 1) := by decide +kernel
theorem dX4_certifyBy_24 : decode cX4_certifyBy 24 = .ok (.invokevirtual 95, 3) := by decide +kernel
theorem dX4_certifyBy_27 : decode cX4_certifyBy 27 = .ok (.aload_n 1, 1) := by decide +kernel
theorem dX4_certifyBy_28 : decode cX4_certifyBy 28 = .ok (.aload_n 3, 1) := by decide +kernel
theorem dX4_certifyBy_29 : decode cX4_certifyBy 29 = .ok (.aload_n 3, 1) := by decide +kernel
theorem dX4_certifyBy_30 : decode cX4_certifyBy 30 = .ok (.getfield 88, 3) := by decide +kernel
theorem dX4_certifyBy_33 : decode cX4_certifyBy 33 = .ok (.invokevirtual 101, 3) := by decide +kernel
theorem dX4_certifyBy_36 : decode cX4_certifyBy 36 = .ok (.aload_n 1, 1) := by decide +kernel
theorem dX4_certifyBy_37 : decode cX4_certifyBy 37 = .ok (.getfield 105, 3) := by decide +kernel
theorem dX4_certifyBy_40 : decode cX4_certifyBy 40 = .ok (.aload_n 0, 1) := by decide +kernel
theorem dX4_certifyBy_41 : decode cX4_certifyBy 41 = .ok (.getfield 18, 3) := by decide +kernel
theorem dX4_certifyBy_44 : decode cX4_certifyBy 44 = .ok (.iconst 2, 1) := by decide +kernel
theorem dX4_certifyBy_45 : decode cX4_certifyBy 45 = .ok (.iaload, 1) := by decide +kernel
theorem dX4_certifyBy_46 : decode cX4_certifyBy 46 = .ok (.if_icmp .gt 21, 3) := by decide +kernel
theorem dX4_certifyBy_49 : decode cX4_certifyBy 49 = .ok (.aload_n 3, 1) := by decide +kernel
theorem dX4_certifyBy_50 : decode cX4_certifyBy 50 = .ok (.new 108, 3) := by decide +kernel
theorem dX4_certifyBy_53 : decode cX4_certifyBy 53 = .ok (.dup, 1) := by decide +kernel
theorem dX4_certifyBy_54 : decode cX4_certifyBy 54 = .ok (.aload_n 1, 1) := by decide +kernel
theorem dX4_certifyBy_55 : decode cX4_certifyBy 55 = .ok (.aload_n 0, 1) := by decide +kernel
theorem dX4_certifyBy_56 : decode cX4_certifyBy 56 = .ok (.getfield 18, 3) := by decide +kernel
theorem dX4_certifyBy_59 : decode cX4_certifyBy 59 = .ok (.iconst 0, 1) := by decide +kernel
theorem dX4_certifyBy_60 : decode cX4_certifyBy 60 = .ok (.iaload, 1) := by decide +kernel
theorem dX4_certifyBy_61 : decode cX4_certifyBy 61 = .ok (.invokespecial 110, 3) := by decide +kernel
theorem dX4_certifyBy_64 : decode cX4_certifyBy 64 = .ok (.putfield 91, 3) := by decide +kernel
theorem dX4_certifyBy_67 : decode cX4_certifyBy 67 = .ok (.aload_n 1, 1) := by decide +kernel
theorem dX4_certifyBy_68 : decode cX4_certifyBy 68 = .ok (.getfield 105, 3) := by decide +kernel
theorem dX4_certifyBy_71 : decode cX4_certifyBy 71 = .ok (.ireturn, 1) := by decide +kernel
theorem dX4_hasRing_0 : decode cX4_hasRing 0 = .ok (.iload_n 1, 1) := by decide +kernel
theorem dX4_hasRing_1 : decode cX4_hasRing 1 = .ok (.ifCond .lt 15, 3) := by decide +kernel
theorem dX4_hasRing_4 : decode cX4_hasRing 4 = .ok (.iload_n 1, 1) := by decide +kernel
theorem dX4_hasRing_5 : decode cX4_hasRing 5 = .ok (.aload_n 0, 1) := by decide +kernel
theorem dX4_hasRing_6 : decode cX4_hasRing 6 = .ok (.getfield 43, 3) := by decide +kernel
theorem dX4_hasRing_9 : decode cX4_hasRing 9 = .ok (.if_icmp .ge 7, 3) := by decide +kernel
theorem dX4_hasRing_12 : decode cX4_hasRing 12 = .ok (.iconst 1, 1) := by decide +kernel
theorem dX4_hasRing_13 : decode cX4_hasRing 13 = .ok (.goto 4, 3) := by decide +kernel
theorem dX4_hasRing_16 : decode cX4_hasRing 16 = .ok (.iconst 0, 1) := by decide +kernel
theorem dX4_hasRing_17 : decode cX4_hasRing 17 = .ok (.ireturn, 1) := by decide +kernel
theorem dX4_isStacked_0 : decode cX4_isStacked 0 = .ok (.aload_n 0, 1) := by decide +kernel
theorem dX4_isStacked_1 : decode cX4_isStacked 1 = .ok (.getfield 47, 3) := by decide +kernel
theorem dX4_isStacked_4 : decode cX4_isStacked 4 = .ok (.iload_n 1, 1) := by decide +kernel
theorem dX4_isStacked_5 : decode cX4_isStacked 5 = .ok (.ishr, 1) := by decide +kernel
theorem dX4_isStacked_6 : decode cX4_isStacked 6 = .ok (.iconst 1, 1) := by decide +kernel
theorem dX4_isStacked_7 : decode cX4_isStacked 7 = .ok (.iand, 1) := by decide +kernel
theorem dX4_isStacked_8 : decode cX4_isStacked 8 = .ok (.iconst 1, 1) := by decide +kernel
theorem dX4_isStacked_9 : decode cX4_isStacked 9 = .ok (.if_icmp .ne 7, 3) := by decide +kernel
theorem dX4_isStacked_12 : decode cX4_isStacked 12 = .ok (.iconst 1, 1) := by decide +kernel
theorem dX4_isStacked_13 : decode cX4_isStacked 13 = .ok (.goto 4, 3) := by decide +kernel
theorem dX4_isStacked_16 : decode cX4_isStacked 16 = .ok (.iconst 0, 1) := by decide +kernel
theorem dX4_isStacked_17 : decode cX4_isStacked 17 = .ok (.ireturn, 1) := by decide +kernel
theorem dX4_placeOf_0 : decode cX4_placeOf 0 = .ok (.iconst 0, 1) := by decide +kernel
theorem dX4_placeOf_1 : decode cX4_placeOf 1 = .ok (.istore_n 2, 1) := by decide +kernel
theorem dX4_placeOf_2 : decode cX4_placeOf 2 = .ok (.iconst 0, 1) := by decide +kernel
theorem dX4_placeOf_3 : decode cX4_placeOf 3 = .ok (.istore_n 3, 1) := by decide +kernel
theorem dX4_placeOf_4 : decode cX4_placeOf 4 = .ok (.iload_n 3, 1) := by decide +kernel
theorem dX4_placeOf_5 : decode cX4_placeOf 5 = .ok (.aload_n 0, 1) := by decide +kernel
theorem dX4_placeOf_6 : decode cX4_placeOf 6 = .ok (.getfield 43, 3) := by decide +kernel
theorem dX4_placeOf_9 : decode cX4_placeOf 9 = .ok (.if_icmp .ge 47, 3) := by decide +kernel
theorem dX4_placeOf_12 : decode cX4_placeOf 12 = .ok (.aload_n 0, 1) := by decide +kernel
theorem dX4_placeOf_13 : decode cX4_placeOf 13 = .ok (.getfield 23, 3) := by decide +kernel
theorem dX4_placeOf_16 : decode cX4_placeOf 16 = .ok (.iload_n 3, 1) := by decide +kernel
theorem dX4_placeOf_17 : decode cX4_placeOf 17 = .ok (.iaload, 1) := by decide +kernel
theorem dX4_placeOf_18 : decode cX4_placeOf 18 = .ok (.aload_n 0, 1) := by decide +kernel
theorem dX4_placeOf_19 : decode cX4_placeOf 19 = .ok (.getfield 23, 3) := by decide +kernel
theorem dX4_placeOf_22 : decode cX4_placeOf 22 = .ok (.iload_n 1, 1) := by decide +kernel
theorem dX4_placeOf_23 : decode cX4_placeOf 23 = .ok (.iaload, 1) := by decide +kernel
theorem dX4_placeOf_24 : decode cX4_placeOf 24 = .ok (.if_icmp .lt 23, 3) := by decide +kernel
theorem dX4_placeOf_27 : decode cX4_placeOf 27 = .ok (.aload_n 0, 1) := by decide +kernel
theorem dX4_placeOf_28 : decode cX4_placeOf 28 = .ok (.getfield 23, 3) := by decide +kernel
theorem dX4_placeOf_31 : decode cX4_placeOf 31 = .ok (.iload_n 3, 1) := by decide +kernel
theorem dX4_placeOf_32 : decode cX4_placeOf 32 = .ok (.iaload, 1) := by decide +kernel
theorem dX4_placeOf_33 : decode cX4_placeOf 33 = .ok (.aload_n 0, 1) := by decide +kernel
theorem dX4_placeOf_34 : decode cX4_placeOf 34 = .ok (.getfield 23, 3) := by decide +kernel
theorem dX4_placeOf_37 : decode cX4_placeOf 37 = .ok (.iload_n 1, 1) := by decide +kernel
theorem dX4_placeOf_38 : decode cX4_placeOf 38 = .ok (.iaload, 1) := by decide +kernel
theorem dX4_placeOf_39 : decode cX4_placeOf 39 = .ok (.if_icmp .ne 11, 3) := by decide +kernel
theorem dX4_placeOf_42 : decode cX4_placeOf 42 = .ok (.iload_n 3, 1) := by decide +kernel
theorem dX4_placeOf_43 : decode cX4_placeOf 43 = .ok (.iload_n 1, 1) := by decide +kernel
theorem dX4_placeOf_44 : decode cX4_placeOf 44 = .ok (.if_icmp .ge 6, 3) := by decide +kernel
theorem dX4_placeOf_47 : decode cX4_placeOf 47 = .ok (.iinc 2 1, 3) := by decide +kernel
theorem dX4_placeOf_50 : decode cX4_placeOf 50 = .ok (.iinc 3 1, 3) := by decide +kernel
theorem dX4_placeOf_53 : decode cX4_placeOf 53 = .ok (.goto (-49), 3) := by decide +kernel
theorem dX4_placeOf_56 : decode cX4_placeOf 56 = .ok (.iload_n 2, 1) := by decide +kernel
theorem dX4_placeOf_57 : decode cX4_placeOf 57 = .ok (.ireturn, 1) := by decide +kernel
theorem dX4_gaugeAt_0 : decode cX4_gaugeAt 0 = .ok (.iload_n 1, 1) := by decide +kernel
theorem dX4_gaugeAt_1 : decode cX4_gaugeAt 1 = .ok (.ifCond .lt 11, 3) := by decide +kernel
theorem dX4_gaugeAt_4 : decode cX4_gaugeAt 4 = .ok (.iload_n 1, 1) := by decide +kernel
theorem dX4_gaugeAt_5 : decode cX4_gaugeAt 5 = .ok (.aload_n 0, 1) := by decide +kernel
theorem dX4_gaugeAt_6 : decode cX4_gaugeAt 6 = .ok (.getfield 50, 3) := by decide +kernel
theorem dX4_gaugeAt_9 : decode cX4_gaugeAt 9 = .ok (.if_icmp .lt 7, 3) := by decide +kernel
theorem dX4_gaugeAt_12 : decode cX4_gaugeAt 12 = .ok (.aconst_null, 1) := by decide +kernel
theorem dX4_gaugeAt_13 : decode cX4_gaugeAt 13 = .ok (.goto 9, 3) := by decide +kernel
theorem dX4_gaugeAt_16 : decode cX4_gaugeAt 16 = .ok (.aload_n 0, 1) := by decide +kernel
theorem dX4_gaugeAt_17 : decode cX4_gaugeAt 17 = .ok (.getfield 28, 3) := by decide +kernel
theorem dX4_gaugeAt_20 : decode cX4_gaugeAt 20 = .ok (.iload_n 1, 1) := by decide +kernel
theorem dX4_gaugeAt_21 : decode cX4_gaugeAt 21 = .ok (.aaload, 1) := by decide +kernel
theorem dX4_gaugeAt_22 : decode cX4_gaugeAt 22 = .ok (.areturn, 1) := by decide +kernel
theorem dX4_countCertificates_0 : decode cX4_countCertificates 0 = .ok (.iconst 0, 1) := by decide +kernel
theorem dX4_countCertificates_1 : decode cX4_countCertificates 1 = .ok (.istore_n 1, 1) := by decide +kernel
theorem dX4_countCertificates_2 : decode cX4_countCertificates 2 = .ok (.iconst 0, 1) := by decide +kernel
theorem dX4_countCertificates_3 : decode cX4_countCertificates 3 = .ok (.istore_n 2, 1) := by decide +kernel
theorem dX4_countCertificates_4 : decode cX4_countCertificates 4 = .ok (.iload_n 2, 1) := by decide +kernel
theorem dX4_countCertificates_5 : decode cX4_countCertificates 5 = .ok (.aload_n 0, 1) := by decide +kernel
theorem dX4_countCertificates_6 : decode cX4_countCertificates 6 = .ok (.getfield 50, 3) := by decide +kernel
theorem dX4_countCertificates_9 : decode cX4_countCertificates 9 = .ok (.if_icmp .ge 24, 3) := by decide +kernel
theorem dX4_countCertificates_12 : decode cX4_countCertificates 12 = .ok (.aload_n 0, 1) := by decide +kernel
theorem dX4_countCertificates_13 : decode cX4_countCertificates 13 = .ok (.getfield 28, 3) := by decide +kernel
theorem dX4_countCertificates_16 : decode cX4_countCertificates 16 = .ok (.iload_n 2, 1) := by decide +kernel
theorem dX4_countCertificates_17 : decode cX4_countCertificates 17 = .ok (.aaload, 1) := by decide +kernel
theorem dX4_countCertificates_18 : decode cX4_countCertificates 18 = .ok (.getfield 91, 3) := by decide +kernel
theorem dX4_countCertificates_21 : decode cX4_countCertificates 21 = .ok (.ifnull 6, 3) := by decide +kernel
theorem dX4_countCertificates_24 : decode cX4_countCertificates 24 = .ok (.iinc 1 1, 3) := by decide +kernel
theorem dX4_countCertificates_27 : decode cX4_countCertificates 27 = .ok (.iinc 2 1, 3) := by decide +kernel
theorem dX4_countCertificates_30 : decode cX4_countCertificates 30 = .ok (.goto (-26), 3) := by decide +kernel
theorem dX4_countCertificates_33 : decode cX4_countCertificates 33 = .ok (.iload_n 1, 1) := by decide +kernel
theorem dX4_countCertificates_34 : decode cX4_countCertificates 34 = .ok (.ireturn, 1) := by decide +kernel
theorem dX4_massOf_0 : decode cX4_massOf 0 = .ok (.bipush 100, 2) := by decide +kernel
theorem dX4_massOf_2 : decode cX4_massOf 2 = .ok (.istore_n 2, 1) := by decide +kernel
theorem dX4_massOf_3 : decode cX4_massOf 3 = .ok (.iconst 0, 1) := by decide +kernel
theorem dX4_massOf_4 : decode cX4_massOf 4 = .ok (.istore_n 3, 1) := by decide +kernel
theorem dX4_massOf_5 : decode cX4_massOf 5 = .ok (.iload_n 3, 1) := by decide +kernel
theorem dX4_massOf_6 : decode cX4_massOf 6 = .ok (.aload_n 0, 1) := by decide +kernel
theorem dX4_massOf_7 : decode cX4_massOf 7 = .ok (.getfield 43, 3) := by decide +kernel
theorem dX4_massOf_10 : decode cX4_massOf 10 = .ok (.if_icmp .ge 27, 3) := by decide +kernel
theorem dX4_massOf_13 : decode cX4_massOf 13 = .ok (.iload_n 1, 1) := by decide +kernel
theorem dX4_massOf_14 : decode cX4_massOf 14 = .ok (.iload_n 3, 1) := by decide +kernel
theorem dX4_massOf_15 : decode cX4_massOf 15 = .ok (.ishr, 1) := by decide +kernel
theorem dX4_massOf_16 : decode cX4_massOf 16 = .ok (.iconst 1, 1) := by decide +kernel
theorem dX4_massOf_17 : decode cX4_massOf 17 = .ok (.iand, 1) := by decide +kernel
theorem dX4_massOf_18 : decode cX4_massOf 18 = .ok (.iconst 1, 1) := by decide +kernel
theorem dX4_massOf_19 : decode cX4_massOf 19 = .ok (.if_icmp .ne 12, 3) := by decide +kernel
theorem dX4_massOf_22 : decode cX4_massOf 22 = .ok (.iload_n 2, 1) := by decide +kernel
theorem dX4_massOf_23 : decode cX4_massOf 23 = .ok (.aload_n 0, 1) := by decide +kernel
theorem dX4_massOf_24 : decode cX4_massOf 24 = .ok (.getfield 23, 3) := by decide +kernel
theorem dX4_massOf_27 : decode cX4_massOf 27 = .ok (.iload_n 3, 1) := by decide +kernel
theorem dX4_massOf_28 : decode cX4_massOf 28 = .ok (.iaload, 1) := by decide +kernel
theorem dX4_massOf_29 : decode cX4_massOf 29 = .ok (.iadd, 1) := by decide +kernel
theorem dX4_massOf_30 : decode cX4_massOf 30 = .ok (.istore_n 2, 1) := by decide +kernel
theorem dX4_massOf_31 : decode cX4_massOf 31 = .ok (.iinc 3 1, 3) := by decide +kernel
theorem dX4_massOf_34 : decode cX4_massOf 34 = .ok (.goto (-29), 3) := by decide +kernel
theorem dX4_massOf_37 : decode cX4_massOf 37 = .ok (.iload_n 2, 1) := by decide +kernel
theorem dX4_massOf_38 : decode cX4_massOf 38 = .ok (.ireturn, 1) := by decide +kernel
theorem dX4_pressureOf_0 : decode cX4_pressureOf 0 = .ok (.iload_n 1, 1) := by decide +kernel
theorem dX4_pressureOf_1 : decode cX4_pressureOf 1 = .ok (.iload_n 2, 1) := by decide +kernel
theorem dX4_pressureOf_2 : decode cX4_pressureOf 2 = .ok (.invokestatic 113, 3) := by decide +kernel
theorem dX4_pressureOf_5 : decode cX4_pressureOf 5 = .ok (.bipush 100, 2) := by decide +kernel
theorem dX4_pressureOf_7 : decode cX4_pressureOf 7 = .ok (.imul, 1) := by decide +kernel
theorem dX4_pressureOf_8 : decode cX4_pressureOf 8 = .ok (.aload_n 0, 1) := by decide +kernel
theorem dX4_pressureOf_9 : decode cX4_pressureOf 9 = .ok (.getfield 18, 3) := by decide +kernel
theorem dX4_pressureOf_12 : decode cX4_pressureOf 12 = .ok (.iconst 1, 1) := by decide +kernel
theorem dX4_pressureOf_13 : decode cX4_pressureOf 13 = .ok (.iaload, 1) := by decide +kernel
theorem dX4_pressureOf_14 : decode cX4_pressureOf 14 = .ok (.invokestatic 117, 3) := by decide +kernel
theorem dX4_pressureOf_17 : decode cX4_pressureOf 17 = .ok (.ireturn, 1) := by decide +kernel
theorem dX4_columnPressure_0 : decode cX4_columnPressure 0 = .ok (.aload_n 0, 1) := by decide +kernel
theorem dX4_columnPressure_1 : decode cX4_columnPressure 1 = .ok (.aload_n 0, 1) := by decide +kernel
theorem dX4_columnPressure_2 : decode cX4_columnPressure 2 = .ok (.aload_n 0, 1) := by decide +kernel
theorem dX4_columnPressure_3 : decode cX4_columnPressure 3 = .ok (.getfield 47, 3) := by decide +kernel
theorem dX4_columnPressure_6 : decode cX4_columnPressure 6 = .ok (.invokevirtual 120, 3) := by decide +kernel
theorem dX4_columnPressure_9 : decode cX4_columnPressure 9 = .ok (.aload_n 0, 1) := by decide +kernel
theorem dX4_columnPressure_10 : decode cX4_columnPressure 10 = .ok (.getfield 18, 3) := by decide +kernel
theorem dX4_columnPressure_13 : decode cX4_columnPressure 13 = .ok (.iconst 0, 1) := by decide +kernel
theorem dX4_columnPressure_14 : decode cX4_columnPressure 14 = .ok (.iaload, 1) := by decide +kernel
theorem dX4_columnPressure_15 : decode cX4_columnPressure 15 = .ok (.invokevirtual 124, 3) := by decide +kernel
theorem dX4_columnPressure_18 : decode cX4_columnPressure 18 = .ok (.ireturn, 1) := by decide +kernel
theorem dX4_nearestTo_0 : decode cX4_nearestTo 0 = .ok (.iconst 0, 1) := by decide +kernel
theorem dX4_nearestTo_1 : decode cX4_nearestTo 1 = .ok (.istore_n 2, 1) := by decide +kernel
theorem dX4_nearestTo_2 : decode cX4_nearestTo 2 = .ok (.ldc 127, 2) := by decide +kernel
theorem dX4_nearestTo_4 : decode cX4_nearestTo 4 = .ok (.istore_n 3, 1) := by decide +kernel
theorem dX4_nearestTo_5 : decode cX4_nearestTo 5 = .ok (.bipush 100, 2) := by decide +kernel
theorem dX4_nearestTo_7 : decode cX4_nearestTo 7 = .ok (.istore 4, 2) := by decide +kernel
theorem dX4_nearestTo_9 : decode cX4_nearestTo 9 = .ok (.iconst 0, 1) := by decide +kernel
theorem dX4_nearestTo_10 : decode cX4_nearestTo 10 = .ok (.istore 5, 2) := by decide +kernel
theorem dX4_nearestTo_12 : decode cX4_nearestTo 12 = .ok (.iload 5, 2) := by decide +kernel
theorem dX4_nearestTo_14 : decode cX4_nearestTo 14 = .ok (.iconst 1, 1) := by decide +kernel
theorem dX4_nearestTo_15 : decode cX4_nearestTo 15 = .ok (.aload_n 0, 1) := by decide +kernel
theorem dX4_nearestTo_16 : decode cX4_nearestTo 16 = .ok (.getfield 43, 3) := by decide +kernel
theorem dX4_nearestTo_19 : decode cX4_nearestTo 19 = .ok (.ishl, 1) := by decide +kernel
theorem dX4_nearestTo_20 : decode cX4_nearestTo 20 = .ok (.if_icmp .ge 69, 3) := by decide +kernel
theorem dX4_nearestTo_23 : decode cX4_nearestTo 23 = .ok (.aload_n 0, 1) := by decide +kernel
theorem dX4_nearestTo_24 : decode cX4_nearestTo 24 = .ok (.iload 4, 2) := by decide +kernel
theorem dX4_nearestTo_26 : decode cX4_nearestTo 26 = .ok (.aload_n 0, 1) := by decide +kernel
theorem dX4_nearestTo_27 : decode cX4_nearestTo 27 = .ok (.getfield 18, 3) := by decide +kernel
theorem dX4_nearestTo_30 : decode cX4_nearestTo 30 = .ok (.iconst 0, 1) := by decide +kernel
theorem dX4_nearestTo_31 : decode cX4_nearestTo 31 = .ok (.iaload, 1) := by decide +kernel
theorem dX4_nearestTo_32 : decode cX4_nearestTo 32 = .ok (.invokevirtual 124, 3) := by decide +kernel
theorem dX4_nearestTo_35 : decode cX4_nearestTo 35 = .ok (.iload_n 1, 1) := by decide +kernel
theorem dX4_nearestTo_36 : decode cX4_nearestTo 36 = .ok (.isub, 1) := by decide +kernel
theorem dX4_nearestTo_37 : decode cX4_nearestTo 37 = .ok (.invokestatic 128, 3) := by decide +kernel
theorem dX4_nearestTo_40 : decode cX4_nearestTo 40 = .ok (.istore 6, 2) := by decide +kernel
theorem dX4_nearestTo_42 : decode cX4_nearestTo 42 = .ok (.iload 6, 2) := by decide +kernel
theorem dX4_nearestTo_44 : decode cX4_nearestTo 44 = .ok (.iload_n 3, 1) := by decide +kernel
theorem dX4_nearestTo_45 : decode cX4_nearestTo 45 = .ok (.if_icmp .lt 21, 3) := by decide +kernel
theorem dX4_nearestTo_48 : decode cX4_nearestTo 48 = .ok (.iload 6, 2) := by decide +kernel
theorem dX4_nearestTo_50 : decode cX4_nearestTo 50 = .ok (.iload_n 3, 1) := by decide +kernel
theorem dX4_nearestTo_51 : decode cX4_nearestTo 51 = .ok (.if_icmp .ne 21, 3) := by decide +kernel
theorem dX4_nearestTo_54 : decode cX4_nearestTo 54 = .ok (.iload 5, 2) := by decide +kernel
theorem dX4_nearestTo_56 : decode cX4_nearestTo 56 = .ok (.invokestatic 133, 3) := by decide +kernel
theorem dX4_nearestTo_59 : decode cX4_nearestTo 59 = .ok (.iload_n 2, 1) := by decide +kernel
theorem dX4_nearestTo_60 : decode cX4_nearestTo 60 = .ok (.invokestatic 133, 3) := by decide +kernel
theorem dX4_nearestTo_63 : decode cX4_nearestTo 63 = .ok (.if_icmp .ge 9, 3) := by decide +kernel
theorem dX4_nearestTo_66 : decode cX4_nearestTo 66 = .ok (.iload 5, 2) := by decide +kernel
theorem dX4_nearestTo_68 : decode cX4_nearestTo 68 = .ok (.istore_n 2, 1) := by decide +kernel
theorem dX4_nearestTo_69 : decode cX4_nearestTo 69 = .ok (.iload 6, 2) := by decide +kernel
theorem dX4_nearestTo_71 : decode cX4_nearestTo 71 = .ok (.istore_n 3, 1) := by decide +kernel
theorem dX4_nearestTo_72 : decode cX4_nearestTo 72 = .ok (.iload 4, 2) := by decide +kernel
theorem dX4_nearestTo_74 : decode cX4_nearestTo 74 = .ok (.aload_n 0, 1) := by decide +kernel
theorem dX4_nearestTo_75 : decode cX4_nearestTo 75 = .ok (.iload 5, 2) := by decide +kernel
theorem dX4_nearestTo_77 : decode cX4_nearestTo 77 = .ok (.invokevirtual 138, 3) := by decide +kernel
theorem dX4_nearestTo_80 : decode cX4_nearestTo 80 = .ok (.iadd, 1) := by decide +kernel
theorem dX4_nearestTo_81 : decode cX4_nearestTo 81 = .ok (.istore 4, 2) := by decide +kernel
theorem dX4_nearestTo_83 : decode cX4_nearestTo 83 = .ok (.iinc 5 1, 3) := by decide +kernel
theorem dX4_nearestTo_86 : decode cX4_nearestTo 86 = .ok (.goto (-74), 3) := by decide +kernel
theorem dX4_nearestTo_89 : decode cX4_nearestTo 89 = .ok (.iload_n 2, 1) := by decide +kernel
theorem dX4_nearestTo_90 : decode cX4_nearestTo 90 = .ok (.ireturn, 1) := by decide +kernel
theorem dX4_massToNext_0 : decode cX4_massToNext 0 = .ok (.iconst 0, 1) := by decide +kernel
theorem dX4_massToNext_1 : decode cX4_massToNext 1 = .ok (.istore_n 2, 1) := by decide +kernel
theorem dX4_massToNext_2 : decode cX4_massToNext 2 = .ok (.iconst 0, 1) := by decide +kernel
theorem dX4_massToNext_3 : decode cX4_massToNext 3 = .ok (.istore_n 3, 1) := by decide +kernel
theorem dX4_massToNext_4 : decode cX4_massToNext 4 = .ok (.iload_n 3, 1) := by decide +kernel
theorem dX4_massToNext_5 : decode cX4_massToNext 5 = .ok (.aload_n 0, 1) := by decide +kernel
theorem dX4_massToNext_6 : decode cX4_massToNext 6 = .ok (.getfield 43, 3) := by decide +kernel
theorem dX4_massToNext_9 : decode cX4_massToNext 9 = .ok (.if_icmp .ge 27, 3) := by decide +kernel
theorem dX4_massToNext_12 : decode cX4_massToNext 12 = .ok (.iload_n 1, 1) := by decide +kernel
theorem dX4_massToNext_13 : decode cX4_massToNext 13 = .ok (.iload_n 3, 1) := by decide +kernel
theorem dX4_massToNext_14 : decode cX4_massToNext 14 = .ok (.ishr, 1) := by decide +kernel
theorem dX4_massToNext_15 : decode cX4_massToNext 15 = .ok (.iconst 1, 1) := by decide +kernel
theorem dX4_massToNext_16 : decode cX4_massToNext 16 = .ok (.iand, 1) := by decide +kernel
theorem dX4_massToNext_17 : decode cX4_massToNext 17 = .ok (.iconst 1, 1) := by decide +kernel
theorem dX4_massToNext_18 : decode cX4_massToNext 18 = .ok (.if_icmp .ne 18, 3) := by decide +kernel
theorem dX4_massToNext_21 : decode cX4_massToNext 21 = .ok (.iload_n 2, 1) := by decide +kernel
theorem dX4_massToNext_22 : decode cX4_massToNext 22 = .ok (.aload_n 0, 1) := by decide +kernel
theorem dX4_massToNext_23 : decode cX4_massToNext 23 = .ok (.getfield 23, 3) := by decide +kernel
theorem dX4_massToNext_26 : decode cX4_massToNext 26 = .ok (.iload_n 3, 1) := by decide +kernel
theorem dX4_massToNext_27 : decode cX4_massToNext 27 = .ok (.iaload, 1) := by decide +kernel
theorem dX4_massToNext_28 : decode cX4_massToNext 28 = .ok (.isub, 1) := by decide +kernel
theorem dX4_massToNext_29 : decode cX4_massToNext 29 = .ok (.istore_n 2, 1) := by decide +kernel
theorem dX4_massToNext_30 : decode cX4_massToNext 30 = .ok (.iinc 3 1, 3) := by decide +kernel
theorem dX4_massToNext_33 : decode cX4_massToNext 33 = .ok (.goto (-29), 3) := by decide +kernel
theorem dX4_massToNext_36 : decode cX4_massToNext 36 = .ok (.iload_n 3, 1) := by decide +kernel
theorem dX4_massToNext_37 : decode cX4_massToNext 37 = .ok (.aload_n 0, 1) := by decide +kernel
theorem dX4_massToNext_38 : decode cX4_massToNext 38 = .ok (.getfield 43, 3) := by decide +kernel
theorem dX4_massToNext_41 : decode cX4_massToNext 41 = .ok (.if_icmp .ge 14, 3) := by decide +kernel
theorem dX4_massToNext_44 : decode cX4_massToNext 44 = .ok (.iload_n 2, 1) := by decide +kernel
theorem dX4_massToNext_45 : decode cX4_massToNext 45 = .ok (.aload_n 0, 1) := by decide +kernel
theorem dX4_massToNext_46 : decode cX4_massToNext 46 = .ok (.getfield 23, 3) := by decide +kernel
theorem dX4_massToNext_49 : decode cX4_massToNext 49 = .ok (.iload_n 3, 1) := by decide +kernel
theorem dX4_massToNext_50 : decode cX4_massToNext 50 = .ok (.iaload, 1) := by decide +kernel
theorem dX4_massToNext_51 : decode cX4_massToNext 51 = .ok (.iadd, 1) := by decide +kernel
theorem dX4_massToNext_52 : decode cX4_massToNext 52 = .ok (.goto 4, 3) := by decide +kernel
theorem dX4_massToNext_55 : decode cX4_massToNext 55 = .ok (.iload_n 2, 1) := by decide +kernel
theorem dX4_massToNext_56 : decode cX4_massToNext 56 = .ok (.ireturn, 1) := by decide +kernel
theorem dX4_moveHands_0 : decode cX4_moveHands 0 = .ok (.aload_n 0, 1) := by decide +kernel
theorem dX4_moveHands_1 : decode cX4_moveHands 1 = .ok (.invokevirtual 77, 3) := by decide +kernel
theorem dX4_moveHands_4 : decode cX4_moveHands 4 = .ok (.istore_n 1, 1) := by decide +kernel
theorem dX4_moveHands_5 : decode cX4_moveHands 5 = .ok (.iconst 0, 1) := by decide +kernel
theorem dX4_moveHands_6 : decode cX4_moveHands 6 = .ok (.istore_n 2, 1) := by decide +kernel
theorem dX4_moveHands_7 : decode cX4_moveHands 7 = .ok (.iload_n 2, 1) := by decide +kernel
theorem dX4_moveHands_8 : decode cX4_moveHands 8 = .ok (.aload_n 0, 1) := by decide +kernel
theorem dX4_moveHands_9 : decode cX4_moveHands 9 = .ok (.getfield 50, 3) := by decide +kernel
theorem dX4_moveHands_12 : decode cX4_moveHands 12 = .ok (.if_icmp .ge 19, 3) := by decide +kernel
theorem dX4_moveHands_15 : decode cX4_moveHands 15 = .ok (.aload_n 0, 1) := by decide +kernel
theorem dX4_moveHands_16 : decode cX4_moveHands 16 = .ok (.getfield 28, 3) := by decide +kernel
theorem dX4_moveHands_19 : decode cX4_moveHands 19 = .ok (.iload_n 2, 1) := by decide +kernel
theorem dX4_moveHands_20 : decode cX4_moveHands 20 = .ok (.aaload, 1) := by decide +kernel
theorem dX4_moveHands_21 : decode cX4_moveHands 21 = .ok (.iload_n 1, 1) := by decide +kernel
theorem dX4_moveHands_22 : decode cX4_moveHands 22 = .ok (.invokevirtual 80, 3) := by decide +kernel
theorem dX4_moveHands_25 : decode cX4_moveHands 25 = .ok (.iinc 2 1, 3) := by decide +kernel
theorem dX4_moveHands_28 : decode cX4_moveHands 28 = .ok (.goto (-21), 3) := by decide +kernel
theorem dX4_moveHands_31 : decode cX4_moveHands 31 = .ok (.iload_n 1, 1) := by decide +kernel
theorem dX4_moveHands_32 : decode cX4_moveHands 32 = .ok (.ireturn, 1) := by decide +kernel
theorem dX4_voidCertificates_0 : decode cX4_voidCertificates 0 = .ok (.iconst 0, 1) := by decide +kernel
theorem dX4_voidCertificates_1 : decode cX4_voidCertificates 1 = .ok (.istore_n 1, 1) := by decide +kernel
theorem dX4_voidCertificates_2 : decode cX4_voidCertificates 2 = .ok (.iload_n 1, 1) := by decide +kernel
theorem dX4_voidCertificates_3 : decode cX4_voidCertificates 3 = .ok (.aload_n 0, 1) := by decide +kernel
theorem dX4_voidCertificates_4 : decode cX4_voidCertificates 4 = .ok (.getfield 50, 3) := by decide +kernel
theorem dX4_voidCertificates_7 : decode cX4_voidCertificates 7 = .ok (.if_icmp .ge 19, 3) := by decide +kernel
theorem dX4_voidCertificates_10 : decode cX4_voidCertificates 10 = .ok (.aload_n 0, 1) := by decide +kernel
theorem dX4_voidCertificates_11 : decode cX4_voidCertificates 11 = .ok (.getfield 28, 3) := by decide +kernel
theorem dX4_voidCertificates_14 : decode cX4_voidCertificates 14 = .ok (.iload_n 1, 1) := by decide +kernel
theorem dX4_voidCertificates_15 : decode cX4_voidCertificates 15 = .ok (.aaload, 1) := by decide +kernel
theorem dX4_voidCertificates_16 : decode cX4_voidCertificates 16 = .ok (.aconst_null, 1) := by decide +kernel
theorem dX4_voidCertificates_17 : decode cX4_voidCertificates 17 = .ok (.putfield 91, 3) := by decide +kernel
theorem dX4_voidCertificates_20 : decode cX4_voidCertificates 20 = .ok (.iinc 1 1, 3) := by decide +kernel
theorem dX4_voidCertificates_23 : decode cX4_voidCertificates 23 = .ok (.goto (-21), 3) := by decide +kernel
theorem dX4_voidCertificates_26 : decode cX4_voidCertificates 26 = .ok (.return_, 1) := by decide +kernel
theorem dX5_init_0 : decode cX5_init 0 = .ok (.aload_n 0, 1) := by decide +kernel
theorem dX5_init_1 : decode cX5_init 1 = .ok (.invokespecial 3, 3) := by decide +kernel
theorem dX5_init_4 : decode cX5_init 4 = .ok (.aload_n 0, 1) := by decide +kernel
theorem dX5_init_5 : decode cX5_init 5 = .ok (.bipush 28, 2) := by decide +kernel
theorem dX5_init_7 : decode cX5_init 7 = .ok (.newarray .int, 2) := by decide +kernel
theorem dX5_init_9 : decode cX5_init 9 = .ok (.putfield 9, 3) := by decide +kernel
theorem dX5_init_12 : decode cX5_init 12 = .ok (.aload_n 0, 1) := by decide +kernel
theorem dX5_init_13 : decode cX5_init 13 = .ok (.new 15, 3) := by decide +kernel
theorem dX5_init_16 : decode cX5_init 16 = .ok (.dup, 1) := by decide +kernel
theorem dX5_init_17 : decode cX5_init 17 = .ok (.invokespecial 17, 3) := by decide +kernel
theorem dX5_init_20 : decode cX5_init 20 = .ok (.putfield 18, 3) := by decide +kernel
theorem dX5_init_23 : decode cX5_init 23 = .ok (.aload_n 0, 1) := by decide +kernel
theorem dX5_init_24 : decode cX5_init 24 = .ok (.bipush 14, 2) := by decide +kernel
theorem dX5_init_26 : decode cX5_init 26 = .ok (.newarray .int, 2) := by decide +kernel
theorem dX5_init_28 : decode cX5_init 28 = .ok (.putfield 22, 3) := by decide +kernel
theorem dX5_init_31 : decode cX5_init 31 = .ok (.aload_n 0, 1) := by decide +kernel
theorem dX5_init_32 : decode cX5_init 32 = .ok (.bipush 15, 2) := by decide +kernel
theorem dX5_init_34 : decode cX5_init 34 = .ok (.newarray .int, 2) := by decide +kernel
theorem dX5_init_36 : decode cX5_init 36 = .ok (.putfield 25, 3) := by decide +kernel
theorem dX5_init_39 : decode cX5_init 39 = .ok (.return_, 1) := by decide +kernel
theorem dX5_prepare_0 : decode cX5_prepare 0 = .ok (.aload_n 1, 1) := by decide +kernel
theorem dX5_prepare_1 : decode cX5_prepare 1 = .ok (.getfield 28, 3) := by decide +kernel
theorem dX5_prepare_4 : decode cX5_prepare 4 = .ok (.istore_n 2, 1) := by decide +kernel
theorem dX5_prepare_5 : decode cX5_prepare 5 = .ok (.iconst 0, 1) := by decide +kernel
theorem dX5_prepare_6 : decode cX5_prepare 6 = .ok (.istore_n 3, 1) := by decide +kernel
theorem dX5_prepare_7 : decode cX5_prepare 7 = .ok (.iload_n 3, 1) := by decide +kernel
theorem dX5_prepare_8 : decode cX5_prepare 8 = .ok (.iload_n 2, 1) := by decide +kernel
theorem dX5_prepare_9 : decode cX5_prepare 9 = .ok (.if_icmp .ge 25, 3) := by decide +kernel
theorem dX5_prepare_12 : decode cX5_prepare 12 = .ok (.aload_n 0, 1) := by decide +kernel
theorem dX5_prepare_13 : decode cX5_prepare 13 = .ok (.getfield 22, 3) := by decide +kernel
theorem dX5_prepare_16 : decode cX5_prepare 16 = .ok (.aload_n 1, 1) := by decide +kernel
theorem dX5_prepare_17 : decode cX5_prepare 17 = .ok (.iload_n 3, 1) := by decide +kernel
theorem dX5_prepare_18 : decode cX5_prepare 18 = .ok (.invokevirtual 34, 3) := by decide +kernel
theorem dX5_prepare_21 : decode cX5_prepare 21 = .ok (.aload_n 1, 1) := by decide +kernel
theorem dX5_prepare_22 : decode cX5_prepare 22 = .ok (.getfield 38, 3) := by decide +kernel
theorem dX5_prepare_25 : decode cX5_prepare 25 = .ok (.iload_n 3, 1) := by decide +kernel
theorem dX5_prepare_26 : decode cX5_prepare 26 = .ok (.iaload, 1) := by decide +kernel
theorem dX5_prepare_27 : decode cX5_prepare 27 = .ok (.iastore, 1) := by decide +kernel
theorem dX5_prepare_28 : decode cX5_prepare 28 = .ok (.iinc 3 1, 3) := by decide +kernel
theorem dX5_prepare_31 : decode cX5_prepare 31 = .ok (.goto (-24), 3) := by decide +kernel
theorem dX5_prepare_34 : decode cX5_prepare 34 = .ok (.bipush 100, 2) := by decide +kernel
theorem dX5_prepare_36 : decode cX5_prepare 36 = .ok (.istore_n 3, 1) := by decide +kernel
theorem dX5_prepare_37 : decode cX5_prepare 37 = .ok (.aload_n 0, 1) := by decide +kernel
theorem dX5_prepare_38 : decode cX5_prepare 38 = .ok (.getfield 25, 3) := by decide +kernel
theorem dX5_prepare_41 : decode cX5_prepare 41 = .ok (.iconst 0, 1) := by decide +kernel
theorem dX5_prepare_42 : decode cX5_prepare 42 = .ok (.aload_n 1, 1) := by decide +kernel
theorem dX5_prepare_43 : decode cX5_prepare 43 = .ok (.iload_n 3, 1) := by decide +kernel
theorem dX5_prepare_44 : decode cX5_prepare 44 = .ok (.aload_n 1, 1) := by decide +kernel
theorem dX5_prepare_45 : decode cX5_prepare 45 = .ok (.getfield 41, 3) := by decide +kernel
theorem dX5_prepare_48 : decode cX5_prepare 48 = .ok (.iconst 0, 1) := by decide +kernel
theorem dX5_prepare_49 : decode cX5_prepare 49 = .ok (.iaload, 1) := by decide +kernel
theorem dX5_prepare_50 : decode cX5_prepare 50 = .ok (.invokevirtual 44, 3) := by decide +kernel
theorem dX5_prepare_53 : decode cX5_prepare 53 = .ok (.iastore, 1) := by decide +kernel
theorem dX5_prepare_54 : decode cX5_prepare 54 = .ok (.iconst 0, 1) := by decide +kernel
theorem dX5_prepare_55 : decode cX5_prepare 55 = .ok (.istore 4, 2) := by decide +kernel
theorem dX5_prepare_57 : decode cX5_prepare 57 = .ok (.iload 4, 2) := by decide +kernel
theorem dX5_prepare_59 : decode cX5_prepare 59 = .ok (.iload_n 2, 1) := by decide +kernel
theorem dX5_prepare_60 : decode cX5_prepare 60 = .ok (.if_icmp .ge 39, 3) := by decide +kernel
theorem dX5_prepare_63 : decode cX5_prepare 63 = .ok (.iload_n 3, 1) := by decide +kernel
theorem dX5_prepare_64 : decode cX5_prepare 64 = .ok (.aload_n 0, 1) := by decide +kernel
theorem dX5_prepare_65 : decode cX5_prepare 65 = .ok (.getfield 22, 3) := by decide +kernel
theorem dX5_prepare_68 : decode cX5_prepare 68 = .ok (.iload 4, 2) := by decide +kernel
theorem dX5_prepare_70 : decode cX5_prepare 70 = .ok (.iaload, 1) := by decide +kernel
theorem dX5_prepare_71 : decode cX5_prepare 71 = .ok (.iadd, 1) := by decide +kernel
theorem dX5_prepare_72 : decode cX5_prepare 72 = .ok (.istore_n 3, 1) := by decide +kernel
theorem dX5_prepare_73 : decode cX5_prepare 73 = .ok (.aload_n 0, 1) := by decide +kernel
theorem dX5_prepare_74 : decode cX5_prepare 74 = .ok (.getfield 25, 3) := by decide +kernel
theorem dX5_prepare_77 : decode cX5_prepare 77 = .ok (.iload 4, 2) := by decide +kernel
theorem dX5_prepare_79 : decode cX5_prepare 79 = .ok (.iconst 1, 1) := by decide +kernel
theorem dX5_prepare_80 : decode cX5_prepare 80 = .ok (.iadd, 1) := by decide +kernel
theorem dX5_prepare_81 : decode cX5_prepare 81 = .ok (.aload_n 1, 1) := by decide +kernel
theorem dX5_prepare_82 : decode cX5_prepare 82 = .ok (.iload_n 3, 1) := by decide +kernel
theorem dX5_prepare_83 : decode cX5_prepare 83 = .ok (.aload_n 1, 1) := by decide +kernel
theorem dX5_prepare_84 : decode cX5_prepare 84 = .ok (.getfield 41, 3) := by decide +kernel
theorem dX5_prepare_87 : decode cX5_prepare 87 = .ok (.iconst 0, 1) := by decide +kernel
theorem dX5_prepare_88 : decode cX5_prepare 88 = .ok (.iaload, 1) := by decide +kernel
theorem dX5_prepare_89 : decode cX5_prepare 89 = .ok (.invokevirtual 44, 3) := by decide +kernel
theorem dX5_prepare_92 : decode cX5_prepare 92 = .ok (.iastore, 1) := by decide +kernel
theorem dX5_prepare_93 : decode cX5_prepare 93 = .ok (.iinc 4 1, 3) := by decide +kernel
theorem dX5_prepare_96 : decode cX5_prepare 96 = .ok (.goto (-39), 3) := by decide +kernel
theorem dX5_prepare_99 : decode cX5_prepare 99 = .ok (.aload_n 0, 1) := by decide +kernel
theorem dX5_prepare_100 : decode cX5_prepare 100 = .ok (.iconst 2, 1) := by decide +kernel
theorem dX5_prepare_101 : decode cX5_prepare 101 = .ok (.iload_n 2, 1) := by decide +kernel
theorem dX5_prepare_102 : decode cX5_prepare 102 = .ok (.imul, 1) := by decide +kernel
theorem dX5_prepare_103 : decode cX5_prepare 103 = .ok (.putfield 48, 3) := by decide +kernel
theorem dX5_prepare_106 : decode cX5_prepare 106 = .ok (.return_, 1) := by decide +kernel
theorem dX5_run_0 : decode cX5_run 0 = .ok (.aload_n 0, 1) := by decide +kernel
theorem dX5_run_1 : decode cX5_run 1 = .ok (.getfield 18, 3) := by decide +kernel
theorem dX5_run_4 : decode cX5_run 4 = .ok (.iload_n 2, 1) := by decide +kernel
theorem dX5_run_5 : decode cX5_run 5 = .ok (.aload_n 1, 1) := by decide +kernel
theorem dX5_run_6 : decode cX5_run 6 = .ok (.getfield 51, 3) := by decide +kernel
theorem dX5_run_9 : decode cX5_run 9 = .ok (.aload_n 1, 1) := by decide +kernel
theorem dX5_run_10 : decode cX5_run 10 = .ok (.getfield 54, 3) := by decide +kernel
theorem dX5_run_13 : decode cX5_run 13 = .ok (.invokevirtual 57, 3) := by decide +kernel
theorem dX5_run_16 : decode cX5_run 16 = .ok (.aload_n 0, 1) := by decide +kernel
theorem dX5_run_17 : decode cX5_run 17 = .ok (.iconst 0, 1) := by decide +kernel
theorem dX5_run_18 : decode cX5_run 18 = .ok (.putfield 61, 3) := by decide +kernel
theorem dX5_run_21 : decode cX5_run 21 = .ok (.aload_n 0, 1) := by decide +kernel
theorem dX5_run_22 : decode cX5_run 22 = .ok (.iconst 0, 1) := by decide +kernel
theorem dX5_run_23 : decode cX5_run 23 = .ok (.putfield 64, 3) := by decide +kernel
theorem dX5_run_26 : decode cX5_run 26 = .ok (.iconst 0, 1) := by decide +kernel
theorem dX5_run_27 : decode cX5_run 27 = .ok (.istore_n 3, 1) := by decide +kernel
theorem dX5_run_28 : decode cX5_run 28 = .ok (.iload_n 3, 1) := by decide +kernel
theorem dX5_run_29 : decode cX5_run 29 = .ok (.aload_n 0, 1) := by decide +kernel
theorem dX5_run_30 : decode cX5_run 30 = .ok (.getfield 48, 3) := by decide +kernel
theorem dX5_run_33 : decode cX5_run 33 = .ok (.if_icmp .ge 96, 3) := by decide +kernel
theorem dX5_run_36 : decode cX5_run 36 = .ok (.aload_n 0, 1) := by decide +kernel
theorem dX5_run_37 : decode cX5_run 37 = .ok (.getfield 25, 3) := by decide +kernel
theorem dX5_run_40 : decode cX5_run 40 = .ok (.iload_n 3, 1) := by decide +kernel
theorem dX5_run_41 : decode cX5_run 41 = .ok (.aload_n 0, 1) := by decide +kernel
theorem dX5_run_42 : decode cX5_run 42 = .ok (.getfield 48, 3) := by decide +kernel
theorem dX5_run_45 : decode cX5_run 45 = .ok (.iconst 2, 1) := by decide +kernel
theorem dX5_run_46 : decode cX5_run 46 = .ok (.idiv, 1) := by decide +kernel
theorem dX5_run_47 : decode cX5_run 47 = .ok (.if_icmp .ge 9, 3) := by decide +kernel
theorem dX5_run_50 : decode cX5_run 50 = .ok (.iload_n 3, 1) := by decide +kernel
theorem dX5_run_51 : decode cX5_run 51 = .ok (.iconst 1, 1) := by decide +kernel
theorem dX5_run_52 : decode cX5_run 52 = .ok (.iadd, 1) := by decide +kernel
theorem dX5_run_53 : decode cX5_run 53 = .ok (.goto 11, 3) := by decide +kernel
theorem dX5_run_56 : decode cX5_run 56 = .ok (.aload_n 0, 1) := by decide +kernel
theorem dX5_run_57 : decode cX5_run 57 = .ok (.getfield 48, 3) := by decide +kernel
theorem dX5_run_60 : decode cX5_run 60 = .ok (.iconst 1, 1) := by decide +kernel
theorem dX5_run_61 : decode cX5_run 61 = .ok (.isub, 1) := by decide +kernel
theorem dX5_run_62 : decode cX5_run 62 = .ok (.iload_n 3, 1) := by decide +kernel
theorem dX5_run_63 : decode cX5_run 63 = .ok (.isub, 1) := by decide +kernel
theorem dX5_run_64 : decode cX5_run 64 = .ok (.iaload, 1) := by decide +kernel
theorem dX5_run_65 : decode cX5_run 65 = .ok (.istore 4, 2) := by decide +kernel
theorem dX5_run_67 : decode cX5_run 67 = .ok (.aload_n 0, 1) := by decide +kernel
theorem dX5_run_68 : decode cX5_run 68 = .ok (.getfield 18, 3) := by decide +kernel
theorem dX5_run_71 : decode cX5_run 71 = .ok (.iload 4, 2) := by decide +kernel
theorem dX5_run_73 : decode cX5_run 73 = .ok (.invokevirtual 67, 3) := by decide +kernel
theorem dX5_run_76 : decode cX5_run 76 = .ok (.aload_n 0, 1) := by decide +kernel
theorem dX5_run_77 : decode cX5_run 77 = .ok (.getfield 9, 3) := by decide +kernel
theorem dX5_run_80 : decode cX5_run 80 = .ok (.iload_n 3, 1) := by decide +kernel
theorem dX5_run_81 : decode cX5_run 81 = .ok (.aload_n 0, 1) := by decide +kernel
theorem dX5_run_82 : decode cX5_run 82 = .ok (.getfield 18, 3) := by decide +kernel
theorem dX5_run_85 : decode cX5_run 85 = .ok (.invokevirtual 71, 3) := by decide +kernel
theorem dX5_run_88 : decode cX5_run 88 = .ok (.iastore, 1) := by decide +kernel
theorem dX5_run_89 : decode cX5_run 89 = .ok (.aload_n 0, 1) := by decide +kernel
theorem dX5_run_90 : decode cX5_run 90 = .ok (.getfield 9, 3) := by decide +kernel
theorem dX5_run_93 : decode cX5_run 93 = .ok (.iload_n 3, 1) := by decide +kernel
theorem dX5_run_94 : decode cX5_run 94 = .ok (.iaload, 1) := by decide +kernel
theorem dX5_run_95 : decode cX5_run 95 = .ok (.iload 4, 2) := by decide +kernel
theorem dX5_run_97 : decode cX5_run 97 = .ok (.isub, 1) := by decide +kernel
theorem dX5_run_98 : decode cX5_run 98 = .ok (.invokestatic 75, 3) := by decide +kernel
theorem dX5_run_101 : decode cX5_run 101 = .ok (.istore 5, 2) := by decide +kernel
theorem dX5_run_103 : decode cX5_run 103 = .ok (.iload 5, 2) := by decide +kernel
theorem dX5_run_105 : decode cX5_run 105 = .ok (.aload_n 0, 1) := by decide +kernel
theorem dX5_run_106 : decode cX5_run 106 = .ok (.getfield 61, 3) := by decide +kernel
theorem dX5_run_109 : decode cX5_run 109 = .ok (.if_icmp .le 14, 3) := by decide +kernel
theorem dX5_run_112 : decode cX5_run 112 = .ok (.aload_n 0, 1) := by decide +kernel
theorem dX5_run_113 : decode cX5_run 113 = .ok (.iload 5, 2) := by decide +kernel
theorem dX5_run_115 : decode cX5_run 115 = .ok (.putfield 61, 3) := by decide +kernel
theorem dX5_run_118 : decode cX5_run 118 = .ok (.aload_n 0, 1) := by decide +kernel
theorem dX5_run_119 : decode cX5_run 119 = .ok (.iload_n 3, 1) := by decide +kernel
theorem dX5_run_120 : decode cX5_run 120 = .ok (.putfield 64, 3) := by decide +kernel
theorem dX5_run_123 : decode cX5_run 123 = .ok (.iinc 3 1, 3) := by decide +kernel
theorem dX5_run_126 : decode cX5_run 126 = .ok (.goto (-98), 3) := by decide +kernel
theorem dX5_run_129 : decode cX5_run 129 = .ok (.return_, 1) := by decide +kernel
theorem dX6_init_0 : decode cX6_init 0 = .ok (.aload_n 0, 1) := by decide +kernel
theorem dX6_init_1 : decode cX6_init 1 = .ok (.invokespecial 1, 3) := by decide +kernel
theorem dX6_init_4 : decode cX6_init 4 = .ok (.aload_n 0, 1) := by decide +kernel
theorem dX6_init_5 : decode cX6_init 5 = .ok (.new 7, 3) := by decide +kernel
theorem dX6_init_8 : decode cX6_init 8 = .ok (.dup, 1) := by decide +kernel
theorem dX6_init_9 : decode cX6_init 9 = .ok (.invokespecial 9, 3) := by decide +kernel
theorem dX6_init_12 : decode cX6_init 12 = .ok (.putfield 10, 3) := by decide +kernel
theorem dX6_init_15 : decode cX6_init 15 = .ok (.aload_n 0, 1) := by decide +kernel
theorem dX6_init_16 : decode cX6_init 16 = .ok (.new 16, 3) := by decide +kernel
theorem dX6_init_19 : decode cX6_init 19 = .ok (.dup, 1) := by decide +kernel
theorem dX6_init_20 : decode cX6_init 20 = .ok (.invokespecial 18, 3) := by decide +kernel
theorem dX6_init_23 : decode cX6_init 23 = .ok (.putfield 19, 3) := by decide +kernel
theorem dX6_init_26 : decode cX6_init 26 = .ok (.aload_n 0, 1) := by decide +kernel
theorem dX6_init_27 : decode cX6_init 27 = .ok (.iconst 2, 1) := by decide +kernel
theorem dX6_init_28 : decode cX6_init 28 = .ok (.anewarray 7, 3) := by decide +kernel
theorem dX6_init_31 : decode cX6_init 31 = .ok (.putfield 23, 3) := by decide +kernel
theorem dX6_init_34 : decode cX6_init 34 = .ok (.aload_n 0, 1) := by decide +kernel
theorem dX6_init_35 : decode cX6_init 35 = .ok (.new 27, 3) := by decide +kernel
theorem dX6_init_38 : decode cX6_init 38 = .ok (.dup, 1) := by decide +kernel
theorem dX6_init_39 : decode cX6_init 39 = .ok (.invokespecial 29, 3) := by decide +kernel
theorem dX6_init_42 : decode cX6_init 42 = .ok (.putfield 30, 3) := by decide +kernel
theorem dX6_init_45 : decode cX6_init 45 = .ok (.aload_n 0, 1) := by decide +kernel
theorem dX6_init_46 : decode cX6_init 46 = .ok (.new 34, 3) := by decide +kernel
theorem dX6_init_49 : decode cX6_init 49 = .ok (.dup, 1) := by decide +kernel
theorem dX6_init_50 : decode cX6_init 50 = .ok (.invokespecial 36, 3) := by decide +kernel
theorem dX6_init_53 : decode cX6_init 53 = .ok (.putfield 37, 3) := by decide +kernel
theorem dX6_init_56 : decode cX6_init 56 = .ok (.return_, 1) := by decide +kernel
theorem dX6_set_0 : decode cX6_set 0 = .ok (.aload_n 0, 1) := by decide +kernel
theorem dX6_set_1 : decode cX6_set 1 = .ok (.getfield 19, 3) := by decide +kernel
theorem dX6_set_4 : decode cX6_set 4 = .ok (.aload_n 0, 1) := by decide +kernel
theorem dX6_set_5 : decode cX6_set 5 = .ok (.getfield 10, 3) := by decide +kernel
theorem dX6_set_8 : decode cX6_set 8 = .ok (.invokevirtual 41, 3) := by decide +kernel
theorem dX6_set_11 : decode cX6_set 11 = .ok (.aload_n 0, 1) := by decide +kernel
theorem dX6_set_12 : decode cX6_set 12 = .ok (.getfield 19, 3) := by decide +kernel
theorem dX6_set_15 : decode cX6_set 15 = .ok (.aload_n 0, 1) := by decide +kernel
theorem dX6_set_16 : decode cX6_set 16 = .ok (.getfield 10, 3) := by decide +kernel
theorem dX6_set_19 : decode cX6_set 19 = .ok (.iload_n 1, 1) := by decide +kernel
theorem dX6_set_20 : decode cX6_set 20 = .ok (.iload_n 2, 1) := by decide +kernel
theorem dX6_set_21 : decode cX6_set 21 = .ok (.invokevirtual 45, 3) := by decide +kernel
theorem dX6_set_24 : decode cX6_set 24 = .ok (.invokevirtual 49, 3) := by decide +kernel
theorem dX6_set_27 : decode cX6_set 27 = .ok (.ireturn, 1) := by decide +kernel
theorem dX6_ring_0 : decode cX6_ring 0 = .ok (.aload_n 0, 1) := by decide +kernel
theorem dX6_ring_1 : decode cX6_ring 1 = .ok (.getfield 19, 3) := by decide +kernel
theorem dX6_ring_4 : decode cX6_ring 4 = .ok (.aload_n 0, 1) := by decide +kernel
theorem dX6_ring_5 : decode cX6_ring 5 = .ok (.getfield 10, 3) := by decide +kernel
theorem dX6_ring_8 : decode cX6_ring 8 = .ok (.invokevirtual 41, 3) := by decide +kernel
theorem dX6_ring_11 : decode cX6_ring 11 = .ok (.aload_n 0, 1) := by decide +kernel
theorem dX6_ring_12 : decode cX6_ring 12 = .ok (.getfield 19, 3) := by decide +kernel
theorem dX6_ring_15 : decode cX6_ring 15 = .ok (.aload_n 0, 1) := by decide +kernel
theorem dX6_ring_16 : decode cX6_ring 16 = .ok (.getfield 10, 3) := by decide +kernel
theorem dX6_ring_19 : decode cX6_ring 19 = .ok (.iload_n 1, 1) := by decide +kernel
theorem dX6_ring_20 : decode cX6_ring 20 = .ok (.invokevirtual 53, 3) := by decide +kernel
theorem dX6_ring_23 : decode cX6_ring 23 = .ok (.invokevirtual 49, 3) := by decide +kernel
theorem dX6_ring_26 : decode cX6_ring 26 = .ok (.ireturn, 1) := by decide +kernel
theorem dX6_lose_0 : decode cX6_lose 0 = .ok (.aload_n 0, 1) := by decide +kernel
theorem dX6_lose_1 : decode cX6_lose 1 = .ok (.getfield 19, 3) := by decide +kernel
theorem dX6_lose_4 : decode cX6_lose 4 = .ok (.aload_n 0, 1) := by decide +kernel
theorem dX6_lose_5 : decode cX6_lose 5 = .ok (.getfield 10, 3) := by decide +kernel
theorem dX6_lose_8 : decode cX6_lose 8 = .ok (.invokevirtual 41, 3) := by decide +kernel
theorem dX6_lose_11 : decode cX6_lose 11 = .ok (.aload_n 0, 1) := by decide +kernel
theorem dX6_lose_12 : decode cX6_lose 12 = .ok (.getfield 19, 3) := by decide +kernel
theorem dX6_lose_15 : decode cX6_lose 15 = .ok (.aload_n 0, 1) := by decide +kernel
theorem dX6_lose_16 : decode cX6_lose 16 = .ok (.getfield 10, 3) := by decide +kernel
theorem dX6_lose_19 : decode cX6_lose 19 = .ok (.invokevirtual 56, 3) := by decide +kernel
theorem dX6_lose_22 : decode cX6_lose 22 = .ok (.invokevirtual 49, 3) := by decide +kernel
theorem dX6_lose_25 : decode cX6_lose 25 = .ok (.ireturn, 1) := by decide +kernel
theorem dX6_stack_0 : decode cX6_stack 0 = .ok (.aload_n 0, 1) := by decide +kernel
theorem dX6_stack_1 : decode cX6_stack 1 = .ok (.getfield 19, 3) := by decide +kernel
theorem dX6_stack_4 : decode cX6_stack 4 = .ok (.aload_n 0, 1) := by decide +kernel
theorem dX6_stack_5 : decode cX6_stack 5 = .ok (.getfield 10, 3) := by decide +kernel
theorem dX6_stack_8 : decode cX6_stack 8 = .ok (.invokevirtual 41, 3) := by decide +kernel
theorem dX6_stack_11 : decode cX6_stack 11 = .ok (.aload_n 0, 1) := by decide +kernel
theorem dX6_stack_12 : decode cX6_stack 12 = .ok (.getfield 19, 3) := by decide +kernel
theorem dX6_stack_15 : decode cX6_stack 15 = .ok (.aload_n 0, 1) := by decide +kernel
theorem dX6_stack_16 : decode cX6_stack 16 = .ok (.getfield 10, 3) := by decide +kernel
theorem dX6_stack_19 : decode cX6_stack 19 = .ok (.iload_n 1, 1) := by decide +kernel
theorem dX6_stack_20 : decode cX6_stack 20 = .ok (.invokevirtual 60, 3) := by decide +kernel
theorem dX6_stack_23 : decode cX6_stack 23 = .ok (.invokevirtual 49, 3) := by decide +kernel
theorem dX6_stack_26 : decode cX6_stack 26 = .ok (.ireturn, 1) := by decide +kernel
theorem dX6_take_0 : decode cX6_take 0 = .ok (.aload_n 0, 1) := by decide +kernel
theorem dX6_take_1 : decode cX6_take 1 = .ok (.getfield 19, 3) := by decide +kernel
theorem dX6_take_4 : decode cX6_take 4 = .ok (.aload_n 0, 1) := by decide +kernel
theorem dX6_take_5 : decode cX6_take 5 = .ok (.getfield 10, 3) := by decide +kernel
theorem dX6_take_8 : decode cX6_take 8 = .ok (.invokevirtual 41, 3) := by decide +kernel
theorem dX6_take_11 : decode cX6_take 11 = .ok (.aload_n 0, 1) := by decide +kernel
theorem dX6_take_12 : decode cX6_take 12 = .ok (.getfield 19, 3) := by decide +kernel
theorem dX6_take_15 : decode cX6_take 15 = .ok (.aload_n 0, 1) := by decide +kernel
theorem dX6_take_16 : decode cX6_take 16 = .ok (.getfield 10, 3) := by decide +kernel
theorem dX6_take_19 : decode cX6_take 19 = .ok (.iload_n 1, 1) := by decide +kernel
theorem dX6_take_20 : decode cX6_take 20 = .ok (.invokevirtual 63, 3) := by decide +kernel
theorem dX6_take_23 : decode cX6_take 23 = .ok (.invokevirtual 49, 3) := by decide +kernel
theorem dX6_take_26 : decode cX6_take 26 = .ok (.ireturn, 1) := by decide +kernel
theorem dX6_gauge_0 : decode cX6_gauge 0 = .ok (.aload_n 0, 1) := by decide +kernel
theorem dX6_gauge_1 : decode cX6_gauge 1 = .ok (.getfield 19, 3) := by decide +kernel
theorem dX6_gauge_4 : decode cX6_gauge 4 = .ok (.aload_n 0, 1) := by decide +kernel
theorem dX6_gauge_5 : decode cX6_gauge 5 = .ok (.getfield 10, 3) := by decide +kernel
theorem dX6_gauge_8 : decode cX6_gauge 8 = .ok (.invokevirtual 41, 3) := by decide +kernel
theorem dX6_gauge_11 : decode cX6_gauge 11 = .ok (.aload_n 0, 1) := by decide +kernel
theorem dX6_gauge_12 : decode cX6_gauge 12 = .ok (.getfield 19, 3) := by decide +kernel
theorem dX6_gauge_15 : decode cX6_gauge 15 = .ok (.aload_n 0, 1) := by decide +kernel
theorem dX6_gauge_16 : decode cX6_gauge 16 = .ok (.getfield 10, 3) := by decide +kernel
theorem dX6_gauge_19 : decode cX6_gauge 19 = .ok (.iload_n 1, 1) := by decide +kernel
theorem dX6_gauge_20 : decode cX6_gauge 20 = .ok (.iload_n 2, 1) := by decide +kernel
theorem dX6_gauge_21 : decode cX6_gauge 21 = .ok (.iload_n 3, 1) := by decide +kernel
theorem dX6_gauge_22 : decode cX6_gauge 22 = .ok (.invokevirtual 66, 3) := by decide +kernel
theorem dX6_gauge_25 : decode cX6_gauge 25 = .ok (.invokevirtual 49, 3) := by decide +kernel
theorem dX6_gauge_28 : decode cX6_gauge 28 = .ok (.ireturn, 1) := by decide +kernel
theorem dX6_tune_0 : decode cX6_tune 0 = .ok (.aload_n 0, 1) := by decide +kernel
theorem dX6_tune_1 : decode cX6_tune 1 = .ok (.getfield 19, 3) := by decide +kernel
theorem dX6_tune_4 : decode cX6_tune 4 = .ok (.aload_n 0, 1) := by decide +kernel
theorem dX6_tune_5 : decode cX6_tune 5 = .ok (.getfield 10, 3) := by decide +kernel
theorem dX6_tune_8 : decode cX6_tune 8 = .ok (.invokevirtual 41, 3) := by decide +kernel
theorem dX6_tune_11 : decode cX6_tune 11 = .ok (.aload_n 0, 1) := by decide +kernel
theorem dX6_tune_12 : decode cX6_tune 12 = .ok (.getfield 19, 3) := by decide +kernel
theorem dX6_tune_15 : decode cX6_tune 15 = .ok (.aload_n 0, 1) := by decide +kernel
theorem dX6_tune_16 : decode cX6_tune 16 = .ok (.getfield 10, 3) := by decide +kernel
theorem dX6_tune_19 : decode cX6_tune 19 = .ok (.iload_n 1, 1) := by decide +kernel
theorem dX6_tune_20 : decode cX6_tune 20 = .ok (.iload_n 2, 1) := by decide +kernel
theorem dX6_tune_21 : decode cX6_tune 21 = .ok (.invokevirtual 70, 3) := by decide +kernel
theorem dX6_tune_24 : decode cX6_tune 24 = .ok (.invokevirtual 49, 3) := by decide +kernel
theorem dX6_tune_27 : decode cX6_tune 27 = .ok (.ireturn, 1) := by decide +kernel
theorem dX6_certify_0 : decode cX6_certify 0 = .ok (.aload_n 0, 1) := by decide +kernel
theorem dX6_certify_1 : decode cX6_certify 1 = .ok (.getfield 19, 3) := by decide +kernel
theorem dX6_certify_4 : decode cX6_certify 4 = .ok (.aload_n 0, 1) := by decide +kernel
theorem dX6_certify_5 : decode cX6_certify 5 = .ok (.getfield 10, 3) := by decide +kernel
theorem dX6_certify_8 : decode cX6_certify 8 = .ok (.invokevirtual 41, 3) := by decide +kernel
theorem dX6_certify_11 : decode cX6_certify 11 = .ok (.aload_n 0, 1) := by decide +kernel
theorem dX6_certify_12 : decode cX6_certify 12 = .ok (.getfield 19, 3) := by decide +kernel
theorem dX6_certify_15 : decode cX6_certify 15 = .ok (.aload_n 0, 1) := by decide +kernel
theorem dX6_certify_16 : decode cX6_certify 16 = .ok (.getfield 10, 3) := by decide +kernel
theorem dX6_certify_19 : decode cX6_certify 19 = .ok (.aload_n 0, 1) := by decide +kernel
theorem dX6_certify_20 : decode cX6_certify 20 = .ok (.getfield 30, 3) := by decide +kernel
theorem dX6_certify_23 : decode cX6_certify 23 = .ok (.iload_n 1, 1) := by decide +kernel
theorem dX6_certify_24 : decode cX6_certify 24 = .ok (.invokevirtual 73, 3) := by decide +kernel
theorem dX6_certify_27 : decode cX6_certify 27 = .ok (.invokevirtual 49, 3) := by decide +kernel
theorem dX6_certify_30 : decode cX6_certify 30 = .ok (.ireturn, 1) := by decide +kernel
theorem dX6_ofRing_0 : decode cX6_ofRing 0 = .ok (.aload_n 0, 1) := by decide +kernel
theorem dX6_ofRing_1 : decode cX6_ofRing 1 = .ok (.getfield 10, 3) := by decide +kernel
theorem dX6_ofRing_4 : decode cX6_ofRing 4 = .ok (.iload_n 1, 1) := by decide +kernel
theorem dX6_ofRing_5 : decode cX6_ofRing 5 = .ok (.invokevirtual 77, 3) := by decide +kernel
theorem dX6_ofRing_8 : decode cX6_ofRing 8 = .ok (.ifCond .ne 5, 3) := by decide +kernel
theorem dX6_ofRing_11 : decode cX6_ofRing 11 = .ok (.iconst (-1), 1) := by decide +kernel
theorem dX6_ofRing_12 : decode cX6_ofRing 12 = .ok (.ireturn, 1) := by decide +kernel
theorem dX6_ofRing_13 : decode cX6_ofRing 13 = .ok (.iload_n 2, 1) := by decide +kernel
theorem dX6_ofRing_14 : decode cX6_ofRing 14 = .ok (.tableswitch 62 0 2 #[26, 36, 53], 26) := by decide +kernel
theorem dX6_ofRing_40 : decode cX6_ofRing 40 = .ok (.aload_n 0, 1) := by decide +kernel
theorem dX6_ofRing_41 : decode cX6_ofRing 41 = .ok (.getfield 10, 3) := by decide +kernel
theorem dX6_ofRing_44 : decode cX6_ofRing 44 = .ok (.getfield 81, 3) := by decide +kernel
theorem dX6_ofRing_47 : decode cX6_ofRing 47 = .ok (.iload_n 1, 1) := by decide +kernel
theorem dX6_ofRing_48 : decode cX6_ofRing 48 = .ok (.iaload, 1) := by decide +kernel
theorem dX6_ofRing_49 : decode cX6_ofRing 49 = .ok (.ireturn, 1) := by decide +kernel
theorem dX6_ofRing_50 : decode cX6_ofRing 50 = .ok (.aload_n 0, 1) := by decide +kernel
theorem dX6_ofRing_51 : decode cX6_ofRing 51 = .ok (.getfield 10, 3) := by decide +kernel
theorem dX6_ofRing_54 : decode cX6_ofRing 54 = .ok (.iload_n 1, 1) := by decide +kernel
theorem dX6_ofRing_55 : decode cX6_ofRing 55 = .ok (.invokevirtual 85, 3) := by decide +kernel
theorem dX6_ofRing_58 : decode cX6_ofRing 58 = .ok (.ifCond .eq 7, 3) := by decide +kernel
theorem dX6_ofRing_61 : decode cX6_ofRing 61 = .ok (.iconst 1, 1) := by decide +kernel
theorem dX6_ofRing_62 : decode cX6_ofRing 62 = .ok (.goto 4, 3) := by decide +kernel
theorem dX6_ofRing_65 : decode cX6_ofRing 65 = .ok (.iconst 0, 1) := by decide +kernel
theorem dX6_ofRing_66 : decode cX6_ofRing 66 = .ok (.ireturn, 1) := by decide +kernel
theorem dX6_ofRing_67 : decode cX6_ofRing 67 = .ok (.aload_n 0, 1) := by decide +kernel
theorem dX6_ofRing_68 : decode cX6_ofRing 68 = .ok (.getfield 10, 3) := by decide +kernel
theorem dX6_ofRing_71 : decode cX6_ofRing 71 = .ok (.iload_n 1, 1) := by decide +kernel
theorem dX6_ofRing_72 : decode cX6_ofRing 72 = .ok (.invokevirtual 88, 3) := by decide +kernel
theorem dX6_ofRing_75 : decode cX6_ofRing 75 = .ok (.ireturn, 1) := by decide +kernel
theorem dX6_ofRing_76 : decode cX6_ofRing 76 = .ok (.bipush (-2), 2) := by decide +kernel
theorem dX6_ofRing_78 : decode cX6_ofRing 78 = .ok (.ireturn, 1) := by decide +kernel
theorem dX6_ofGauge_0 : decode cX6_ofGauge 0 = .ok (.aload_n 0, 1) := by decide +kernel
theorem dX6_ofGauge_1 : decode cX6_ofGauge 1 = .ok (.getfield 10, 3) := by decide +kernel
theorem dX6_ofGauge_4 : decode cX6_ofGauge 4 = .ok (.iload_n 1, 1) := by decide +kernel
theorem dX6_ofGauge_5 : decode cX6_ofGauge 5 = .ok (.invokevirtual 91, 3) := by decide +kernel
theorem dX6_ofGauge_8 : decode cX6_ofGauge 8 = .ok (.astore_n 3, 1) := by decide +kernel
theorem dX6_ofGauge_9 : decode cX6_ofGauge 9 = .ok (.aload_n 3, 1) := by decide +kernel
theorem dX6_ofGauge_10 : decode cX6_ofGauge 10 = .ok (.ifnonnull 7, 3) := by decide +kernel
theorem dX6_ofGauge_13 : decode cX6_ofGauge 13 = .ok (.iconst (-1), 1) := by decide +kernel
theorem dX6_ofGauge_14 : decode cX6_ofGauge 14 = .ok (.goto 8, 3) := by decide +kernel
theorem dX6_ofGauge_17 : decode cX6_ofGauge 17 = .ok (.aload_n 3, 1) := by decide +kernel
theorem dX6_ofGauge_18 : decode cX6_ofGauge 18 = .ok (.iload_n 2, 1) := by decide +kernel
theorem dX6_ofGauge_19 : decode cX6_ofGauge 19 = .ok (.invokevirtual 95, 3) := by decide +kernel
theorem dX6_ofGauge_22 : decode cX6_ofGauge 22 = .ok (.ireturn, 1) := by decide +kernel
theorem dX6_reading_0 : decode cX6_reading 0 = .ok (.aload_n 0, 1) := by decide +kernel
theorem dX6_reading_1 : decode cX6_reading 1 = .ok (.getfield 10, 3) := by decide +kernel
theorem dX6_reading_4 : decode cX6_reading 4 = .ok (.iload_n 1, 1) := by decide +kernel
theorem dX6_reading_5 : decode cX6_reading 5 = .ok (.invokevirtual 91, 3) := by decide +kernel
theorem dX6_reading_8 : decode cX6_reading 8 = .ok (.astore_n 3, 1) := by decide +kernel
theorem dX6_reading_9 : decode cX6_reading 9 = .ok (.aload_n 3, 1) := by decide +kernel
theorem dX6_reading_10 : decode cX6_reading 10 = .ok (.ifnull 10, 3) := by decide +kernel
theorem dX6_reading_13 : decode cX6_reading 13 = .ok (.aload_n 3, 1) := by decide +kernel
theorem dX6_reading_14 : decode cX6_reading 14 = .ok (.getfield 100, 3) := by decide +kernel
theorem dX6_reading_17 : decode cX6_reading 17 = .ok (.ifnonnull 5, 3) := by decide +kernel
theorem dX6_reading_20 : decode cX6_reading 20 = .ok (.iconst (-1), 1) := by decide +kernel
theorem dX6_reading_21 : decode cX6_reading 21 = .ok (.ireturn, 1) := by decide +kernel
theorem dX6_reading_22 : decode cX6_reading 22 = .ok (.aload_n 3, 1) := by decide +kernel
theorem dX6_reading_23 : decode cX6_reading 23 = .ok (.getfield 100, 3) := by decide +kernel
theorem dX6_reading_26 : decode cX6_reading 26 = .ok (.getfield 104, 3) := by decide +kernel
theorem dX6_reading_29 : decode cX6_reading 29 = .ok (.astore 4, 2) := by decide +kernel
theorem dX6_reading_31 : decode cX6_reading 31 = .ok (.iload_n 2, 1) := by decide +kernel
theorem dX6_reading_32 : decode cX6_reading 32 = .ok (.ifCond .lt 10, 3) := by decide +kernel
theorem dX6_reading_35 : decode cX6_reading 35 = .ok (.iload_n 2, 1) := by decide +kernel
theorem dX6_reading_36 : decode cX6_reading 36 = .ok (.aload 4, 2) := by decide +kernel
theorem dX6_reading_38 : decode cX6_reading 38 = .ok (.arraylength, 1) := by decide +kernel
theorem dX6_reading_39 : decode cX6_reading 39 = .ok (.if_icmp .lt 7, 3) := by decide +kernel
theorem dX6_reading_42 : decode cX6_reading 42 = .ok (.iconst (-1), 1) := by decide +kernel
theorem dX6_reading_43 : decode cX6_reading 43 = .ok (.goto 7, 3) := by decide +kernel
theorem dX6_reading_46 : decode cX6_reading 46 = .ok (.aload 4, 2) := by decide +kernel
theorem dX6_reading_48 : decode cX6_reading 48 = .ok (.iload_n 2, 1) := by decide +kernel
theorem dX6_reading_49 : decode cX6_reading 49 = .ok (.iaload, 1) := by decide +kernel
theorem dX6_reading_50 : decode cX6_reading 50 = .ok (.ireturn, 1) := by decide +kernel
theorem dX6_count_0 : decode cX6_count 0 = .ok (.iload_n 1, 1) := by decide +kernel
theorem dX6_count_1 : decode cX6_count 1 = .ok (.tableswitch 191 0 11 #[63, 71, 79, 87, 102, 129, 137, 145, 155, 165, 175, 183], 63) := by decide +kernel
theorem dX6_count_64 : decode cX6_count 64 = .ok (.aload_n 0, 1) := by decide +kernel
theorem dX6_count_65 : decode cX6_count 65 = .ok (.getfield 10, 3) := by decide +kernel
theorem dX6_count_68 : decode cX6_count 68 = .ok (.getfield 109, 3) := by decide +kernel
theorem dX6_count_71 : decode cX6_count 71 = .ok (.ireturn, 1) := by decide +kernel
theorem dX6_count_72 : decode cX6_count 72 = .ok (.aload_n 0, 1) := by decide +kernel
theorem dX6_count_73 : decode cX6_count 73 = .ok (.getfield 10, 3) := by decide +kernel
theorem dX6_count_76 : decode cX6_count 76 = .ok (.getfield 113, 3) := by decide +kernel
theorem dX6_count_79 : decode cX6_count 79 = .ok (.ireturn, 1) := by decide +kernel
theorem dX6_count_80 : decode cX6_count 80 = .ok (.aload_n 0, 1) := by decide +kernel
theorem dX6_count_81 : decode cX6_count 81 = .ok (.getfield 10, 3) := by decide +kernel
theorem dX6_count_84 : decode cX6_count 84 = .ok (.getfield 116, 3) := by decide +kernel
theorem dX6_count_87 : decode cX6_count 87 = .ok (.ireturn, 1) := by decide +kernel
theorem dX6_count_88 : decode cX6_count 88 = .ok (.aload_n 0, 1) := by decide +kernel
theorem dX6_count_89 : decode cX6_count 89 = .ok (.getfield 10, 3) := by decide +kernel
theorem dX6_count_92 : decode cX6_count 92 = .ok (.aload_n 0, 1) := by decide +kernel
theorem dX6_count_93 : decode cX6_count 93 = .ok (.getfield 10, 3) := by decide +kernel
theorem dX6_count_96 : decode cX6_count 96 = .ok (.getfield 116, 3) := by decide +kernel
theorem dX6_count_99 : decode cX6_count 99 = .ok (.invokevirtual 119, 3) := by decide +kernel
theorem dX6_count_102 : decode cX6_count 102 = .ok (.ireturn, 1) := by decide +kernel
theorem dX6_count_103 : decode cX6_count 103 = .ok (.aload_n 0, 1) := by decide +kernel
theorem dX6_count_104 : decode cX6_count 104 = .ok (.getfield 10, 3) := by decide +kernel
theorem dX6_count_107 : decode cX6_count 107 = .ok (.aload_n 0, 1) := by decide +kernel
theorem dX6_count_108 : decode cX6_count 108 = .ok (.getfield 10, 3) := by decide +kernel
theorem dX6_count_111 : decode cX6_count 111 = .ok (.getfield 116, 3) := by decide +kernel
theorem dX6_count_114 : decode cX6_count 114 = .ok (.invokevirtual 119, 3) := by decide +kernel
theorem dX6_count_117 : decode cX6_count 117 = .ok (.aload_n 0, 1) := by decide +kernel
theorem dX6_count_118 : decode cX6_count 118 = .ok (.getfield 10, 3) := by decide +kernel
theorem dX6_count_121 : decode cX6_count 121 = .ok (.getfield 122, 3) := by decide +kernel
theorem dX6_count_124 : decode cX6_count 124 = .ok (.iconst 0, 1) := by decide +kernel
theorem dX6_count_125 : decode cX6_count 125 = .ok (.iaload, 1) := by decide +kernel
theorem dX6_count_126 : decode cX6_count 126 = .ok (.invokestatic 125, 3) := by decide +kernel
theorem dX6_count_129 : decode cX6_count 129 = .ok (.ireturn, 1) := by decide +kernel
theorem dX6_count_130 : decode cX6_count 130 = .ok (.aload_n 0, 1) := by decide +kernel
theorem dX6_count_131 : decode cX6_count 131 = .ok (.getfield 10, 3) := by decide +kernel
theorem dX6_count_134 : decode cX6_count 134 = .ok (.invokevirtual 128, 3) := by decide +kernel
theorem dX6_count_137 : decode cX6_count 137 = .ok (.ireturn, 1) := by decide +kernel
theorem dX6_count_138 : decode cX6_count 138 = .ok (.aload_n 0, 1) := by decide +kernel
theorem dX6_count_139 : decode cX6_count 139 = .ok (.getfield 10, 3) := by decide +kernel
theorem dX6_count_142 : decode cX6_count 142 = .ok (.invokevirtual 131, 3) := by decide +kernel
theorem dX6_count_145 : decode cX6_count 145 = .ok (.ireturn, 1) := by decide +kernel
theorem dX6_count_146 : decode cX6_count 146 = .ok (.aload_n 0, 1) := by decide +kernel
theorem dX6_count_147 : decode cX6_count 147 = .ok (.getfield 10, 3) := by decide +kernel
theorem dX6_count_150 : decode cX6_count 150 = .ok (.getfield 122, 3) := by decide +kernel
theorem dX6_count_153 : decode cX6_count 153 = .ok (.iconst 0, 1) := by decide +kernel
theorem dX6_count_154 : decode cX6_count 154 = .ok (.iaload, 1) := by decide +kernel
theorem dX6_count_155 : decode cX6_count 155 = .ok (.ireturn, 1) := by decide +kernel
theorem dX6_count_156 : decode cX6_count 156 = .ok (.aload_n 0, 1) := by decide +kernel
theorem dX6_count_157 : decode cX6_count 157 = .ok (.getfield 10, 3) := by decide +kernel
theorem dX6_count_160 : decode cX6_count 160 = .ok (.getfield 122, 3) := by decide +kernel
theorem dX6_count_163 : decode cX6_count 163 = .ok (.iconst 1, 1) := by decide +kernel
theorem dX6_count_164 : decode cX6_count 164 = .ok (.iaload, 1) := by decide +kernel
theorem dX6_count_165 : decode cX6_count 165 = .ok (.ireturn, 1) := by decide +kernel
theorem dX6_count_166 : decode cX6_count 166 = .ok (.aload_n 0, 1) := by decide +kernel
theorem dX6_count_167 : decode cX6_count 167 = .ok (.getfield 10, 3) := by decide +kernel
theorem dX6_count_170 : decode cX6_count 170 = .ok (.getfield 122, 3) := by decide +kernel
theorem dX6_count_173 : decode cX6_count 173 = .ok (.iconst 2, 1) := by decide +kernel
theorem dX6_count_174 : decode cX6_count 174 = .ok (.iaload, 1) := by decide +kernel
theorem dX6_count_175 : decode cX6_count 175 = .ok (.ireturn, 1) := by decide +kernel
theorem dX6_count_176 : decode cX6_count 176 = .ok (.aload_n 0, 1) := by decide +kernel
theorem dX6_count_177 : decode cX6_count 177 = .ok (.getfield 37, 3) := by decide +kernel
theorem dX6_count_180 : decode cX6_count 180 = .ok (.getfield 134, 3) := by decide +kernel
theorem dX6_count_183 : decode cX6_count 183 = .ok (.ireturn, 1) := by decide +kernel
theorem dX6_count_184 : decode cX6_count 184 = .ok (.aload_n 0, 1) := by decide +kernel
theorem dX6_count_185 : decode cX6_count 185 = .ok (.getfield 19, 3) := by decide +kernel
theorem dX6_count_188 : decode cX6_count 188 = .ok (.getfield 137, 3) := by decide +kernel
theorem dX6_count_191 : decode cX6_count 191 = .ok (.ireturn, 1) := by decide +kernel
theorem dX6_count_192 : decode cX6_count 192 = .ok (.bipush (-2), 2) := by decide +kernel
theorem dX6_count_194 : decode cX6_count 194 = .ok (.ireturn, 1) := by decide +kernel
theorem dX6_pressure_0 : decode cX6_pressure 0 = .ok (.iload_n 1, 1) := by decide +kernel
theorem dX6_pressure_1 : decode cX6_pressure 1 = .ok (.ifCond .ge 6, 3) := by decide +kernel
theorem dX6_pressure_4 : decode cX6_pressure 4 = .ok (.bipush (-2), 2) := by decide +kernel
theorem dX6_pressure_6 : decode cX6_pressure 6 = .ok (.ireturn, 1) := by decide +kernel
theorem dX6_pressure_7 : decode cX6_pressure 7 = .ok (.aload_n 0, 1) := by decide +kernel
theorem dX6_pressure_8 : decode cX6_pressure 8 = .ok (.getfield 10, 3) := by decide +kernel
theorem dX6_pressure_11 : decode cX6_pressure 11 = .ok (.aload_n 0, 1) := by decide +kernel
theorem dX6_pressure_12 : decode cX6_pressure 12 = .ok (.getfield 10, 3) := by decide +kernel
theorem dX6_pressure_15 : decode cX6_pressure 15 = .ok (.iload_n 1, 1) := by decide +kernel
theorem dX6_pressure_16 : decode cX6_pressure 16 = .ok (.invokevirtual 119, 3) := by decide +kernel
theorem dX6_pressure_19 : decode cX6_pressure 19 = .ok (.aload_n 0, 1) := by decide +kernel
theorem dX6_pressure_20 : decode cX6_pressure 20 = .ok (.getfield 10, 3) := by decide +kernel
theorem dX6_pressure_23 : decode cX6_pressure 23 = .ok (.getfield 122, 3) := by decide +kernel
theorem dX6_pressure_26 : decode cX6_pressure 26 = .ok (.iconst 0, 1) := by decide +kernel
theorem dX6_pressure_27 : decode cX6_pressure 27 = .ok (.iaload, 1) := by decide +kernel
theorem dX6_pressure_28 : decode cX6_pressure 28 = .ok (.invokevirtual 140, 3) := by decide +kernel
theorem dX6_pressure_31 : decode cX6_pressure 31 = .ok (.ireturn, 1) := by decide +kernel
theorem dX6_nearest_0 : decode cX6_nearest 0 = .ok (.iload_n 1, 1) := by decide +kernel
theorem dX6_nearest_1 : decode cX6_nearest 1 = .ok (.ifCond .lt 12, 3) := by decide +kernel
theorem dX6_nearest_4 : decode cX6_nearest 4 = .ok (.iload_n 2, 1) := by decide +kernel
theorem dX6_nearest_5 : decode cX6_nearest 5 = .ok (.ifCond .lt 8, 3) := by decide +kernel
theorem dX6_nearest_8 : decode cX6_nearest 8 = .ok (.iload_n 2, 1) := by decide +kernel
theorem dX6_nearest_9 : decode cX6_nearest 9 = .ok (.iconst 1, 1) := by decide +kernel
theorem dX6_nearest_10 : decode cX6_nearest 10 = .ok (.if_icmp .le 6, 3) := by decide +kernel
theorem dX6_nearest_13 : decode cX6_nearest 13 = .ok (.bipush (-2), 2) := by decide +kernel
theorem dX6_nearest_15 : decode cX6_nearest 15 = .ok (.ireturn, 1) := by decide +kernel
theorem dX6_nearest_16 : decode cX6_nearest 16 = .ok (.aload_n 0, 1) := by decide +kernel
theorem dX6_nearest_17 : decode cX6_nearest 17 = .ok (.getfield 10, 3) := by decide +kernel
theorem dX6_nearest_20 : decode cX6_nearest 20 = .ok (.iload_n 1, 1) := by decide +kernel
theorem dX6_nearest_21 : decode cX6_nearest 21 = .ok (.invokevirtual 143, 3) := by decide +kernel
theorem dX6_nearest_24 : decode cX6_nearest 24 = .ok (.istore_n 3, 1) := by decide +kernel
theorem dX6_nearest_25 : decode cX6_nearest 25 = .ok (.iload_n 2, 1) := by decide +kernel
theorem dX6_nearest_26 : decode cX6_nearest 26 = .ok (.ifCond .ne 7, 3) := by decide +kernel
theorem dX6_nearest_29 : decode cX6_nearest 29 = .ok (.iload_n 3, 1) := by decide +kernel
theorem dX6_nearest_30 : decode cX6_nearest 30 = .ok (.goto 27, 3) := by decide +kernel
theorem dX6_nearest_33 : decode cX6_nearest 33 = .ok (.aload_n 0, 1) := by decide +kernel
theorem dX6_nearest_34 : decode cX6_nearest 34 = .ok (.getfield 10, 3) := by decide +kernel
theorem dX6_nearest_37 : decode cX6_nearest 37 = .ok (.aload_n 0, 1) := by decide +kernel
theorem dX6_nearest_38 : decode cX6_nearest 38 = .ok (.getfield 10, 3) := by decide +kernel
theorem dX6_nearest_41 : decode cX6_nearest 41 = .ok (.iload_n 3, 1) := by decide +kernel
theorem dX6_nearest_42 : decode cX6_nearest 42 = .ok (.invokevirtual 119, 3) := by decide +kernel
theorem dX6_nearest_45 : decode cX6_nearest 45 = .ok (.aload_n 0, 1) := by decide +kernel
theorem dX6_nearest_46 : decode cX6_nearest 46 = .ok (.getfield 10, 3) := by decide +kernel
theorem dX6_nearest_49 : decode cX6_nearest 49 = .ok (.getfield 122, 3) := by decide +kernel
theorem dX6_nearest_52 : decode cX6_nearest 52 = .ok (.iconst 0, 1) := by decide +kernel
theorem dX6_nearest_53 : decode cX6_nearest 53 = .ok (.iaload, 1) := by decide +kernel
theorem dX6_nearest_54 : decode cX6_nearest 54 = .ok (.invokevirtual 140, 3) := by decide +kernel
theorem dX6_nearest_57 : decode cX6_nearest 57 = .ok (.ireturn, 1) := by decide +kernel
theorem dX6_test_0 : decode cX6_test 0 = .ok (.aload_n 0, 1) := by decide +kernel
theorem dX6_test_1 : decode cX6_test 1 = .ok (.getfield 10, 3) := by decide +kernel
theorem dX6_test_4 : decode cX6_test 4 = .ok (.iload_n 1, 1) := by decide +kernel
theorem dX6_test_5 : decode cX6_test 5 = .ok (.invokevirtual 91, 3) := by decide +kernel
theorem dX6_test_8 : decode cX6_test 8 = .ok (.astore_n 3, 1) := by decide +kernel
theorem dX6_test_9 : decode cX6_test 9 = .ok (.aload_n 3, 1) := by decide +kernel
theorem dX6_test_10 : decode cX6_test 10 = .ok (.ifnonnull 5, 3) := by decide +kernel
theorem dX6_test_13 : decode cX6_test 13 = .ok (.iconst (-1), 1) := by decide +kernel
theorem dX6_test_14 : decode cX6_test 14 = .ok (.ireturn, 1) := by decide +kernel
theorem dX6_test_15 : decode cX6_test 15 = .ok (.iload_n 2, 1) := by decide +kernel
theorem dX6_test_16 : decode cX6_test 16 = .ok (.ifCond .lt 8, 3) := by decide +kernel
theorem dX6_test_19 : decode cX6_test 19 = .ok (.iload_n 2, 1) := by decide +kernel
theorem dX6_test_20 : decode cX6_test 20 = .ok (.iconst 3, 1) := by decide +kernel
theorem dX6_test_21 : decode cX6_test 21 = .ok (.if_icmp .le 6, 3) := by decide +kernel
theorem dX6_test_24 : decode cX6_test 24 = .ok (.bipush (-2), 2) := by decide +kernel
theorem dX6_test_26 : decode cX6_test 26 = .ok (.ireturn, 1) := by decide +kernel
theorem dX6_test_27 : decode cX6_test 27 = .ok (.aload_n 0, 1) := by decide +kernel
theorem dX6_test_28 : decode cX6_test 28 = .ok (.getfield 10, 3) := by decide +kernel
theorem dX6_test_31 : decode cX6_test 31 = .ok (.getfield 109, 3) := by decide +kernel
theorem dX6_test_34 : decode cX6_test 34 = .ok (.ifCond .ne 6, 3) := by decide +kernel
theorem dX6_test_37 : decode cX6_test 37 = .ok (.bipush (-5), 2) := by decide +kernel
theorem dX6_test_39 : decode cX6_test 39 = .ok (.ireturn, 1) := by decide +kernel
theorem dX6_test_40 : decode cX6_test 40 = .ok (.aload_n 0, 1) := by decide +kernel
theorem dX6_test_41 : decode cX6_test 41 = .ok (.getfield 30, 3) := by decide +kernel
theorem dX6_test_44 : decode cX6_test 44 = .ok (.aload_n 0, 1) := by decide +kernel
theorem dX6_test_45 : decode cX6_test 45 = .ok (.getfield 10, 3) := by decide +kernel
theorem dX6_test_48 : decode cX6_test 48 = .ok (.invokevirtual 146, 3) := by decide +kernel
theorem dX6_test_51 : decode cX6_test 51 = .ok (.aload_n 0, 1) := by decide +kernel
theorem dX6_test_52 : decode cX6_test 52 = .ok (.getfield 30, 3) := by decide +kernel
theorem dX6_test_55 : decode cX6_test 55 = .ok (.aload_n 3, 1) := by decide +kernel
theorem dX6_test_56 : decode cX6_test 56 = .ok (.aload_n 3, 1) := by decide +kernel
theorem dX6_test_57 : decode cX6_test 57 = .ok (.getfield 149, 3) := by decide +kernel
theorem dX6_test_60 : decode cX6_test 60 = .ok (.invokevirtual 152, 3) := by decide +kernel
theorem dX6_test_63 : decode cX6_test 63 = .ok (.iload_n 2, 1) := by decide +kernel
theorem dX6_test_64 : decode cX6_test 64 = .ok (.tableswitch 69 0 2 #[28, 36, 61], 28) := by decide +kernel
theorem dX6_test_92 : decode cX6_test 92 = .ok (.aload_n 0, 1) := by decide +kernel
theorem dX6_test_93 : decode cX6_test 93 = .ok (.getfield 30, 3) := by decide +kernel
theorem dX6_test_96 : decode cX6_test 96 = .ok (.getfield 156, 3) := by decide +kernel
theorem dX6_test_99 : decode cX6_test 99 = .ok (.ireturn, 1) := by decide +kernel
theorem dX6_test_100 : decode cX6_test 100 = .ok (.aload_n 0, 1) := by decide +kernel
theorem dX6_test_101 : decode cX6_test 101 = .ok (.getfield 30, 3) := by decide +kernel
theorem dX6_test_104 : decode cX6_test 104 = .ok (.getfield 156, 3) := by decide +kernel
theorem dX6_test_107 : decode cX6_test 107 = .ok (.aload_n 0, 1) := by decide +kernel
theorem dX6_test_108 : decode cX6_test 108 = .ok (.getfield 10, 3) := by decide +kernel
theorem dX6_test_111 : decode cX6_test 111 = .ok (.getfield 122, 3) := by decide +kernel
theorem dX6_test_114 : decode cX6_test 114 = .ok (.iconst 2, 1) := by decide +kernel
theorem dX6_test_115 : decode cX6_test 115 = .ok (.iaload, 1) := by decide +kernel
theorem dX6_test_116 : decode cX6_test 116 = .ok (.if_icmp .gt 7, 3) := by decide +kernel
theorem dX6_test_119 : decode cX6_test 119 = .ok (.iconst 1, 1) := by decide +kernel
theorem dX6_test_120 : decode cX6_test 120 = .ok (.goto 4, 3) := by decide +kernel
theorem dX6_test_123 : decode cX6_test 123 = .ok (.iconst 0, 1) := by decide +kernel
theorem dX6_test_124 : decode cX6_test 124 = .ok (.ireturn, 1) := by decide +kernel
theorem dX6_test_125 : decode cX6_test 125 = .ok (.aload_n 0, 1) := by decide +kernel
theorem dX6_test_126 : decode cX6_test 126 = .ok (.getfield 30, 3) := by decide +kernel
theorem dX6_test_129 : decode cX6_test 129 = .ok (.getfield 159, 3) := by decide +kernel
theorem dX6_test_132 : decode cX6_test 132 = .ok (.ireturn, 1) := by decide +kernel
theorem dX6_test_133 : decode cX6_test 133 = .ok (.aload_n 0, 1) := by decide +kernel
theorem dX6_test_134 : decode cX6_test 134 = .ok (.getfield 30, 3) := by decide +kernel
theorem dX6_test_137 : decode cX6_test 137 = .ok (.getfield 162, 3) := by decide +kernel
theorem dX6_test_140 : decode cX6_test 140 = .ok (.ireturn, 1) := by decide +kernel
theorem dX6_bestError_0 : decode cX6_bestError 0 = .ok (.aload_n 0, 1) := by decide +kernel
theorem dX6_bestError_1 : decode cX6_bestError 1 = .ok (.getfield 10, 3) := by decide +kernel
theorem dX6_bestError_4 : decode cX6_bestError 4 = .ok (.iload_n 1, 1) := by decide +kernel
theorem dX6_bestError_5 : decode cX6_bestError 5 = .ok (.invokevirtual 91, 3) := by decide +kernel
theorem dX6_bestError_8 : decode cX6_bestError 8 = .ok (.astore_n 3, 1) := by decide +kernel
theorem dX6_bestError_9 : decode cX6_bestError 9 = .ok (.aload_n 3, 1) := by decide +kernel
theorem dX6_bestError_10 : decode cX6_bestError 10 = .ok (.ifnonnull 5, 3) := by decide +kernel
theorem dX6_bestError_13 : decode cX6_bestError 13 = .ok (.iconst (-1), 1) := by decide +kernel
theorem dX6_bestError_14 : decode cX6_bestError 14 = .ok (.ireturn, 1) := by decide +kernel
theorem dX6_bestError_15 : decode cX6_bestError 15 = .ok (.iload_n 2, 1) := by decide +kernel
theorem dX6_bestError_16 : decode cX6_bestError 16 = .ok (.ifCond .lt 8, 3) := by decide +kernel
theorem dX6_bestError_19 : decode cX6_bestError 19 = .ok (.iload_n 2, 1) := by decide +kernel
theorem dX6_bestError_20 : decode cX6_bestError 20 = .ok (.iconst 1, 1) := by decide +kernel
theorem dX6_bestError_21 : decode cX6_bestError 21 = .ok (.if_icmp .le 6, 3) := by decide +kernel
theorem dX6_bestError_24 : decode cX6_bestError 24 = .ok (.bipush (-2), 2) := by decide +kernel
theorem dX6_bestError_26 : decode cX6_bestError 26 = .ok (.ireturn, 1) := by decide +kernel
theorem dX6_bestError_27 : decode cX6_bestError 27 = .ok (.aload_n 0, 1) := by decide +kernel
theorem dX6_bestError_28 : decode cX6_bestError 28 = .ok (.getfield 10, 3) := by decide +kernel
theorem dX6_bestError_31 : decode cX6_bestError 31 = .ok (.getfield 109, 3) := by decide +kernel
theorem dX6_bestError_34 : decode cX6_bestError 34 = .ok (.ifCond .ne 6, 3) := by decide +kernel
theorem dX6_bestError_37 : decode cX6_bestError 37 = .ok (.bipush (-5), 2) := by decide +kernel
theorem dX6_bestError_39 : decode cX6_bestError 39 = .ok (.ireturn, 1) := by decide +kernel
theorem dX6_bestError_40 : decode cX6_bestError 40 = .ok (.aload_n 0, 1) := by decide +kernel
theorem dX6_bestError_41 : decode cX6_bestError 41 = .ok (.getfield 30, 3) := by decide +kernel
theorem dX6_bestError_44 : decode cX6_bestError 44 = .ok (.aload_n 0, 1) := by decide +kernel
theorem dX6_bestError_45 : decode cX6_bestError 45 = .ok (.getfield 10, 3) := by decide +kernel
theorem dX6_bestError_48 : decode cX6_bestError 48 = .ok (.invokevirtual 146, 3) := by decide +kernel
theorem dX6_bestError_51 : decode cX6_bestError 51 = .ok (.bipush (-99), 2) := by decide +kernel
theorem dX6_bestError_53 : decode cX6_bestError 53 = .ok (.istore 4, 2) := by decide +kernel
theorem dX6_bestError_55 : decode cX6_bestError 55 = .ok (.ldc 163, 2) := by decide +kernel
theorem dX6_bestError_57 : decode cX6_bestError 57 = .ok (.istore 5, 2) := by decide +kernel
theorem dX6_bestError_59 : decode cX6_bestError 59 = .ok (.bipush (-99), 2) := by decide +kernel
theorem dX6_bestError_61 : decode cX6_bestError 61 = .ok (.istore 6, 2) := by decide +kernel
theorem dX6_bestError_63 : decode cX6_bestError 63 = .ok (.iload 6, 2) := by decide +kernel
theorem dX6_bestError_65 : decode cX6_bestError 65 = .ok (.bipush 99, 2) := by decide +kernel
theorem dX6_bestError_67 : decode cX6_bestError 67 = .ok (.if_icmp .gt 44, 3) := by decide +kernel
theorem dX6_bestError_70 : decode cX6_bestError 70 = .ok (.aload_n 0, 1) := by decide +kernel
theorem dX6_bestError_71 : decode cX6_bestError 71 = .ok (.getfield 30, 3) := by decide +kernel
theorem dX6_bestError_74 : decode cX6_bestError 74 = .ok (.aload_n 3, 1) := by decide +kernel
theorem dX6_bestError_75 : decode cX6_bestError 75 = .ok (.iload 6, 2) := by decide +kernel
theorem dX6_bestError_77 : decode cX6_bestError 77 = .ok (.invokevirtual 152, 3) := by decide +kernel
theorem dX6_bestError_80 : decode cX6_bestError 80 = .ok (.aload_n 0, 1) := by decide +kernel
theorem dX6_bestError_81 : decode cX6_bestError 81 = .ok (.getfield 30, 3) := by decide +kernel
theorem dX6_bestError_84 : decode cX6_bestError 84 = .ok (.getfield 156, 3) := by decide +kernel
theorem dX6_bestError_87 : decode cX6_bestError 87 = .ok (.iload 5, 2) := by decide +kernel
theorem dX6_bestError_89 : decode cX6_bestError 89 = .ok (.if_icmp .ge 16, 3) := by decide +kernel
theorem dX6_bestError_92 : decode cX6_bestError 92 = .ok (.iload 6, 2) := by decide +kernel
theorem dX6_bestError_94 : decode cX6_bestError 94 = .ok (.istore 4, 2) := by decide +kernel
theorem dX6_bestError_96 : decode cX6_bestError 96 = .ok (.aload_n 0, 1) := by decide +kernel
theorem dX6_bestError_97 : decode cX6_bestError 97 = .ok (.getfield 30, 3) := by decide +kernel
theorem dX6_bestError_100 : decode cX6_bestError 100 = .ok (.getfield 156, 3) := by decide +kernel
theorem dX6_bestError_103 : decode cX6_bestError 103 = .ok (.istore 5, 2) := by decide +kernel
theorem dX6_bestError_105 : decode cX6_bestError 105 = .ok (.iinc 6 1, 3) := by decide +kernel
theorem dX6_bestError_108 : decode cX6_bestError 108 = .ok (.goto (-45), 3) := by decide +kernel
theorem dX6_bestError_111 : decode cX6_bestError 111 = .ok (.iload_n 2, 1) := by decide +kernel
theorem dX6_bestError_112 : decode cX6_bestError 112 = .ok (.ifCond .ne 11, 3) := by decide +kernel
theorem dX6_bestError_115 : decode cX6_bestError 115 = .ok (.iload 4, 2) := by decide +kernel
theorem dX6_bestError_117 : decode cX6_bestError 117 = .ok (.bipush 100, 2) := by decide +kernel
theorem dX6_bestError_119 : decode cX6_bestError 119 = .ok (.iadd, 1) := by decide +kernel
theorem dX6_bestError_120 : decode cX6_bestError 120 = .ok (.goto 5, 3) := by decide +kernel
theorem dX6_bestError_123 : decode cX6_bestError 123 = .ok (.iload 5, 2) := by decide +kernel
theorem dX6_bestError_125 : decode cX6_bestError 125 = .ok (.ireturn, 1) := by decide +kernel
theorem dX6_airCosts_0 : decode cX6_airCosts 0 = .ok (.iload_n 1, 1) := by decide +kernel
theorem dX6_airCosts_1 : decode cX6_airCosts 1 = .ok (.getstatic 164, 3) := by decide +kernel
theorem dX6_airCosts_4 : decode cX6_airCosts 4 = .ok (.iconst 0, 1) := by decide +kernel
theorem dX6_airCosts_5 : decode cX6_airCosts 5 = .ok (.iaload, 1) := by decide +kernel
theorem dX6_airCosts_6 : decode cX6_airCosts 6 = .ok (.if_icmp .lt 12, 3) := by decide +kernel
theorem dX6_airCosts_9 : decode cX6_airCosts 9 = .ok (.iload_n 1, 1) := by decide +kernel
theorem dX6_airCosts_10 : decode cX6_airCosts 10 = .ok (.getstatic 167, 3) := by decide +kernel
theorem dX6_airCosts_13 : decode cX6_airCosts 13 = .ok (.iconst 0, 1) := by decide +kernel
theorem dX6_airCosts_14 : decode cX6_airCosts 14 = .ok (.iaload, 1) := by decide +kernel
theorem dX6_airCosts_15 : decode cX6_airCosts 15 = .ok (.if_icmp .le 6, 3) := by decide +kernel
theorem dX6_airCosts_18 : decode cX6_airCosts 18 = .ok (.bipush (-2), 2) := by decide +kernel
theorem dX6_airCosts_20 : decode cX6_airCosts 20 = .ok (.ireturn, 1) := by decide +kernel
theorem dX6_airCosts_21 : decode cX6_airCosts 21 = .ok (.aload_n 0, 1) := by decide +kernel
theorem dX6_airCosts_22 : decode cX6_airCosts 22 = .ok (.getfield 10, 3) := by decide +kernel
theorem dX6_airCosts_25 : decode cX6_airCosts 25 = .ok (.aload_n 0, 1) := by decide +kernel
theorem dX6_airCosts_26 : decode cX6_airCosts 26 = .ok (.getfield 10, 3) := by decide +kernel
theorem dX6_airCosts_29 : decode cX6_airCosts 29 = .ok (.aload_n 0, 1) := by decide +kernel
theorem dX6_airCosts_30 : decode cX6_airCosts 30 = .ok (.getfield 10, 3) := by decide +kernel
theorem dX6_airCosts_33 : decode cX6_airCosts 33 = .ok (.getfield 116, 3) := by decide +kernel
theorem dX6_airCosts_36 : decode cX6_airCosts 36 = .ok (.invokevirtual 119, 3) := by decide +kernel
theorem dX6_airCosts_39 : decode cX6_airCosts 39 = .ok (.iload_n 1, 1) := by decide +kernel
theorem dX6_airCosts_40 : decode cX6_airCosts 40 = .ok (.invokevirtual 140, 3) := by decide +kernel
theorem dX6_airCosts_43 : decode cX6_airCosts 43 = .ok (.aload_n 0, 1) := by decide +kernel
theorem dX6_airCosts_44 : decode cX6_airCosts 44 = .ok (.getfield 10, 3) := by decide +kernel
theorem dX6_airCosts_47 : decode cX6_airCosts 47 = .ok (.invokevirtual 128, 3) := by decide +kernel
theorem dX6_airCosts_50 : decode cX6_airCosts 50 = .ok (.isub, 1) := by decide +kernel
theorem dX6_airCosts_51 : decode cX6_airCosts 51 = .ok (.sipush 10000, 3) := by decide +kernel
theorem dX6_airCosts_54 : decode cX6_airCosts 54 = .ok (.iadd, 1) := by decide +kernel
theorem dX6_airCosts_55 : decode cX6_airCosts 55 = .ok (.ireturn, 1) := by decide +kernel
theorem dX6_put_0 : decode cX6_put 0 = .ok (.aload_n 0, 1) := by decide +kernel
theorem dX6_put_1 : decode cX6_put 1 = .ok (.getfield 37, 3) := by decide +kernel
theorem dX6_put_4 : decode cX6_put 4 = .ok (.lload_n 1, 1) := by decide +kernel
theorem dX6_put_5 : decode cX6_put 5 = .ok (.invokevirtual 170, 3) := by decide +kernel
theorem dX6_put_8 : decode cX6_put 8 = .ok (.ireturn, 1) := by decide +kernel
theorem dX6_wipe_0 : decode cX6_wipe 0 = .ok (.aload_n 0, 1) := by decide +kernel
theorem dX6_wipe_1 : decode cX6_wipe 1 = .ok (.getfield 37, 3) := by decide +kernel
theorem dX6_wipe_4 : decode cX6_wipe 4 = .ok (.invokevirtual 174, 3) := by decide +kernel
theorem dX6_wipe_7 : decode cX6_wipe 7 = .ok (.ireturn, 1) := by decide +kernel
theorem dX6_fault_0 : decode cX6_fault 0 = .ok (.aload_n 0, 1) := by decide +kernel
theorem dX6_fault_1 : decode cX6_fault 1 = .ok (.getfield 37, 3) := by decide +kernel
theorem dX6_fault_4 : decode cX6_fault 4 = .ok (.invokevirtual 177, 3) := by decide +kernel
theorem dX6_fault_7 : decode cX6_fault 7 = .ok (.ireturn, 1) := by decide +kernel
theorem dX6_carryOut_0 : decode cX6_carryOut 0 = .ok (.aload_n 0, 1) := by decide +kernel
theorem dX6_carryOut_1 : decode cX6_carryOut 1 = .ok (.getfield 37, 3) := by decide +kernel
theorem dX6_carryOut_4 : decode cX6_carryOut 4 = .ok (.invokevirtual 177, 3) := by decide +kernel
theorem dX6_carryOut_7 : decode cX6_carryOut 7 = .ok (.bipush (-6), 2) := by decide +kernel
theorem dX6_carryOut_9 : decode cX6_carryOut 9 = .ok (.if_icmp .eq 6, 3) := by decide +kernel
theorem dX6_carryOut_12 : decode cX6_carryOut 12 = .ok (.bipush (-3), 2) := by decide +kernel
theorem dX6_carryOut_14 : decode cX6_carryOut 14 = .ok (.ireturn, 1) := by decide +kernel
theorem dX6_carryOut_15 : decode cX6_carryOut 15 = .ok (.aload_n 0, 1) := by decide +kernel
theorem dX6_carryOut_16 : decode cX6_carryOut 16 = .ok (.getfield 19, 3) := by decide +kernel
theorem dX6_carryOut_19 : decode cX6_carryOut 19 = .ok (.aload_n 0, 1) := by decide +kernel
theorem dX6_carryOut_20 : decode cX6_carryOut 20 = .ok (.getfield 10, 3) := by decide +kernel
theorem dX6_carryOut_23 : decode cX6_carryOut 23 = .ok (.invokevirtual 41, 3) := by decide +kernel
theorem dX6_carryOut_26 : decode cX6_carryOut 26 = .ok (.aload_n 0, 1) := by decide +kernel
theorem dX6_carryOut_27 : decode cX6_carryOut 27 = .ok (.getfield 37, 3) := by decide +kernel
theorem dX6_carryOut_30 : decode cX6_carryOut 30 = .ok (.invokevirtual 180, 3) := by decide +kernel
theorem dX6_carryOut_33 : decode cX6_carryOut 33 = .ok (.iconst 0, 1) := by decide +kernel
theorem dX6_carryOut_34 : decode cX6_carryOut 34 = .ok (.istore_n 1, 1) := by decide +kernel
theorem dX6_carryOut_35 : decode cX6_carryOut 35 = .ok (.iload_n 1, 1) := by decide +kernel
theorem dX6_carryOut_36 : decode cX6_carryOut 36 = .ok (.bipush 80, 2) := by decide +kernel
theorem dX6_carryOut_38 : decode cX6_carryOut 38 = .ok (.if_icmp .ge 26, 3) := by decide +kernel
theorem dX6_carryOut_41 : decode cX6_carryOut 41 = .ok (.aload_n 0, 1) := by decide +kernel
theorem dX6_carryOut_42 : decode cX6_carryOut 42 = .ok (.getfield 37, 3) := by decide +kernel
theorem dX6_carryOut_45 : decode cX6_carryOut 45 = .ok (.invokevirtual 183, 3) := by decide +kernel
theorem dX6_carryOut_48 : decode cX6_carryOut 48 = .ok (.ifCond .eq 16, 3) := by decide +kernel
theorem dX6_carryOut_51 : decode cX6_carryOut 51 = .ok (.aload_n 0, 1) := by decide +kernel
theorem dX6_carryOut_52 : decode cX6_carryOut 52 = .ok (.invokevirtual 187, 3) := by decide +kernel
theorem dX6_carryOut_55 : decode cX6_carryOut 55 = .ok (.ifCond .lt 9, 3) := by decide +kernel
theorem dX6_carryOut_58 : decode cX6_carryOut 58 = .ok (.iinc 1 1, 3) := by decide +kernel
theorem dX6_carryOut_61 : decode cX6_carryOut 61 = .ok (.goto (-26), 3) := by decide +kernel
theorem dX6_carryOut_64 : decode cX6_carryOut 64 = .ok (.aload_n 0, 1) := by decide +kernel
theorem dX6_carryOut_65 : decode cX6_carryOut 65 = .ok (.getfield 37, 3) := by decide +kernel
theorem dX6_carryOut_68 : decode cX6_carryOut 68 = .ok (.invokevirtual 174, 3) := by decide +kernel
theorem dX6_carryOut_71 : decode cX6_carryOut 71 = .ok (.pop, 1) := by decide +kernel
theorem dX6_carryOut_72 : decode cX6_carryOut 72 = .ok (.aload_n 0, 1) := by decide +kernel
theorem dX6_carryOut_73 : decode cX6_carryOut 73 = .ok (.getfield 19, 3) := by decide +kernel
theorem dX6_carryOut_76 : decode cX6_carryOut 76 = .ok (.iload_n 1, 1) := by decide +kernel
theorem dX6_carryOut_77 : decode cX6_carryOut 77 = .ok (.invokevirtual 49, 3) := by decide +kernel
theorem dX6_carryOut_80 : decode cX6_carryOut 80 = .ok (.ireturn, 1) := by decide +kernel
theorem dX6_carryOutOrder_0 : decode cX6_carryOutOrder 0 = .ok (.aload_n 0, 1) := by decide +kernel
theorem dX6_carryOutOrder_1 : decode cX6_carryOutOrder 1 = .ok (.getfield 37, 3) := by decide +kernel
theorem dX6_carryOutOrder_4 : decode cX6_carryOutOrder 4 = .ok (.getfield 190, 3) := by decide +kernel
theorem dX6_carryOutOrder_7 : decode cX6_carryOutOrder 7 = .ok (.iconst 0, 1) := by decide +kernel
theorem dX6_carryOutOrder_8 : decode cX6_carryOutOrder 8 = .ok (.iaload, 1) := by decide +kernel
theorem dX6_carryOutOrder_9 : decode cX6_carryOutOrder 9 = .ok (.istore_n 1, 1) := by decide +kernel
theorem dX6_carryOutOrder_10 : decode cX6_carryOutOrder 10 = .ok (.aload_n 0, 1) := by decide +kernel
theorem dX6_carryOutOrder_11 : decode cX6_carryOutOrder 11 = .ok (.getfield 37, 3) := by decide +kernel
theorem dX6_carryOutOrder_14 : decode cX6_carryOutOrder 14 = .ok (.getfield 193, 3) := by decide +kernel
theorem dX6_carryOutOrder_17 : decode cX6_carryOutOrder 17 = .ok (.lookupswitch 115 #[(43, 87), (45, 96), (97, 105), (103, 60), (109, 51)], 51) := by decide +kernel
theorem dX6_carryOutOrder_68 : decode cX6_carryOutOrder 68 = .ok (.aload_n 0, 1) := by decide +kernel
theorem dX6_carryOutOrder_69 : decode cX6_carryOutOrder 69 = .ok (.getfield 10, 3) := by decide +kernel
theorem dX6_carryOutOrder_72 : decode cX6_carryOutOrder 72 = .ok (.iload_n 1, 1) := by decide +kernel
theorem dX6_carryOutOrder_73 : decode cX6_carryOutOrder 73 = .ok (.invokevirtual 53, 3) := by decide +kernel
theorem dX6_carryOutOrder_76 : decode cX6_carryOutOrder 76 = .ok (.ireturn, 1) := by decide +kernel
theorem dX6_carryOutOrder_77 : decode cX6_carryOutOrder 77 = .ok (.aload_n 0, 1) := by decide +kernel
theorem dX6_carryOutOrder_78 : decode cX6_carryOutOrder 78 = .ok (.getfield 10, 3) := by decide +kernel
theorem dX6_carryOutOrder_81 : decode cX6_carryOutOrder 81 = .ok (.iload_n 1, 1) := by decide +kernel
theorem dX6_carryOutOrder_82 : decode cX6_carryOutOrder 82 = .ok (.aload_n 0, 1) := by decide +kernel
theorem dX6_carryOutOrder_83 : decode cX6_carryOutOrder 83 = .ok (.getfield 37, 3) := by decide +kernel
theorem dX6_carryOutOrder_86 : decode cX6_carryOutOrder 86 = .ok (.getfield 190, 3) := by decide +kernel
theorem dX6_carryOutOrder_89 : decode cX6_carryOutOrder 89 = .ok (.iconst 1, 1) := by decide +kernel
theorem dX6_carryOutOrder_90 : decode cX6_carryOutOrder 90 = .ok (.iaload, 1) := by decide +kernel
theorem dX6_carryOutOrder_91 : decode cX6_carryOutOrder 91 = .ok (.aload_n 0, 1) := by decide +kernel
theorem dX6_carryOutOrder_92 : decode cX6_carryOutOrder 92 = .ok (.getfield 37, 3) := by decide +kernel
theorem dX6_carryOutOrder_95 : decode cX6_carryOutOrder 95 = .ok (.getfield 190, 3) := by decide +kernel
theorem dX6_carryOutOrder_98 : decode cX6_carryOutOrder 98 = .ok (.iconst 2, 1) := by decide +kernel
theorem dX6_carryOutOrder_99 : decode cX6_carryOutOrder 99 = .ok (.iaload, 1) := by decide +kernel
theorem dX6_carryOutOrder_100 : decode cX6_carryOutOrder 100 = .ok (.invokevirtual 66, 3) := by decide +kernel
theorem dX6_carryOutOrder_103 : decode cX6_carryOutOrder 103 = .ok (.ireturn, 1) := by decide +kernel
theorem dX6_carryOutOrder_104 : decode cX6_carryOutOrder 104 = .ok (.aload_n 0, 1) := by decide +kernel
theorem dX6_carryOutOrder_105 : decode cX6_carryOutOrder 105 = .ok (.getfield 10, 3) := by decide +kernel
theorem dX6_carryOutOrder_108 : decode cX6_carryOutOrder 108 = .ok (.iload_n 1, 1) := by decide +kernel
theorem dX6_carryOutOrder_109 : decode cX6_carryOutOrder 109 = .ok (.invokevirtual 60, 3) := by decide +kernel
theorem dX6_carryOutOrder_112 : decode cX6_carryOutOrder 112 = .ok (.ireturn, 1) := by decide +kernel
theorem dX6_carryOutOrder_113 : decode cX6_carryOutOrder 113 = .ok (.aload_n 0, 1) := by decide +kernel
theorem dX6_carryOutOrder_114 : decode cX6_carryOutOrder 114 = .ok (.getfield 10, 3) := by decide +kernel
theorem dX6_carryOutOrder_117 : decode cX6_carryOutOrder 117 = .ok (.iload_n 1, 1) := by decide +kernel
theorem dX6_carryOutOrder_118 : decode cX6_carryOutOrder 118 = .ok (.invokevirtual 63, 3) := by decide +kernel
theorem dX6_carryOutOrder_121 : decode cX6_carryOutOrder 121 = .ok (.ireturn, 1) := by decide +kernel
theorem dX6_carryOutOrder_122 : decode cX6_carryOutOrder 122 = .ok (.aload_n 0, 1) := by decide +kernel
theorem dX6_carryOutOrder_123 : decode cX6_carryOutOrder 123 = .ok (.getfield 10, 3) := by decide +kernel
theorem dX6_carryOutOrder_126 : decode cX6_carryOutOrder 126 = .ok (.iconst 0, 1) := by decide +kernel
theorem dX6_carryOutOrder_127 : decode cX6_carryOutOrder 127 = .ok (.iload_n 1, 1) := by decide +kernel
theorem dX6_carryOutOrder_128 : decode cX6_carryOutOrder 128 = .ok (.invokevirtual 45, 3) := by decide +kernel
theorem dX6_carryOutOrder_131 : decode cX6_carryOutOrder 131 = .ok (.ireturn, 1) := by decide +kernel
theorem dX6_carryOutOrder_132 : decode cX6_carryOutOrder 132 = .ok (.aload_n 0, 1) := by decide +kernel
theorem dX6_carryOutOrder_133 : decode cX6_carryOutOrder 133 = .ok (.getfield 10, 3) := by decide +kernel
theorem dX6_carryOutOrder_136 : decode cX6_carryOutOrder 136 = .ok (.aload_n 0, 1) := by decide +kernel
theorem dX6_carryOutOrder_137 : decode cX6_carryOutOrder 137 = .ok (.getfield 30, 3) := by decide +kernel
theorem dX6_carryOutOrder_140 : decode cX6_carryOutOrder 140 = .ok (.iload_n 1, 1) := by decide +kernel
theorem dX6_carryOutOrder_141 : decode cX6_carryOutOrder 141 = .ok (.invokevirtual 73, 3) := by decide +kernel
theorem dX6_carryOutOrder_144 : decode cX6_carryOutOrder 144 = .ok (.ireturn, 1) := by decide +kernel
theorem dX6_undo_0 : decode cX6_undo 0 = .ok (.aload_n 0, 1) := by decide +kernel
theorem dX6_undo_1 : decode cX6_undo 1 = .ok (.getfield 19, 3) := by decide +kernel
theorem dX6_undo_4 : decode cX6_undo 4 = .ok (.aload_n 0, 1) := by decide +kernel
theorem dX6_undo_5 : decode cX6_undo 5 = .ok (.getfield 10, 3) := by decide +kernel
theorem dX6_undo_8 : decode cX6_undo 8 = .ok (.invokevirtual 196, 3) := by decide +kernel
theorem dX6_undo_11 : decode cX6_undo 11 = .ok (.ireturn, 1) := by decide +kernel
theorem dX6_save_0 : decode cX6_save 0 = .ok (.iload_n 1, 1) := by decide +kernel
theorem dX6_save_1 : decode cX6_save 1 = .ok (.ifCond .lt 8, 3) := by decide +kernel
theorem dX6_save_4 : decode cX6_save 4 = .ok (.iload_n 1, 1) := by decide +kernel
theorem dX6_save_5 : decode cX6_save 5 = .ok (.iconst 2, 1) := by decide +kernel
theorem dX6_save_6 : decode cX6_save 6 = .ok (.if_icmp .lt 6, 3) := by decide +kernel
theorem dX6_save_9 : decode cX6_save 9 = .ok (.bipush (-2), 2) := by decide +kernel
theorem dX6_save_11 : decode cX6_save 11 = .ok (.ireturn, 1) := by decide +kernel
theorem dX6_save_12 : decode cX6_save 12 = .ok (.aload_n 0, 1) := by decide +kernel
theorem dX6_save_13 : decode cX6_save 13 = .ok (.getfield 23, 3) := by decide +kernel
theorem dX6_save_16 : decode cX6_save 16 = .ok (.iload_n 1, 1) := by decide +kernel
theorem dX6_save_17 : decode cX6_save 17 = .ok (.aaload, 1) := by decide +kernel
theorem dX6_save_18 : decode cX6_save 18 = .ok (.ifnonnull 16, 3) := by decide +kernel
theorem dX6_save_21 : decode cX6_save 21 = .ok (.aload_n 0, 1) := by decide +kernel
theorem dX6_save_22 : decode cX6_save 22 = .ok (.getfield 23, 3) := by decide +kernel
theorem dX6_save_25 : decode cX6_save 25 = .ok (.iload_n 1, 1) := by decide +kernel
theorem dX6_save_26 : decode cX6_save 26 = .ok (.new 7, 3) := by decide +kernel
theorem dX6_save_29 : decode cX6_save 29 = .ok (.dup, 1) := by decide +kernel
theorem dX6_save_30 : decode cX6_save 30 = .ok (.invokespecial 9, 3) := by decide +kernel
theorem dX6_save_33 : decode cX6_save 33 = .ok (.aastore, 1) := by decide +kernel
theorem dX6_save_34 : decode cX6_save 34 = .ok (.aload_n 0, 1) := by decide +kernel
theorem dX6_save_35 : decode cX6_save 35 = .ok (.getfield 23, 3) := by decide +kernel
theorem dX6_save_38 : decode cX6_save 38 = .ok (.iload_n 1, 1) := by decide +kernel
theorem dX6_save_39 : decode cX6_save 39 = .ok (.aaload, 1) := by decide +kernel
theorem dX6_save_40 : decode cX6_save 40 = .ok (.aload_n 0, 1) := by decide +kernel
theorem dX6_save_41 : decode cX6_save 41 = .ok (.getfield 10, 3) := by decide +kernel
theorem dX6_save_44 : decode cX6_save 44 = .ok (.invokevirtual 200, 3) := by decide +kernel
theorem dX6_save_47 : decode cX6_save 47 = .ok (.aload_n 0, 1) := by decide +kernel
theorem dX6_save_48 : decode cX6_save 48 = .ok (.getfield 10, 3) := by decide +kernel
theorem dX6_save_51 : decode cX6_save 51 = .ok (.getfield 109, 3) := by decide +kernel
theorem dX6_save_54 : decode cX6_save 54 = .ok (.ireturn, 1) := by decide +kernel
theorem dX6_restore_0 : decode cX6_restore 0 = .ok (.iload_n 1, 1) := by decide +kernel
theorem dX6_restore_1 : decode cX6_restore 1 = .ok (.ifCond .lt 8, 3) := by decide +kernel
theorem dX6_restore_4 : decode cX6_restore 4 = .ok (.iload_n 1, 1) := by decide +kernel
theorem dX6_restore_5 : decode cX6_restore 5 = .ok (.iconst 2, 1) := by decide +kernel
theorem dX6_restore_6 : decode cX6_restore 6 = .ok (.if_icmp .lt 6, 3) := by decide +kernel
theorem dX6_restore_9 : decode cX6_restore 9 = .ok (.bipush (-2), 2) := by decide +kernel
theorem dX6_restore_11 : decode cX6_restore 11 = .ok (.ireturn, 1) := by decide +kernel
theorem dX6_restore_12 : decode cX6_restore 12 = .ok (.aload_n 0, 1) := by decide +kernel
theorem dX6_restore_13 : decode cX6_restore 13 = .ok (.getfield 23, 3) := by decide +kernel
theorem dX6_restore_16 : decode cX6_restore 16 = .ok (.iload_n 1, 1) := by decide +kernel
theorem dX6_restore_17 : decode cX6_restore 17 = .ok (.aaload, 1) := by decide +kernel
theorem dX6_restore_18 : decode cX6_restore 18 = .ok (.ifnonnull 6, 3) := by decide +kernel
theorem dX6_restore_21 : decode cX6_restore 21 = .ok (.bipush (-5), 2) := by decide +kernel
theorem dX6_restore_23 : decode cX6_restore 23 = .ok (.ireturn, 1) := by decide +kernel
theorem dX6_restore_24 : decode cX6_restore 24 = .ok (.aload_n 0, 1) := by decide +kernel
theorem dX6_restore_25 : decode cX6_restore 25 = .ok (.getfield 19, 3) := by decide +kernel
theorem dX6_restore_28 : decode cX6_restore 28 = .ok (.aload_n 0, 1) := by decide +kernel
theorem dX6_restore_29 : decode cX6_restore 29 = .ok (.getfield 10, 3) := by decide +kernel
theorem dX6_restore_32 : decode cX6_restore 32 = .ok (.invokevirtual 41, 3) := by decide +kernel
theorem dX6_restore_35 : decode cX6_restore 35 = .ok (.aload_n 0, 1) := by decide +kernel
theorem dX6_restore_36 : decode cX6_restore 36 = .ok (.getfield 10, 3) := by decide +kernel
theorem dX6_restore_39 : decode cX6_restore 39 = .ok (.aload_n 0, 1) := by decide +kernel
theorem dX6_restore_40 : decode cX6_restore 40 = .ok (.getfield 23, 3) := by decide +kernel
theorem dX6_restore_43 : decode cX6_restore 43 = .ok (.iload_n 1, 1) := by decide +kernel
theorem dX6_restore_44 : decode cX6_restore 44 = .ok (.aaload, 1) := by decide +kernel
theorem dX6_restore_45 : decode cX6_restore 45 = .ok (.invokevirtual 200, 3) := by decide +kernel
theorem dX6_restore_48 : decode cX6_restore 48 = .ok (.aload_n 0, 1) := by decide +kernel
theorem dX6_restore_49 : decode cX6_restore 49 = .ok (.getfield 19, 3) := by decide +kernel
theorem dX6_restore_52 : decode cX6_restore 52 = .ok (.aload_n 0, 1) := by decide +kernel
theorem dX6_restore_53 : decode cX6_restore 53 = .ok (.getfield 10, 3) := by decide +kernel
theorem dX6_restore_56 : decode cX6_restore 56 = .ok (.getfield 109, 3) := by decide +kernel
theorem dX6_restore_59 : decode cX6_restore 59 = .ok (.invokevirtual 49, 3) := by decide +kernel
theorem dX6_restore_62 : decode cX6_restore 62 = .ok (.ireturn, 1) := by decide +kernel
theorem dX6_dividedDown_0 : decode cX6_dividedDown 0 = .ok (.iload_n 1, 1) := by decide +kernel
theorem dX6_dividedDown_1 : decode cX6_dividedDown 1 = .ok (.iconst 1, 1) := by decide +kernel
theorem dX6_dividedDown_2 : decode cX6_dividedDown 2 = .ok (.if_icmp .ge 7, 3) := by decide +kernel
theorem dX6_dividedDown_5 : decode cX6_dividedDown 5 = .ok (.iconst 0, 1) := by decide +kernel
theorem dX6_dividedDown_6 : decode cX6_dividedDown 6 = .ok (.goto 6, 3) := by decide +kernel
theorem dX6_dividedDown_9 : decode cX6_dividedDown 9 = .ok (.iload_n 0, 1) := by decide +kernel
theorem dX6_dividedDown_10 : decode cX6_dividedDown 10 = .ok (.iload_n 1, 1) := by decide +kernel
theorem dX6_dividedDown_11 : decode cX6_dividedDown 11 = .ok (.idiv, 1) := by decide +kernel
theorem dX6_dividedDown_12 : decode cX6_dividedDown 12 = .ok (.ireturn, 1) := by decide +kernel
theorem dX6_dividedRounded_0 : decode cX6_dividedRounded 0 = .ok (.iload_n 1, 1) := by decide +kernel
theorem dX6_dividedRounded_1 : decode cX6_dividedRounded 1 = .ok (.iconst 1, 1) := by decide +kernel
theorem dX6_dividedRounded_2 : decode cX6_dividedRounded 2 = .ok (.if_icmp .ge 7, 3) := by decide +kernel
theorem dX6_dividedRounded_5 : decode cX6_dividedRounded 5 = .ok (.iconst 0, 1) := by decide +kernel
theorem dX6_dividedRounded_6 : decode cX6_dividedRounded 6 = .ok (.goto 12, 3) := by decide +kernel
theorem dX6_dividedRounded_9 : decode cX6_dividedRounded 9 = .ok (.iconst 2, 1) := by decide +kernel
theorem dX6_dividedRounded_10 : decode cX6_dividedRounded 10 = .ok (.iload_n 0, 1) := by decide +kernel
theorem dX6_dividedRounded_11 : decode cX6_dividedRounded 11 = .ok (.imul, 1) := by decide +kernel
theorem dX6_dividedRounded_12 : decode cX6_dividedRounded 12 = .ok (.iload_n 1, 1) := by decide +kernel
theorem dX6_dividedRounded_13 : decode cX6_dividedRounded 13 = .ok (.iadd, 1) := by decide +kernel
theorem dX6_dividedRounded_14 : decode cX6_dividedRounded 14 = .ok (.iconst 2, 1) := by decide +kernel
theorem dX6_dividedRounded_15 : decode cX6_dividedRounded 15 = .ok (.iload_n 1, 1) := by decide +kernel
theorem dX6_dividedRounded_16 : decode cX6_dividedRounded 16 = .ok (.imul, 1) := by decide +kernel
theorem dX6_dividedRounded_17 : decode cX6_dividedRounded 17 = .ok (.idiv, 1) := by decide +kernel
theorem dX6_dividedRounded_18 : decode cX6_dividedRounded 18 = .ok (.ireturn, 1) := by decide +kernel
theorem dX6_weightOf_0 : decode cX6_weightOf 0 = .ok (.iload_n 0, 1) := by decide +kernel
theorem dX6_weightOf_1 : decode cX6_weightOf 1 = .ok (.iload_n 0, 1) := by decide +kernel
theorem dX6_weightOf_2 : decode cX6_weightOf 2 = .ok (.bipush 100, 2) := by decide +kernel
theorem dX6_weightOf_4 : decode cX6_weightOf 4 = .ok (.iconst 5, 1) := by decide +kernel
theorem dX6_weightOf_5 : decode cX6_weightOf 5 = .ok (.iload_n 1, 1) := by decide +kernel
theorem dX6_weightOf_6 : decode cX6_weightOf 6 = .ok (.imul, 1) := by decide +kernel
theorem dX6_weightOf_7 : decode cX6_weightOf 7 = .ok (.iadd, 1) := by decide +kernel
theorem dX6_weightOf_8 : decode cX6_weightOf 8 = .ok (.imul, 1) := by decide +kernel
theorem dX6_weightOf_9 : decode cX6_weightOf 9 = .ok (.ldc 203, 2) := by decide +kernel
theorem dX6_weightOf_11 : decode cX6_weightOf 11 = .ok (.invokestatic 204, 3) := by decide +kernel
theorem dX6_weightOf_14 : decode cX6_weightOf 14 = .ok (.isub, 1) := by decide +kernel
theorem dX6_weightOf_15 : decode cX6_weightOf 15 = .ok (.ireturn, 1) := by decide +kernel
theorem dJ6_bitCount_0f7a4_0 : decode cJ6_bitCount_0f7a4 0 = .ok (.iload_n 0, 1) := by decide +kernel
theorem dJ6_bitCount_0f7a4_1 : decode cJ6_bitCount_0f7a4 1 = .ok (.iload_n 0, 1) := by decide +kernel
theorem dJ6_bitCount_0f7a4_2 : decode cJ6_bitCount_0f7a4 2 = .ok (.iconst 1, 1) := by decide +kernel
theorem dJ6_bitCount_0f7a4_3 : decode cJ6_bitCount_0f7a4 3 = .ok (.iushr, 1) := by decide +kernel
theorem dJ6_bitCount_0f7a4_4 : decode cJ6_bitCount_0f7a4 4 = .ok (.ldc_w 265, 3) := by decide +kernel
theorem dJ6_bitCount_0f7a4_7 : decode cJ6_bitCount_0f7a4 7 = .ok (.iand, 1) := by decide +kernel
theorem dJ6_bitCount_0f7a4_8 : decode cJ6_bitCount_0f7a4 8 = .ok (.isub, 1) := by decide +kernel
theorem dJ6_bitCount_0f7a4_9 : decode cJ6_bitCount_0f7a4 9 = .ok (.istore_n 0, 1) := by decide +kernel
theorem dJ6_bitCount_0f7a4_10 : decode cJ6_bitCount_0f7a4 10 = .ok (.iload_n 0, 1) := by decide +kernel
theorem dJ6_bitCount_0f7a4_11 : decode cJ6_bitCount_0f7a4 11 = .ok (.ldc_w 266, 3) := by decide +kernel
theorem dJ6_bitCount_0f7a4_14 : decode cJ6_bitCount_0f7a4 14 = .ok (.iand, 1) := by decide +kernel
theorem dJ6_bitCount_0f7a4_15 : decode cJ6_bitCount_0f7a4 15 = .ok (.iload_n 0, 1) := by decide +kernel
theorem dJ6_bitCount_0f7a4_16 : decode cJ6_bitCount_0f7a4 16 = .ok (.iconst 2, 1) := by decide +kernel
theorem dJ6_bitCount_0f7a4_17 : decode cJ6_bitCount_0f7a4 17 = .ok (.iushr, 1) := by decide +kernel
theorem dJ6_bitCount_0f7a4_18 : decode cJ6_bitCount_0f7a4 18 = .ok (.ldc_w 266, 3) := by decide +kernel
theorem dJ6_bitCount_0f7a4_21 : decode cJ6_bitCount_0f7a4 21 = .ok (.iand, 1) := by decide +kernel
theorem dJ6_bitCount_0f7a4_22 : decode cJ6_bitCount_0f7a4 22 = .ok (.iadd, 1) := by decide +kernel
theorem dJ6_bitCount_0f7a4_23 : decode cJ6_bitCount_0f7a4 23 = .ok (.istore_n 0, 1) := by decide +kernel
theorem dJ6_bitCount_0f7a4_24 : decode cJ6_bitCount_0f7a4 24 = .ok (.iload_n 0, 1) := by decide +kernel
theorem dJ6_bitCount_0f7a4_25 : decode cJ6_bitCount_0f7a4 25 = .ok (.iload_n 0, 1) := by decide +kernel
theorem dJ6_bitCount_0f7a4_26 : decode cJ6_bitCount_0f7a4 26 = .ok (.iconst 4, 1) := by decide +kernel
theorem dJ6_bitCount_0f7a4_27 : decode cJ6_bitCount_0f7a4 27 = .ok (.iushr, 1) := by decide +kernel
theorem dJ6_bitCount_0f7a4_28 : decode cJ6_bitCount_0f7a4 28 = .ok (.iadd, 1) := by decide +kernel
theorem dJ6_bitCount_0f7a4_29 : decode cJ6_bitCount_0f7a4 29 = .ok (.ldc_w 267, 3) := by decide +kernel
theorem dJ6_bitCount_0f7a4_32 : decode cJ6_bitCount_0f7a4 32 = .ok (.iand, 1) := by decide +kernel
theorem dJ6_bitCount_0f7a4_33 : decode cJ6_bitCount_0f7a4 33 = .ok (.istore_n 0, 1) := by decide +kernel
theorem dJ6_bitCount_0f7a4_34 : decode cJ6_bitCount_0f7a4 34 = .ok (.iload_n 0, 1) := by decide +kernel
theorem dJ6_bitCount_0f7a4_35 : decode cJ6_bitCount_0f7a4 35 = .ok (.iload_n 0, 1) := by decide +kernel
theorem dJ6_bitCount_0f7a4_36 : decode cJ6_bitCount_0f7a4 36 = .ok (.bipush 8, 2) := by decide +kernel
theorem dJ6_bitCount_0f7a4_38 : decode cJ6_bitCount_0f7a4 38 = .ok (.iushr, 1) := by decide +kernel
theorem dJ6_bitCount_0f7a4_39 : decode cJ6_bitCount_0f7a4 39 = .ok (.iadd, 1) := by decide +kernel
theorem dJ6_bitCount_0f7a4_40 : decode cJ6_bitCount_0f7a4 40 = .ok (.istore_n 0, 1) := by decide +kernel
theorem dJ6_bitCount_0f7a4_41 : decode cJ6_bitCount_0f7a4 41 = .ok (.iload_n 0, 1) := by decide +kernel
theorem dJ6_bitCount_0f7a4_42 : decode cJ6_bitCount_0f7a4 42 = .ok (.iload_n 0, 1) := by decide +kernel
theorem dJ6_bitCount_0f7a4_43 : decode cJ6_bitCount_0f7a4 43 = .ok (.bipush 16, 2) := by decide +kernel
theorem dJ6_bitCount_0f7a4_45 : decode cJ6_bitCount_0f7a4 45 = .ok (.iushr, 1) := by decide +kernel
theorem dJ6_bitCount_0f7a4_46 : decode cJ6_bitCount_0f7a4 46 = .ok (.iadd, 1) := by decide +kernel
theorem dJ6_bitCount_0f7a4_47 : decode cJ6_bitCount_0f7a4 47 = .ok (.istore_n 0, 1) := by decide +kernel
theorem dJ6_bitCount_0f7a4_48 : decode cJ6_bitCount_0f7a4 48 = .ok (.iload_n 0, 1) := by decide +kernel
theorem dJ6_bitCount_0f7a4_49 : decode cJ6_bitCount_0f7a4 49 = .ok (.bipush 63, 2) := by decide +kernel
theorem dJ6_bitCount_0f7a4_51 : decode cJ6_bitCount_0f7a4 51 = .ok (.iand, 1) := by decide +kernel
theorem dJ6_bitCount_0f7a4_52 : decode cJ6_bitCount_0f7a4 52 = .ok (.ireturn, 1) := by decide +kernel
theorem dJ9_abs_0f7a4_0 : decode cJ9_abs_0f7a4 0 = .ok (.iload_n 0, 1) := by decide +kernel
theorem dJ9_abs_0f7a4_1 : decode cJ9_abs_0f7a4 1 = .ok (.ifCond .ge 8, 3) := by decide +kernel
theorem dJ9_abs_0f7a4_4 : decode cJ9_abs_0f7a4 4 = .ok (.iload_n 0, 1) := by decide +kernel
theorem dJ9_abs_0f7a4_5 : decode cJ9_abs_0f7a4 5 = .ok (.ineg, 1) := by decide +kernel
theorem dJ9_abs_0f7a4_6 : decode cJ9_abs_0f7a4 6 = .ok (.goto 4, 3) := by decide +kernel
theorem dJ9_abs_0f7a4_9 : decode cJ9_abs_0f7a4 9 = .ok (.iload_n 0, 1) := by decide +kernel
theorem dJ9_abs_0f7a4_10 : decode cJ9_abs_0f7a4 10 = .ok (.ireturn, 1) := by decide +kernel
theorem dJ9_min_7cf53_0 : decode cJ9_min_7cf53 0 = .ok (.iload_n 0, 1) := by decide +kernel
theorem dJ9_min_7cf53_1 : decode cJ9_min_7cf53 1 = .ok (.iload_n 1, 1) := by decide +kernel
theorem dJ9_min_7cf53_2 : decode cJ9_min_7cf53 2 = .ok (.if_icmp .gt 7, 3) := by decide +kernel
theorem dJ9_min_7cf53_5 : decode cJ9_min_7cf53 5 = .ok (.iload_n 0, 1) := by decide +kernel
theorem dJ9_min_7cf53_6 : decode cJ9_min_7cf53 6 = .ok (.goto 4, 3) := by decide +kernel
theorem dJ9_min_7cf53_9 : decode cJ9_min_7cf53 9 = .ok (.iload_n 1, 1) := by decide +kernel
theorem dJ9_min_7cf53_10 : decode cJ9_min_7cf53 10 = .ok (.ireturn, 1) := by decide +kernel
theorem dJ7_copyOf_59c91_0 : decode cJ7_copyOf_59c91 0 = .ok (.iload_n 1, 1) := by decide +kernel
theorem dJ7_copyOf_59c91_1 : decode cJ7_copyOf_59c91 1 = .ok (.aload_n 0, 1) := by decide +kernel
theorem dJ7_copyOf_59c91_2 : decode cJ7_copyOf_59c91 2 = .ok (.arraylength, 1) := by decide +kernel
theorem dJ7_copyOf_59c91_3 : decode cJ7_copyOf_59c91 3 = .ok (.if_icmp .ne 11, 3) := by decide +kernel
theorem dJ7_copyOf_59c91_6 : decode cJ7_copyOf_59c91 6 = .ok (.aload_n 0, 1) := by decide +kernel
theorem dJ7_copyOf_59c91_7 : decode cJ7_copyOf_59c91 7 = .ok (.invokevirtual 316, 3) := by decide +kernel
theorem dJ7_copyOf_59c91_10 : decode cJ7_copyOf_59c91 10 = .ok (.checkcast 317, 3) := by decide +kernel
theorem dJ7_copyOf_59c91_13 : decode cJ7_copyOf_59c91 13 = .ok (.areturn, 1) := by decide +kernel
theorem dJ7_copyOf_59c91_14 : decode cJ7_copyOf_59c91 14 = .ok (.iload_n 1, 1) := by decide +kernel
theorem dJ7_copyOf_59c91_15 : decode cJ7_copyOf_59c91 15 = .ok (.newarray .int, 2) := by decide +kernel
theorem dJ7_copyOf_59c91_17 : decode cJ7_copyOf_59c91 17 = .ok (.astore_n 2, 1) := by decide +kernel
theorem dJ7_copyOf_59c91_18 : decode cJ7_copyOf_59c91 18 = .ok (.aload_n 0, 1) := by decide +kernel
theorem dJ7_copyOf_59c91_19 : decode cJ7_copyOf_59c91 19 = .ok (.iconst 0, 1) := by decide +kernel
theorem dJ7_copyOf_59c91_20 : decode cJ7_copyOf_59c91 20 = .ok (.aload_n 2, 1) := by decide +kernel
theorem dJ7_copyOf_59c91_21 : decode cJ7_copyOf_59c91 21 = .ok (.iconst 0, 1) := by decide +kernel
theorem dJ7_copyOf_59c91_22 : decode cJ7_copyOf_59c91 22 = .ok (.aload_n 0, 1) := by decide +kernel
theorem dJ7_copyOf_59c91_23 : decode cJ7_copyOf_59c91 23 = .ok (.arraylength, 1) := by decide +kernel
theorem dJ7_copyOf_59c91_24 : decode cJ7_copyOf_59c91 24 = .ok (.iload_n 1, 1) := by decide +kernel
theorem dJ7_copyOf_59c91_25 : decode cJ7_copyOf_59c91 25 = .ok (.invokestatic 304, 3) := by decide +kernel
theorem dJ7_copyOf_59c91_28 : decode cJ7_copyOf_59c91 28 = .ok (.invokestatic 150, 3) := by decide +kernel
theorem dJ7_copyOf_59c91_31 : decode cJ7_copyOf_59c91 31 = .ok (.aload_n 2, 1) := by decide +kernel
theorem dJ7_copyOf_59c91_32 : decode cJ7_copyOf_59c91 32 = .ok (.areturn, 1) := by decide +kernel
