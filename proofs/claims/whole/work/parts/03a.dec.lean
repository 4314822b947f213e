theorem dX0_init_0 : decode cX0_init 0 = .ok (.aload_n 0, 1) := by decide +kernel
theorem dX0_init_1 : decode cX0_init 1 = .ok (.invokespecial 3, 3) := by decide +kernel
theorem dX0_init_4 : decode cX0_init 4 = .ok (.aload_n 0, 1) := by decide +kernel
theorem dX0_init_5 : decode cX0_init 5 = .ok (.bipush 60, 2) := by decide +kernel
theorem dX0_init_7 : decode cX0_init 7 = .ok (.newarray .int, 2) := by decide +kernel
theorem dX0_init_9 : decode cX0_init 9 = .ok (.putfield 9, 3) := by decide +kernel
theorem dX0_init_12 : decode cX0_init 12 = .ok (.aload_n 0, 1) := by decide +kernel
theorem dX0_init_13 : decode cX0_init 13 = .ok (.bipush 60, 2) := by decide +kernel
theorem dX0_init_15 : decode cX0_init 15 = .ok (.newarray .int, 2) := by decide +kernel
theorem dX0_init_17 : decode cX0_init 17 = .ok (.putfield 15, 3) := by decide +kernel
theorem dX0_init_20 : decode cX0_init 20 = .ok (.aload_n 0, 1) := by decide +kernel
theorem dX0_init_21 : decode cX0_init 21 = .ok (.aload_n 1, 1) := by decide +kernel
theorem dX0_init_22 : decode cX0_init 22 = .ok (.putfield 18, 3) := by decide +kernel
theorem dX0_init_25 : decode cX0_init 25 = .ok (.aload_n 0, 1) := by decide +kernel
theorem dX0_init_26 : decode cX0_init 26 = .ok (.aload_n 2, 1) := by decide +kernel
theorem dX0_init_27 : decode cX0_init 27 = .ok (.putfield 22, 3) := by decide +kernel
theorem dX0_init_30 : decode cX0_init 30 = .ok (.return_, 1) := by decide +kernel
theorem dX0_look_0 : decode cX0_look 0 = .ok (.aload_n 0, 1) := by decide +kernel
theorem dX0_look_1 : decode cX0_look 1 = .ok (.getfield 18, 3) := by decide +kernel
theorem dX0_look_4 : decode cX0_look 4 = .ok (.iload_n 2, 1) := by decide +kernel
theorem dX0_look_5 : decode cX0_look 5 = .ok (.invokevirtual 26, 3) := by decide +kernel
theorem dX0_look_8 : decode cX0_look 8 = .ok (.ifCond .eq 24, 3) := by decide +kernel
theorem dX0_look_11 : decode cX0_look 11 = .ok (.aload_n 0, 1) := by decide +kernel
theorem dX0_look_12 : decode cX0_look 12 = .ok (.getfield 18, 3) := by decide +kernel
theorem dX0_look_15 : decode cX0_look 15 = .ok (.getfield 32, 3) := by decide +kernel
theorem dX0_look_18 : decode cX0_look 18 = .ok (.iload_n 2, 1) := by decide +kernel
theorem dX0_look_19 : decode cX0_look 19 = .ok (.iaload, 1) := by decide +kernel
theorem dX0_look_20 : decode cX0_look 20 = .ok (.aload_n 0, 1) := by decide +kernel
theorem dX0_look_21 : decode cX0_look 21 = .ok (.getfield 22, 3) := by decide +kernel
theorem dX0_look_24 : decode cX0_look 24 = .ok (.getfield 35, 3) := by decide +kernel
theorem dX0_look_27 : decode cX0_look 27 = .ok (.iload_n 1, 1) := by decide +kernel
theorem dX0_look_28 : decode cX0_look 28 = .ok (.iaload, 1) := by decide +kernel
theorem dX0_look_29 : decode cX0_look 29 = .ok (.if_icmp .eq 4, 3) := by decide +kernel
theorem dX0_look_32 : decode cX0_look 32 = .ok (.return_, 1) := by decide +kernel
theorem dX0_look_33 : decode cX0_look 33 = .ok (.aload_n 0, 1) := by decide +kernel
theorem dX0_look_34 : decode cX0_look 34 = .ok (.getfield 38, 3) := by decide +kernel
theorem dX0_look_37 : decode cX0_look 37 = .ok (.ifCond .le 23, 3) := by decide +kernel
theorem dX0_look_40 : decode cX0_look 40 = .ok (.iload_n 2, 1) := by decide +kernel
theorem dX0_look_41 : decode cX0_look 41 = .ok (.aload_n 0, 1) := by decide +kernel
theorem dX0_look_42 : decode cX0_look 42 = .ok (.getfield 15, 3) := by decide +kernel
theorem dX0_look_45 : decode cX0_look 45 = .ok (.aload_n 0, 1) := by decide +kernel
theorem dX0_look_46 : decode cX0_look 46 = .ok (.getfield 38, 3) := by decide +kernel
theorem dX0_look_49 : decode cX0_look 49 = .ok (.iconst 1, 1) := by decide +kernel
theorem dX0_look_50 : decode cX0_look 50 = .ok (.isub, 1) := by decide +kernel
theorem dX0_look_51 : decode cX0_look 51 = .ok (.iaload, 1) := by decide +kernel
theorem dX0_look_52 : decode cX0_look 52 = .ok (.if_icmp .gt 8, 3) := by decide +kernel
theorem dX0_look_55 : decode cX0_look 55 = .ok (.aload_n 0, 1) := by decide +kernel
theorem dX0_look_56 : decode cX0_look 56 = .ok (.iconst 0, 1) := by decide +kernel
theorem dX0_look_57 : decode cX0_look 57 = .ok (.putfield 38, 3) := by decide +kernel
theorem dX0_look_60 : decode cX0_look 60 = .ok (.aload_n 0, 1) := by decide +kernel
theorem dX0_look_61 : decode cX0_look 61 = .ok (.getfield 38, 3) := by decide +kernel
theorem dX0_look_64 : decode cX0_look 64 = .ok (.bipush 60, 2) := by decide +kernel
theorem dX0_look_66 : decode cX0_look 66 = .ok (.if_icmp .lt 4, 3) := by decide +kernel
theorem dX0_look_69 : decode cX0_look 69 = .ok (.return_, 1) := by decide +kernel
theorem dX0_look_70 : decode cX0_look 70 = .ok (.aload_n 0, 1) := by decide +kernel
theorem dX0_look_71 : decode cX0_look 71 = .ok (.getfield 9, 3) := by decide +kernel
theorem dX0_look_74 : decode cX0_look 74 = .ok (.aload_n 0, 1) := by decide +kernel
theorem dX0_look_75 : decode cX0_look 75 = .ok (.getfield 38, 3) := by decide +kernel
theorem dX0_look_78 : decode cX0_look 78 = .ok (.iload_n 1, 1) := by decide +kernel
theorem dX0_look_79 : decode cX0_look 79 = .ok (.iastore, 1) := by decide +kernel
theorem dX0_look_80 : decode cX0_look 80 = .ok (.aload_n 0, 1) := by decide +kernel
theorem dX0_look_81 : decode cX0_look 81 = .ok (.getfield 15, 3) := by decide +kernel
theorem dX0_look_84 : decode cX0_look 84 = .ok (.aload_n 0, 1) := by decide +kernel
theorem dX0_look_85 : decode cX0_look 85 = .ok (.getfield 38, 3) := by decide +kernel
theorem dX0_look_88 : decode cX0_look 88 = .ok (.iload_n 2, 1) := by decide +kernel
theorem dX0_look_89 : decode cX0_look 89 = .ok (.iastore, 1) := by decide +kernel
theorem dX0_look_90 : decode cX0_look 90 = .ok (.aload_n 0, 1) := by decide +kernel
theorem dX0_look_91 : decode cX0_look 91 = .ok (.dup, 1) := by decide +kernel
theorem dX0_look_92 : decode cX0_look 92 = .ok (.getfield 38, 3) := by decide +kernel
theorem dX0_look_95 : decode cX0_look 95 = .ok (.iconst 1, 1) := by decide +kernel
theorem dX0_look_96 : decode cX0_look 96 = .ok (.iadd, 1) := by decide +kernel
theorem dX0_look_97 : decode cX0_look 97 = .ok (.putfield 38, 3) := by decide +kernel
theorem dX0_look_100 : decode cX0_look 100 = .ok (.return_, 1) := by decide +kernel
theorem dX0_timeGone_0 : decode cX0_timeGone 0 = .ok (.aload_n 0, 1) := by decide +kernel
theorem dX0_timeGone_1 : decode cX0_timeGone 1 = .ok (.getfield 38, 3) := by decide +kernel
theorem dX0_timeGone_4 : decode cX0_timeGone 4 = .ok (.iconst 2, 1) := by decide +kernel
theorem dX0_timeGone_5 : decode cX0_timeGone 5 = .ok (.if_icmp .ge 5, 3) := by decide +kernel
theorem dX0_timeGone_8 : decode cX0_timeGone 8 = .ok (.iconst 1, 1) := by decide +kernel
theorem dX0_timeGone_9 : decode cX0_timeGone 9 = .ok (.ireturn, 1) := by decide +kernel
theorem dX0_timeGone_10 : decode cX0_timeGone 10 = .ok (.aload_n 0, 1) := by decide +kernel
theorem dX0_timeGone_11 : decode cX0_timeGone 11 = .ok (.getfield 22, 3) := by decide +kernel
theorem dX0_timeGone_14 : decode cX0_timeGone 14 = .ok (.getfield 42, 3) := by decide +kernel
theorem dX0_timeGone_17 : decode cX0_timeGone 17 = .ok (.aload_n 0, 1) := by decide +kernel
theorem dX0_timeGone_18 : decode cX0_timeGone 18 = .ok (.getfield 9, 3) := by decide +kernel
theorem dX0_timeGone_21 : decode cX0_timeGone 21 = .ok (.aload_n 0, 1) := by decide +kernel
theorem dX0_timeGone_22 : decode cX0_timeGone 22 = .ok (.getfield 38, 3) := by decide +kernel
theorem dX0_timeGone_25 : decode cX0_timeGone 25 = .ok (.iconst 1, 1) := by decide +kernel
theorem dX0_timeGone_26 : decode cX0_timeGone 26 = .ok (.isub, 1) := by decide +kernel
theorem dX0_timeGone_27 : decode cX0_timeGone 27 = .ok (.iaload, 1) := by decide +kernel
theorem dX0_timeGone_28 : decode cX0_timeGone 28 = .ok (.iaload, 1) := by decide +kernel
theorem dX0_timeGone_29 : decode cX0_timeGone 29 = .ok (.aload_n 0, 1) := by decide +kernel
theorem dX0_timeGone_30 : decode cX0_timeGone 30 = .ok (.getfield 22, 3) := by decide +kernel
theorem dX0_timeGone_33 : decode cX0_timeGone 33 = .ok (.getfield 42, 3) := by decide +kernel
theorem dX0_timeGone_36 : decode cX0_timeGone 36 = .ok (.aload_n 0, 1) := by decide +kernel
theorem dX0_timeGone_37 : decode cX0_timeGone 37 = .ok (.getfield 9, 3) := by decide +kernel
theorem dX0_timeGone_40 : decode cX0_timeGone 40 = .ok (.aload_n 0, 1) := by decide +kernel
theorem dX0_timeGone_41 : decode cX0_timeGone 41 = .ok (.invokevirtual 45, 3) := by decide +kernel
theorem dX0_timeGone_44 : decode cX0_timeGone 44 = .ok (.iaload, 1) := by decide +kernel
theorem dX0_timeGone_45 : decode cX0_timeGone 45 = .ok (.iaload, 1) := by decide +kernel
theorem dX0_timeGone_46 : decode cX0_timeGone 46 = .ok (.isub, 1) := by decide +kernel
theorem dX0_timeGone_47 : decode cX0_timeGone 47 = .ok (.ireturn, 1) := by decide +kernel
theorem dX0_startGrown_0 : decode cX0_startGrown 0 = .ok (.aload_n 0, 1) := by decide +kernel
theorem dX0_startGrown_1 : decode cX0_startGrown 1 = .ok (.getfield 38, 3) := by decide +kernel
theorem dX0_startGrown_4 : decode cX0_startGrown 4 = .ok (.iconst 2, 1) := by decide +kernel
theorem dX0_startGrown_5 : decode cX0_startGrown 5 = .ok (.if_icmp .ge 5, 3) := by decide +kernel
theorem dX0_startGrown_8 : decode cX0_startGrown 8 = .ok (.iconst 1, 1) := by decide +kernel
theorem dX0_startGrown_9 : decode cX0_startGrown 9 = .ok (.ireturn, 1) := by decide +kernel
theorem dX0_startGrown_10 : decode cX0_startGrown 10 = .ok (.iconst 1, 1) := by decide +kernel
theorem dX0_startGrown_11 : decode cX0_startGrown 11 = .ok (.aload_n 0, 1) := by decide +kernel
theorem dX0_startGrown_12 : decode cX0_startGrown 12 = .ok (.getfield 18, 3) := by decide +kernel
theorem dX0_startGrown_15 : decode cX0_startGrown 15 = .ok (.getfield 49, 3) := by decide +kernel
theorem dX0_startGrown_18 : decode cX0_startGrown 18 = .ok (.aload_n 0, 1) := by decide +kernel
theorem dX0_startGrown_19 : decode cX0_startGrown 19 = .ok (.getfield 15, 3) := by decide +kernel
theorem dX0_startGrown_22 : decode cX0_startGrown 22 = .ok (.aload_n 0, 1) := by decide +kernel
theorem dX0_startGrown_23 : decode cX0_startGrown 23 = .ok (.getfield 38, 3) := by decide +kernel
theorem dX0_startGrown_26 : decode cX0_startGrown 26 = .ok (.iconst 1, 1) := by decide +kernel
theorem dX0_startGrown_27 : decode cX0_startGrown 27 = .ok (.isub, 1) := by decide +kernel
theorem dX0_startGrown_28 : decode cX0_startGrown 28 = .ok (.iaload, 1) := by decide +kernel
theorem dX0_startGrown_29 : decode cX0_startGrown 29 = .ok (.iaload, 1) := by decide +kernel
theorem dX0_startGrown_30 : decode cX0_startGrown 30 = .ok (.aload_n 0, 1) := by decide +kernel
theorem dX0_startGrown_31 : decode cX0_startGrown 31 = .ok (.getfield 18, 3) := by decide +kernel
theorem dX0_startGrown_34 : decode cX0_startGrown 34 = .ok (.getfield 49, 3) := by decide +kernel
theorem dX0_startGrown_37 : decode cX0_startGrown 37 = .ok (.aload_n 0, 1) := by decide +kernel
theorem dX0_startGrown_38 : decode cX0_startGrown 38 = .ok (.getfield 15, 3) := by decide +kernel
theorem dX0_startGrown_41 : decode cX0_startGrown 41 = .ok (.aload_n 0, 1) := by decide +kernel
theorem dX0_startGrown_42 : decode cX0_startGrown 42 = .ok (.invokevirtual 45, 3) := by decide +kernel
theorem dX0_startGrown_45 : decode cX0_startGrown 45 = .ok (.iaload, 1) := by decide +kernel
theorem dX0_startGrown_46 : decode cX0_startGrown 46 = .ok (.iaload, 1) := by decide +kernel
theorem dX0_startGrown_47 : decode cX0_startGrown 47 = .ok (.isub, 1) := by decide +kernel
theorem dX0_startGrown_48 : decode cX0_startGrown 48 = .ok (.invokestatic 52, 3) := by decide +kernel
theorem dX0_startGrown_51 : decode cX0_startGrown 51 = .ok (.ireturn, 1) := by decide +kernel
theorem dX0_expected_0 : decode cX0_expected 0 = .ok (.aload_n 0, 1) := by decide +kernel
theorem dX0_expected_1 : decode cX0_expected 1 = .ok (.getfield 38, 3) := by decide +kernel
theorem dX0_expected_4 : decode cX0_expected 4 = .ok (.ifCond .ne 7, 3) := by decide +kernel
theorem dX0_expected_7 : decode cX0_expected 7 = .ok (.ldc2_w 58, 3) := by decide +kernel
theorem dX0_expected_10 : decode cX0_expected 10 = .ok (.lreturn, 1) := by decide +kernel
theorem dX0_expected_11 : decode cX0_expected 11 = .ok (.aload_n 0, 1) := by decide +kernel
theorem dX0_expected_12 : decode cX0_expected 12 = .ok (.getfield 18, 3) := by decide +kernel
theorem dX0_expected_15 : decode cX0_expected 15 = .ok (.getfield 49, 3) := by decide +kernel
theorem dX0_expected_18 : decode cX0_expected 18 = .ok (.iload_n 1, 1) := by decide +kernel
theorem dX0_expected_19 : decode cX0_expected 19 = .ok (.iaload, 1) := by decide +kernel
theorem dX0_expected_20 : decode cX0_expected 20 = .ok (.aload_n 0, 1) := by decide +kernel
theorem dX0_expected_21 : decode cX0_expected 21 = .ok (.getfield 18, 3) := by decide +kernel
theorem dX0_expected_24 : decode cX0_expected 24 = .ok (.getfield 49, 3) := by decide +kernel
theorem dX0_expected_27 : decode cX0_expected 27 = .ok (.aload_n 0, 1) := by decide +kernel
theorem dX0_expected_28 : decode cX0_expected 28 = .ok (.getfield 15, 3) := by decide +kernel
theorem dX0_expected_31 : decode cX0_expected 31 = .ok (.aload_n 0, 1) := by decide +kernel
theorem dX0_expected_32 : decode cX0_expected 32 = .ok (.getfield 38, 3) := by decide +kernel
theorem dX0_expected_35 : decode cX0_expected 35 = .ok (.iconst 1, 1) := by decide +kernel
theorem dX0_expected_36 : decode cX0_expected 36 = .ok (.isub, 1) := by decide +kernel
theorem dX0_expected_37 : decode cX0_expected 37 = .ok (.iaload, 1) := by decide +kernel
theorem dX0_expected_38 : decode cX0_expected 38 = .ok (.iaload, 1) := by decide +kernel
theorem dX0_expected_39 : decode cX0_expected 39 = .ok (.isub, 1) := by decide +kernel
theorem dX0_expected_40 : decode cX0_expected 40 = .ok (.i2l, 1) := by decide +kernel
theorem dX0_expected_41 : decode cX0_expected 41 = .ok (.lstore_n 2, 1) := by decide +kernel
theorem dX0_expected_42 : decode cX0_expected 42 = .ok (.aload_n 0, 1) := by decide +kernel
theorem dX0_expected_43 : decode cX0_expected 43 = .ok (.getfield 22, 3) := by decide +kernel
theorem dX0_expected_46 : decode cX0_expected 46 = .ok (.getfield 42, 3) := by decide +kernel
theorem dX0_expected_49 : decode cX0_expected 49 = .ok (.aload_n 0, 1) := by decide +kernel
theorem dX0_expected_50 : decode cX0_expected 50 = .ok (.getfield 9, 3) := by decide +kernel
theorem dX0_expected_53 : decode cX0_expected 53 = .ok (.aload_n 0, 1) := by decide +kernel
theorem dX0_expected_54 : decode cX0_expected 54 = .ok (.getfield 38, 3) := by decide +kernel
theorem dX0_expected_57 : decode cX0_expected 57 = .ok (.iconst 1, 1) := by decide +kernel
theorem dX0_expected_58 : decode cX0_expected 58 = .ok (.isub, 1) := by decide +kernel
theorem dX0_expected_59 : decode cX0_expected 59 = .ok (.iaload, 1) := by decide +kernel
theorem dX0_expected_60 : decode cX0_expected 60 = .ok (.iaload, 1) := by decide +kernel
theorem dX0_expected_61 : decode cX0_expected 61 = .ok (.i2l, 1) := by decide +kernel
theorem dX0_expected_62 : decode cX0_expected 62 = .ok (.lload_n 2, 1) := by decide +kernel
theorem dX0_expected_63 : decode cX0_expected 63 = .ok (.aload_n 0, 1) := by decide +kernel
theorem dX0_expected_64 : decode cX0_expected 64 = .ok (.invokevirtual 60, 3) := by decide +kernel
theorem dX0_expected_67 : decode cX0_expected 67 = .ok (.i2l, 1) := by decide +kernel
theorem dX0_expected_68 : decode cX0_expected 68 = .ok (.lmul, 1) := by decide +kernel
theorem dX0_expected_69 : decode cX0_expected 69 = .ok (.aload_n 0, 1) := by decide +kernel
theorem dX0_expected_70 : decode cX0_expected 70 = .ok (.invokevirtual 63, 3) := by decide +kernel
theorem dX0_expected_73 : decode cX0_expected 73 = .ok (.i2l, 1) := by decide +kernel
theorem dX0_expected_74 : decode cX0_expected 74 = .ok (.invokestatic 66, 3) := by decide +kernel
theorem dX0_expected_77 : decode cX0_expected 77 = .ok (.ladd, 1) := by decide +kernel
theorem dX0_expected_78 : decode cX0_expected 78 = .ok (.lreturn, 1) := by decide +kernel
theorem dX0_firstOfLatest_0 : decode cX0_firstOfLatest 0 = .ok (.iconst 0, 1) := by decide +kernel
theorem dX0_firstOfLatest_1 : decode cX0_firstOfLatest 1 = .ok (.aload_n 0, 1) := by decide +kernel
theorem dX0_firstOfLatest_2 : decode cX0_firstOfLatest 2 = .ok (.getfield 38, 3) := by decide +kernel
theorem dX0_firstOfLatest_5 : decode cX0_firstOfLatest 5 = .ok (.iconst 4, 1) := by decide +kernel
theorem dX0_firstOfLatest_6 : decode cX0_firstOfLatest 6 = .ok (.isub, 1) := by decide +kernel
theorem dX0_firstOfLatest_7 : decode cX0_firstOfLatest 7 = .ok (.invokestatic 52, 3) := by decide +kernel
theorem dX0_firstOfLatest_10 : decode cX0_firstOfLatest 10 = .ok (.ireturn, 1) := by decide +kernel
theorem dX1_init_0 : decode cX1_init 0 = .ok (.aload_n 0, 1) := by decide +kernel
theorem dX1_init_1 : decode cX1_init 1 = .ok (.invokespecial 3, 3) := by decide +kernel
theorem dX1_init_4 : decode cX1_init 4 = .ok (.aload_n 0, 1) := by decide +kernel
theorem dX1_init_5 : decode cX1_init 5 = .ok (.sipush 7381, 3) := by decide +kernel
theorem dX1_init_8 : decode cX1_init 8 = .ok (.newarray .int, 2) := by decide +kernel
theorem dX1_init_10 : decode cX1_init 10 = .ok (.putfield 9, 3) := by decide +kernel
theorem dX1_init_13 : decode cX1_init 13 = .ok (.aload_n 0, 1) := by decide +kernel
theorem dX1_init_14 : decode cX1_init 14 = .ok (.bipush 120, 2) := by decide +kernel
theorem dX1_init_16 : decode cX1_init 16 = .ok (.newarray .int, 2) := by decide +kernel
theorem dX1_init_18 : decode cX1_init 18 = .ok (.putfield 15, 3) := by decide +kernel
theorem dX1_init_21 : decode cX1_init 21 = .ok (.aload_n 0, 1) := by decide +kernel
theorem dX1_init_22 : decode cX1_init 22 = .ok (.bipush 120, 2) := by decide +kernel
theorem dX1_init_24 : decode cX1_init 24 = .ok (.newarray .int, 2) := by decide +kernel
theorem dX1_init_26 : decode cX1_init 26 = .ok (.putfield 18, 3) := by decide +kernel
theorem dX1_init_29 : decode cX1_init 29 = .ok (.aload_n 0, 1) := by decide +kernel
theorem dX1_init_30 : decode cX1_init 30 = .ok (.bipush 120, 2) := by decide +kernel
theorem dX1_init_32 : decode cX1_init 32 = .ok (.newarray .int, 2) := by decide +kernel
theorem dX1_init_34 : decode cX1_init 34 = .ok (.putfield 21, 3) := by decide +kernel
theorem dX1_init_37 : decode cX1_init 37 = .ok (.aload_n 0, 1) := by decide +kernel
theorem dX1_init_38 : decode cX1_init 38 = .ok (.bipush 60, 2) := by decide +kernel
theorem dX1_init_40 : decode cX1_init 40 = .ok (.newarray .int, 2) := by decide +kernel
theorem dX1_init_42 : decode cX1_init 42 = .ok (.putfield 24, 3) := by decide +kernel
theorem dX1_init_45 : decode cX1_init 45 = .ok (.aload_n 0, 1) := by decide +kernel
theorem dX1_init_46 : decode cX1_init 46 = .ok (.bipush 60, 2) := by decide +kernel
theorem dX1_init_48 : decode cX1_init 48 = .ok (.newarray .int, 2) := by decide +kernel
theorem dX1_init_50 : decode cX1_init 50 = .ok (.putfield 27, 3) := by decide +kernel
theorem dX1_init_53 : decode cX1_init 53 = .ok (.aload_n 0, 1) := by decide +kernel
theorem dX1_init_54 : decode cX1_init 54 = .ok (.bipush 60, 2) := by decide +kernel
theorem dX1_init_56 : decode cX1_init 56 = .ok (.newarray .int, 2) := by decide +kernel
theorem dX1_init_58 : decode cX1_init 58 = .ok (.putfield 30, 3) := by decide +kernel
theorem dX1_init_61 : decode cX1_init 61 = .ok (.aload_n 0, 1) := by decide +kernel
theorem dX1_init_62 : decode cX1_init 62 = .ok (.aload_n 1, 1) := by decide +kernel
theorem dX1_init_63 : decode cX1_init 63 = .ok (.putfield 33, 3) := by decide +kernel
theorem dX1_init_66 : decode cX1_init 66 = .ok (.aload_n 0, 1) := by decide +kernel
theorem dX1_init_67 : decode cX1_init 67 = .ok (.aload_n 2, 1) := by decide +kernel
theorem dX1_init_68 : decode cX1_init 68 = .ok (.putfield 37, 3) := by decide +kernel
theorem dX1_init_71 : decode cX1_init 71 = .ok (.aload_n 0, 1) := by decide +kernel
theorem dX1_init_72 : decode cX1_init 72 = .ok (.aload_n 3, 1) := by decide +kernel
theorem dX1_init_73 : decode cX1_init 73 = .ok (.putfield 41, 3) := by decide +kernel
theorem dX1_init_76 : decode cX1_init 76 = .ok (.return_, 1) := by decide +kernel
theorem dX1_find_0 : decode cX1_find 0 = .ok (.iconst 0, 1) := by decide +kernel
theorem dX1_find_1 : decode cX1_find 1 = .ok (.istore_n 1, 1) := by decide +kernel
theorem dX1_find_2 : decode cX1_find 2 = .ok (.iload_n 1, 1) := by decide +kernel
theorem dX1_find_3 : decode cX1_find 3 = .ok (.aload_n 0, 1) := by decide +kernel
theorem dX1_find_4 : decode cX1_find 4 = .ok (.getfield 33, 3) := by decide +kernel
theorem dX1_find_7 : decode cX1_find 7 = .ok (.getfield 45, 3) := by decide +kernel
theorem dX1_find_10 : decode cX1_find 10 = .ok (.if_icmp .gt 27, 3) := by decide +kernel
theorem dX1_find_13 : decode cX1_find 13 = .ok (.aload_n 0, 1) := by decide +kernel
theorem dX1_find_14 : decode cX1_find 14 = .ok (.getfield 9, 3) := by decide +kernel
theorem dX1_find_17 : decode cX1_find 17 = .ok (.aload_n 0, 1) := by decide +kernel
theorem dX1_find_18 : decode cX1_find 18 = .ok (.getfield 41, 3) := by decide +kernel
theorem dX1_find_21 : decode cX1_find 21 = .ok (.getfield 51, 3) := by decide +kernel
theorem dX1_find_24 : decode cX1_find 24 = .ok (.bipush 61, 2) := by decide +kernel
theorem dX1_find_26 : decode cX1_find 26 = .ok (.imul, 1) := by decide +kernel
theorem dX1_find_27 : decode cX1_find 27 = .ok (.iload_n 1, 1) := by decide +kernel
theorem dX1_find_28 : decode cX1_find 28 = .ok (.iadd, 1) := by decide +kernel
theorem dX1_find_29 : decode cX1_find 29 = .ok (.iconst 0, 1) := by decide +kernel
theorem dX1_find_30 : decode cX1_find 30 = .ok (.iastore, 1) := by decide +kernel
theorem dX1_find_31 : decode cX1_find 31 = .ok (.iinc 1 1, 3) := by decide +kernel
theorem dX1_find_34 : decode cX1_find 34 = .ok (.goto (-32), 3) := by decide +kernel
theorem dX1_find_37 : decode cX1_find 37 = .ok (.aload_n 0, 1) := by decide +kernel
theorem dX1_find_38 : decode cX1_find 38 = .ok (.getfield 41, 3) := by decide +kernel
theorem dX1_find_41 : decode cX1_find 41 = .ok (.getfield 51, 3) := by decide +kernel
theorem dX1_find_44 : decode cX1_find 44 = .ok (.iconst 1, 1) := by decide +kernel
theorem dX1_find_45 : decode cX1_find 45 = .ok (.isub, 1) := by decide +kernel
theorem dX1_find_46 : decode cX1_find 46 = .ok (.istore_n 1, 1) := by decide +kernel
theorem dX1_find_47 : decode cX1_find 47 = .ok (.iload_n 1, 1) := by decide +kernel
theorem dX1_find_48 : decode cX1_find 48 = .ok (.ifCond .lt 19, 3) := by decide +kernel
theorem dX1_find_51 : decode cX1_find 51 = .ok (.aload_n 0, 1) := by decide +kernel
theorem dX1_find_52 : decode cX1_find 52 = .ok (.iload_n 1, 1) := by decide +kernel
theorem dX1_find_53 : decode cX1_find 53 = .ok (.invokevirtual 56, 3) := by decide +kernel
theorem dX1_find_56 : decode cX1_find 56 = .ok (.aload_n 0, 1) := by decide +kernel
theorem dX1_find_57 : decode cX1_find 57 = .ok (.iload_n 1, 1) := by decide +kernel
theorem dX1_find_58 : decode cX1_find 58 = .ok (.invokevirtual 60, 3) := by decide +kernel
theorem dX1_find_61 : decode cX1_find 61 = .ok (.iinc 1 (-1), 3) := by decide +kernel
theorem dX1_find_64 : decode cX1_find 64 = .ok (.goto (-17), 3) := by decide +kernel
theorem dX1_find_67 : decode cX1_find 67 = .ok (.aload_n 0, 1) := by decide +kernel
theorem dX1_find_68 : decode cX1_find 68 = .ok (.aload_n 0, 1) := by decide +kernel
theorem dX1_find_69 : decode cX1_find 69 = .ok (.iconst 0, 1) := by decide +kernel
theorem dX1_find_70 : decode cX1_find 70 = .ok (.iconst (-1), 1) := by decide +kernel
theorem dX1_find_71 : decode cX1_find 71 = .ok (.invokevirtual 63, 3) := by decide +kernel
theorem dX1_find_74 : decode cX1_find 74 = .ok (.putfield 67, 3) := by decide +kernel
theorem dX1_find_77 : decode cX1_find 77 = .ok (.aload_n 0, 1) := by decide +kernel
theorem dX1_find_78 : decode cX1_find 78 = .ok (.invokevirtual 70, 3) := by decide +kernel
theorem dX1_find_81 : decode cX1_find 81 = .ok (.aload_n 0, 1) := by decide +kernel
theorem dX1_find_82 : decode cX1_find 82 = .ok (.iconst 1, 1) := by decide +kernel
theorem dX1_find_83 : decode cX1_find 83 = .ok (.putfield 73, 3) := by decide +kernel
theorem dX1_find_86 : decode cX1_find 86 = .ok (.return_, 1) := by decide +kernel
theorem dX1_tell_0 : decode cX1_tell 0 = .ok (.aload_n 0, 1) := by decide +kernel
theorem dX1_tell_1 : decode cX1_tell 1 = .ok (.iload_n 1, 1) := by decide +kernel
theorem dX1_tell_2 : decode cX1_tell 2 = .ok (.invokevirtual 77, 3) := by decide +kernel
theorem dX1_tell_5 : decode cX1_tell 5 = .ok (.istore_n 3, 1) := by decide +kernel
theorem dX1_tell_6 : decode cX1_tell 6 = .ok (.aload_n 0, 1) := by decide +kernel
theorem dX1_tell_7 : decode cX1_tell 7 = .ok (.getfield 18, 3) := by decide +kernel
theorem dX1_tell_10 : decode cX1_tell 10 = .ok (.iload_n 3, 1) := by decide +kernel
theorem dX1_tell_11 : decode cX1_tell 11 = .ok (.iaload, 1) := by decide +kernel
theorem dX1_tell_12 : decode cX1_tell 12 = .ok (.istore 4, 2) := by decide +kernel
theorem dX1_tell_14 : decode cX1_tell 14 = .ok (.aload_n 0, 1) := by decide +kernel
theorem dX1_tell_15 : decode cX1_tell 15 = .ok (.getfield 15, 3) := by decide +kernel
theorem dX1_tell_18 : decode cX1_tell 18 = .ok (.iload_n 3, 1) := by decide +kernel
theorem dX1_tell_19 : decode cX1_tell 19 = .ok (.iaload, 1) := by decide +kernel
theorem dX1_tell_20 : decode cX1_tell 20 = .ok (.istore 5, 2) := by decide +kernel
theorem dX1_tell_22 : decode cX1_tell 22 = .ok (.iload 5, 2) := by decide +kernel
theorem dX1_tell_24 : decode cX1_tell 24 = .ok (.iload_n 1, 1) := by decide +kernel
theorem dX1_tell_25 : decode cX1_tell 25 = .ok (.if_icmp .gt 22, 3) := by decide +kernel
theorem dX1_tell_28 : decode cX1_tell 28 = .ok (.aload_n 0, 1) := by decide +kernel
theorem dX1_tell_29 : decode cX1_tell 29 = .ok (.iload_n 3, 1) := by decide +kernel
theorem dX1_tell_30 : decode cX1_tell 30 = .ok (.iload 4, 2) := by decide +kernel
theorem dX1_tell_32 : decode cX1_tell 32 = .ok (.invokevirtual 81, 3) := by decide +kernel
theorem dX1_tell_35 : decode cX1_tell 35 = .ok (.aload_n 0, 1) := by decide +kernel
theorem dX1_tell_36 : decode cX1_tell 36 = .ok (.getfield 85, 3) := by decide +kernel
theorem dX1_tell_39 : decode cX1_tell 39 = .ok (.istore 4, 2) := by decide +kernel
theorem dX1_tell_41 : decode cX1_tell 41 = .ok (.iinc 5 1, 3) := by decide +kernel
theorem dX1_tell_44 : decode cX1_tell 44 = .ok (.goto (-22), 3) := by decide +kernel
theorem dX1_tell_47 : decode cX1_tell 47 = .ok (.iload_n 2, 1) := by decide +kernel
theorem dX1_tell_48 : decode cX1_tell 48 = .ok (.tableswitch 52 0 2 #[28, 33, 38], 28) := by decide +kernel
theorem dX1_tell_76 : decode cX1_tell 76 = .ok (.aload_n 0, 1) := by decide +kernel
theorem dX1_tell_77 : decode cX1_tell 77 = .ok (.getfield 88, 3) := by decide +kernel
theorem dX1_tell_80 : decode cX1_tell 80 = .ok (.ireturn, 1) := by decide +kernel
theorem dX1_tell_81 : decode cX1_tell 81 = .ok (.aload_n 0, 1) := by decide +kernel
theorem dX1_tell_82 : decode cX1_tell 82 = .ok (.getfield 85, 3) := by decide +kernel
theorem dX1_tell_85 : decode cX1_tell 85 = .ok (.ireturn, 1) := by decide +kernel
theorem dX1_tell_86 : decode cX1_tell 86 = .ok (.aload_n 0, 1) := by decide +kernel
theorem dX1_tell_87 : decode cX1_tell 87 = .ok (.getfield 88, 3) := by decide +kernel
theorem dX1_tell_90 : decode cX1_tell 90 = .ok (.iconst 2, 1) := by decide +kernel
theorem dX1_tell_91 : decode cX1_tell 91 = .ok (.if_icmp .ne 7, 3) := by decide +kernel
theorem dX1_tell_94 : decode cX1_tell 94 = .ok (.iconst (-1), 1) := by decide +kernel
theorem dX1_tell_95 : decode cX1_tell 95 = .ok (.goto 4, 3) := by decide +kernel
theorem dX1_tell_98 : decode cX1_tell 98 = .ok (.iload_n 3, 1) := by decide +kernel
theorem dX1_tell_99 : decode cX1_tell 99 = .ok (.ireturn, 1) := by decide +kernel
theorem dX1_tell_100 : decode cX1_tell 100 = .ok (.aload_n 0, 1) := by decide +kernel
theorem dX1_tell_101 : decode cX1_tell 101 = .ok (.getfield 91, 3) := by decide +kernel
theorem dX1_tell_104 : decode cX1_tell 104 = .ok (.ireturn, 1) := by decide +kernel
theorem dX1_isTouched_0 : decode cX1_isTouched 0 = .ok (.aload_n 0, 1) := by decide +kernel
theorem dX1_isTouched_1 : decode cX1_isTouched 1 = .ok (.getfield 24, 3) := by decide +kernel
theorem dX1_isTouched_4 : decode cX1_isTouched 4 = .ok (.iload_n 1, 1) := by decide +kernel
theorem dX1_isTouched_5 : decode cX1_isTouched 5 = .ok (.iaload, 1) := by decide +kernel
theorem dX1_isTouched_6 : decode cX1_isTouched 6 = .ok (.ifCond .gt 12, 3) := by decide +kernel
theorem dX1_isTouched_9 : decode cX1_isTouched 9 = .ok (.aload_n 0, 1) := by decide +kernel
theorem dX1_isTouched_10 : decode cX1_isTouched 10 = .ok (.getfield 30, 3) := by decide +kernel
theorem dX1_isTouched_13 : decode cX1_isTouched 13 = .ok (.iload_n 1, 1) := by decide +kernel
theorem dX1_isTouched_14 : decode cX1_isTouched 14 = .ok (.iaload, 1) := by decide +kernel
theorem dX1_isTouched_15 : decode cX1_isTouched 15 = .ok (.ifCond .le 7, 3) := by decide +kernel
theorem dX1_isTouched_18 : decode cX1_isTouched 18 = .ok (.iconst 1, 1) := by decide +kernel
theorem dX1_isTouched_19 : decode cX1_isTouched 19 = .ok (.goto 4, 3) := by decide +kernel
theorem dX1_isTouched_22 : decode cX1_isTouched 22 = .ok (.iconst 0, 1) := by decide +kernel
theorem dX1_isTouched_23 : decode cX1_isTouched 23 = .ok (.ireturn, 1) := by decide +kernel
theorem dX1_isFaultless_0 : decode cX1_isFaultless 0 = .ok (.aload_n 0, 1) := by decide +kernel
theorem dX1_isFaultless_1 : decode cX1_isFaultless 1 = .ok (.getfield 24, 3) := by decide +kernel
theorem dX1_isFaultless_4 : decode cX1_isFaultless 4 = .ok (.iload_n 1, 1) := by decide +kernel
theorem dX1_isFaultless_5 : decode cX1_isFaultless 5 = .ok (.iaload, 1) := by decide +kernel
theorem dX1_isFaultless_6 : decode cX1_isFaultless 6 = .ok (.ifCond .le 31, 3) := by decide +kernel
theorem dX1_isFaultless_9 : decode cX1_isFaultless 9 = .ok (.aload_n 0, 1) := by decide +kernel
theorem dX1_isFaultless_10 : decode cX1_isFaultless 10 = .ok (.getfield 27, 3) := by decide +kernel
theorem dX1_isFaultless_13 : decode cX1_isFaultless 13 = .ok (.iload_n 1, 1) := by decide +kernel
theorem dX1_isFaultless_14 : decode cX1_isFaultless 14 = .ok (.iaload, 1) := by decide +kernel
theorem dX1_isFaultless_15 : decode cX1_isFaultless 15 = .ok (.aload_n 0, 1) := by decide +kernel
theorem dX1_isFaultless_16 : decode cX1_isFaultless 16 = .ok (.getfield 24, 3) := by decide +kernel
theorem dX1_isFaultless_19 : decode cX1_isFaultless 19 = .ok (.iload_n 1, 1) := by decide +kernel
theorem dX1_isFaultless_20 : decode cX1_isFaultless 20 = .ok (.iaload, 1) := by decide +kernel
theorem dX1_isFaultless_21 : decode cX1_isFaultless 21 = .ok (.if_icmp .ne 16, 3) := by decide +kernel
theorem dX1_isFaultless_24 : decode cX1_isFaultless 24 = .ok (.aload_n 0, 1) := by decide +kernel
theorem dX1_isFaultless_25 : decode cX1_isFaultless 25 = .ok (.getfield 30, 3) := by decide +kernel
theorem dX1_isFaultless_28 : decode cX1_isFaultless 28 = .ok (.iload_n 1, 1) := by decide +kernel
theorem dX1_isFaultless_29 : decode cX1_isFaultless 29 = .ok (.iaload, 1) := by decide +kernel
theorem dX1_isFaultless_30 : decode cX1_isFaultless 30 = .ok (.ifCond .ne 7, 3) := by decide +kernel
theorem dX1_isFaultless_33 : decode cX1_isFaultless 33 = .ok (.iconst 1, 1) := by decide +kernel
theorem dX1_isFaultless_34 : decode cX1_isFaultless 34 = .ok (.goto 4, 3) := by decide +kernel
theorem dX1_isFaultless_37 : decode cX1_isFaultless 37 = .ok (.iconst 0, 1) := by decide +kernel
theorem dX1_isFaultless_38 : decode cX1_isFaultless 38 = .ok (.ireturn, 1) := by decide +kernel
theorem dX1_restAt_0 : decode cX1_restAt 0 = .ok (.aload_n 0, 1) := by decide +kernel
theorem dX1_restAt_1 : decode cX1_restAt 1 = .ok (.getfield 9, 3) := by decide +kernel
theorem dX1_restAt_4 : decode cX1_restAt 4 = .ok (.iload_n 1, 1) := by decide +kernel
theorem dX1_restAt_5 : decode cX1_restAt 5 = .ok (.bipush 61, 2) := by decide +kernel
theorem dX1_restAt_7 : decode cX1_restAt 7 = .ok (.imul, 1) := by decide +kernel
theorem dX1_restAt_8 : decode cX1_restAt 8 = .ok (.iload_n 2, 1) := by decide +kernel
theorem dX1_restAt_9 : decode cX1_restAt 9 = .ok (.iadd, 1) := by decide +kernel
theorem dX1_restAt_10 : decode cX1_restAt 10 = .ok (.iconst 1, 1) := by decide +kernel
theorem dX1_restAt_11 : decode cX1_restAt 11 = .ok (.iadd, 1) := by decide +kernel
theorem dX1_restAt_12 : decode cX1_restAt 12 = .ok (.iaload, 1) := by decide +kernel
theorem dX1_restAt_13 : decode cX1_restAt 13 = .ok (.ireturn, 1) := by decide +kernel
theorem dX1_lowerRest_0 : decode cX1_lowerRest 0 = .ok (.iload_n 1, 1) := by decide +kernel
theorem dX1_lowerRest_1 : decode cX1_lowerRest 1 = .ok (.bipush 61, 2) := by decide +kernel
theorem dX1_lowerRest_3 : decode cX1_lowerRest 3 = .ok (.imul, 1) := by decide +kernel
theorem dX1_lowerRest_4 : decode cX1_lowerRest 4 = .ok (.iload_n 2, 1) := by decide +kernel
theorem dX1_lowerRest_5 : decode cX1_lowerRest 5 = .ok (.iadd, 1) := by decide +kernel
theorem dX1_lowerRest_6 : decode cX1_lowerRest 6 = .ok (.iconst 1, 1) := by decide +kernel
theorem dX1_lowerRest_7 : decode cX1_lowerRest 7 = .ok (.iadd, 1) := by decide +kernel
theorem dX1_lowerRest_8 : decode cX1_lowerRest 8 = .ok (.istore 4, 2) := by decide +kernel
theorem dX1_lowerRest_10 : decode cX1_lowerRest 10 = .ok (.aload_n 0, 1) := by decide +kernel
theorem dX1_lowerRest_11 : decode cX1_lowerRest 11 = .ok (.getfield 9, 3) := by decide +kernel
theorem dX1_lowerRest_14 : decode cX1_lowerRest 14 = .ok (.iload 4, 2) := by decide +kernel
theorem dX1_lowerRest_16 : decode cX1_lowerRest 16 = .ok (.aload_n 0, 1) := by decide +kernel
theorem dX1_lowerRest_17 : decode cX1_lowerRest 17 = .ok (.getfield 9, 3) := by decide +kernel
theorem dX1_lowerRest_20 : decode cX1_lowerRest 20 = .ok (.iload 4, 2) := by decide +kernel
theorem dX1_lowerRest_22 : decode cX1_lowerRest 22 = .ok (.iaload, 1) := by decide +kernel
theorem dX1_lowerRest_23 : decode cX1_lowerRest 23 = .ok (.iload_n 3, 1) := by decide +kernel
theorem dX1_lowerRest_24 : decode cX1_lowerRest 24 = .ok (.invokestatic 94, 3) := by decide +kernel
theorem dX1_lowerRest_27 : decode cX1_lowerRest 27 = .ok (.iastore, 1) := by decide +kernel
theorem dX1_lowerRest_28 : decode cX1_lowerRest 28 = .ok (.return_, 1) := by decide +kernel
theorem dX1_playPrice_0 : decode cX1_playPrice 0 = .ok (.aload_n 0, 1) := by decide +kernel
theorem dX1_playPrice_1 : decode cX1_playPrice 1 = .ok (.getfield 37, 3) := by decide +kernel
theorem dX1_playPrice_4 : decode cX1_playPrice 4 = .ok (.getfield 99, 3) := by decide +kernel
theorem dX1_playPrice_7 : decode cX1_playPrice 7 = .ok (.iload_n 1, 1) := by decide +kernel
theorem dX1_playPrice_8 : decode cX1_playPrice 8 = .ok (.iaload, 1) := by decide +kernel
theorem dX1_playPrice_9 : decode cX1_playPrice 9 = .ok (.aload_n 0, 1) := by decide +kernel
theorem dX1_playPrice_10 : decode cX1_playPrice 10 = .ok (.getfield 33, 3) := by decide +kernel
theorem dX1_playPrice_13 : decode cX1_playPrice 13 = .ok (.aload_n 0, 1) := by decide +kernel
theorem dX1_playPrice_14 : decode cX1_playPrice 14 = .ok (.getfield 37, 3) := by decide +kernel
theorem dX1_playPrice_17 : decode cX1_playPrice 17 = .ok (.getfield 104, 3) := by decide +kernel
theorem dX1_playPrice_20 : decode cX1_playPrice 20 = .ok (.iload_n 1, 1) := by decide +kernel
theorem dX1_playPrice_21 : decode cX1_playPrice 21 = .ok (.iaload, 1) := by decide +kernel
theorem dX1_playPrice_22 : decode cX1_playPrice 22 = .ok (.aload_n 0, 1) := by decide +kernel
theorem dX1_playPrice_23 : decode cX1_playPrice 23 = .ok (.getfield 41, 3) := by decide +kernel
theorem dX1_playPrice_26 : decode cX1_playPrice 26 = .ok (.getfield 107, 3) := by decide +kernel
theorem dX1_playPrice_29 : decode cX1_playPrice 29 = .ok (.iload_n 2, 1) := by decide +kernel
theorem dX1_playPrice_30 : decode cX1_playPrice 30 = .ok (.iaload, 1) := by decide +kernel
theorem dX1_playPrice_31 : decode cX1_playPrice 31 = .ok (.invokevirtual 110, 3) := by decide +kernel
theorem dX1_playPrice_34 : decode cX1_playPrice 34 = .ok (.iadd, 1) := by decide +kernel
theorem dX1_playPrice_35 : decode cX1_playPrice 35 = .ok (.ireturn, 1) := by decide +kernel
theorem dX1_leapPrice_0 : decode cX1_leapPrice 0 = .ok (.aload_n 0, 1) := by decide +kernel
theorem dX1_leapPrice_1 : decode cX1_leapPrice 1 = .ok (.getfield 33, 3) := by decide +kernel
theorem dX1_leapPrice_4 : decode cX1_leapPrice 4 = .ok (.getfield 113, 3) := by decide +kernel
theorem dX1_leapPrice_7 : decode cX1_leapPrice 7 = .ok (.iconst 4, 1) := by decide +kernel
theorem dX1_leapPrice_8 : decode cX1_leapPrice 8 = .ok (.iaload, 1) := by decide +kernel
theorem dX1_leapPrice_9 : decode cX1_leapPrice 9 = .ok (.aload_n 0, 1) := by decide +kernel
theorem dX1_leapPrice_10 : decode cX1_leapPrice 10 = .ok (.getfield 33, 3) := by decide +kernel
theorem dX1_leapPrice_13 : decode cX1_leapPrice 13 = .ok (.iload_n 1, 1) := by decide +kernel
theorem dX1_leapPrice_14 : decode cX1_leapPrice 14 = .ok (.aload_n 0, 1) := by decide +kernel
theorem dX1_leapPrice_15 : decode cX1_leapPrice 15 = .ok (.getfield 41, 3) := by decide +kernel
theorem dX1_leapPrice_18 : decode cX1_leapPrice 18 = .ok (.getfield 107, 3) := by decide +kernel
theorem dX1_leapPrice_21 : decode cX1_leapPrice 21 = .ok (.iload_n 2, 1) := by decide +kernel
theorem dX1_leapPrice_22 : decode cX1_leapPrice 22 = .ok (.iaload, 1) := by decide +kernel
theorem dX1_leapPrice_23 : decode cX1_leapPrice 23 = .ok (.invokevirtual 110, 3) := by decide +kernel
theorem dX1_leapPrice_26 : decode cX1_leapPrice 26 = .ok (.iadd, 1) := by decide +kernel
theorem dX1_leapPrice_27 : decode cX1_leapPrice 27 = .ok (.ireturn, 1) := by decide +kernel
theorem dX1_passPrice_0 : decode cX1_passPrice 0 = .ok (.aload_n 0, 1) := by decide +kernel
theorem dX1_passPrice_1 : decode cX1_passPrice 1 = .ok (.getfield 37, 3) := by decide +kernel
theorem dX1_passPrice_4 : decode cX1_passPrice 4 = .ok (.getfield 99, 3) := by decide +kernel
theorem dX1_passPrice_7 : decode cX1_passPrice 7 = .ok (.iload_n 1, 1) := by decide +kernel
theorem dX1_passPrice_8 : decode cX1_passPrice 8 = .ok (.iaload, 1) := by decide +kernel
theorem dX1_passPrice_9 : decode cX1_passPrice 9 = .ok (.aload_n 0, 1) := by decide +kernel
theorem dX1_passPrice_10 : decode cX1_passPrice 10 = .ok (.getfield 33, 3) := by decide +kernel
theorem dX1_passPrice_13 : decode cX1_passPrice 13 = .ok (.getfield 113, 3) := by decide +kernel
theorem dX1_passPrice_16 : decode cX1_passPrice 16 = .ok (.iconst 2, 1) := by decide +kernel
theorem dX1_passPrice_17 : decode cX1_passPrice 17 = .ok (.iaload, 1) := by decide +kernel
theorem dX1_passPrice_18 : decode cX1_passPrice 18 = .ok (.iadd, 1) := by decide +kernel
theorem dX1_passPrice_19 : decode cX1_passPrice 19 = .ok (.ireturn, 1) := by decide +kernel
theorem dX1_weighTaking_0 : decode cX1_weighTaking 0 = .ok (.ldc 116, 2) := by decide +kernel
theorem dX1_weighTaking_2 : decode cX1_weighTaking 2 = .ok (.istore_n 2, 1) := by decide +kernel
theorem dX1_weighTaking_3 : decode cX1_weighTaking 3 = .ok (.aload_n 0, 1) := by decide +kernel
theorem dX1_weighTaking_4 : decode cX1_weighTaking 4 = .ok (.getfield 33, 3) := by decide +kernel
theorem dX1_weighTaking_7 : decode cX1_weighTaking 7 = .ok (.invokevirtual 117, 3) := by decide +kernel
theorem dX1_weighTaking_10 : decode cX1_weighTaking 10 = .ok (.istore_n 3, 1) := by decide +kernel
theorem dX1_weighTaking_11 : decode cX1_weighTaking 11 = .ok (.iload_n 3, 1) := by decide +kernel
theorem dX1_weighTaking_12 : decode cX1_weighTaking 12 = .ok (.aload_n 0, 1) := by decide +kernel
theorem dX1_weighTaking_13 : decode cX1_weighTaking 13 = .ok (.getfield 33, 3) := by decide +kernel
theorem dX1_weighTaking_16 : decode cX1_weighTaking 16 = .ok (.invokevirtual 121, 3) := by decide +kernel
theorem dX1_weighTaking_19 : decode cX1_weighTaking 19 = .ok (.if_icmp .gt 29, 3) := by decide +kernel
theorem dX1_weighTaking_22 : decode cX1_weighTaking 22 = .ok (.iload_n 2, 1) := by decide +kernel
theorem dX1_weighTaking_23 : decode cX1_weighTaking 23 = .ok (.aload_n 0, 1) := by decide +kernel
theorem dX1_weighTaking_24 : decode cX1_weighTaking 24 = .ok (.iload_n 3, 1) := by decide +kernel
theorem dX1_weighTaking_25 : decode cX1_weighTaking 25 = .ok (.iload_n 1, 1) := by decide +kernel
theorem dX1_weighTaking_26 : decode cX1_weighTaking 26 = .ok (.invokevirtual 124, 3) := by decide +kernel
theorem dX1_weighTaking_29 : decode cX1_weighTaking 29 = .ok (.aload_n 0, 1) := by decide +kernel
theorem dX1_weighTaking_30 : decode cX1_weighTaking 30 = .ok (.iload_n 1, 1) := by decide +kernel
theorem dX1_weighTaking_31 : decode cX1_weighTaking 31 = .ok (.iconst 1, 1) := by decide +kernel
theorem dX1_weighTaking_32 : decode cX1_weighTaking 32 = .ok (.iadd, 1) := by decide +kernel
theorem dX1_weighTaking_33 : decode cX1_weighTaking 33 = .ok (.iload_n 3, 1) := by decide +kernel
theorem dX1_weighTaking_34 : decode cX1_weighTaking 34 = .ok (.invokevirtual 63, 3) := by decide +kernel
theorem dX1_weighTaking_37 : decode cX1_weighTaking 37 = .ok (.iadd, 1) := by decide +kernel
theorem dX1_weighTaking_38 : decode cX1_weighTaking 38 = .ok (.invokestatic 94, 3) := by decide +kernel
theorem dX1_weighTaking_41 : decode cX1_weighTaking 41 = .ok (.istore_n 2, 1) := by decide +kernel
theorem dX1_weighTaking_42 : decode cX1_weighTaking 42 = .ok (.iinc 3 1, 3) := by decide +kernel
theorem dX1_weighTaking_45 : decode cX1_weighTaking 45 = .ok (.goto (-34), 3) := by decide +kernel
theorem dX1_weighTaking_48 : decode cX1_weighTaking 48 = .ok (.iconst (-1), 1) := by decide +kernel
theorem dX1_weighTaking_49 : decode cX1_weighTaking 49 = .ok (.istore_n 3, 1) := by decide +kernel
theorem dX1_weighTaking_50 : decode cX1_weighTaking 50 = .ok (.iload_n 3, 1) := by decide +kernel
theorem dX1_weighTaking_51 : decode cX1_weighTaking 51 = .ok (.aload_n 0, 1) := by decide +kernel
theorem dX1_weighTaking_52 : decode cX1_weighTaking 52 = .ok (.getfield 33, 3) := by decide +kernel
theorem dX1_weighTaking_55 : decode cX1_weighTaking 55 = .ok (.getfield 45, 3) := by decide +kernel
theorem dX1_weighTaking_58 : decode cX1_weighTaking 58 = .ok (.if_icmp .ge 48, 3) := by decide +kernel
theorem dX1_weighTaking_61 : decode cX1_weighTaking 61 = .ok (.aload_n 0, 1) := by decide +kernel
theorem dX1_weighTaking_62 : decode cX1_weighTaking 62 = .ok (.getfield 33, 3) := by decide +kernel
theorem dX1_weighTaking_65 : decode cX1_weighTaking 65 = .ok (.getfield 113, 3) := by decide +kernel
theorem dX1_weighTaking_68 : decode cX1_weighTaking 68 = .ok (.iconst 1, 1) := by decide +kernel
theorem dX1_weighTaking_69 : decode cX1_weighTaking 69 = .ok (.iaload, 1) := by decide +kernel
theorem dX1_weighTaking_70 : decode cX1_weighTaking 70 = .ok (.aload_n 0, 1) := by decide +kernel
theorem dX1_weighTaking_71 : decode cX1_weighTaking 71 = .ok (.iload_n 1, 1) := by decide +kernel
theorem dX1_weighTaking_72 : decode cX1_weighTaking 72 = .ok (.iconst 1, 1) := by decide +kernel
theorem dX1_weighTaking_73 : decode cX1_weighTaking 73 = .ok (.iadd, 1) := by decide +kernel
theorem dX1_weighTaking_74 : decode cX1_weighTaking 74 = .ok (.iload_n 3, 1) := by decide +kernel
theorem dX1_weighTaking_75 : decode cX1_weighTaking 75 = .ok (.invokevirtual 63, 3) := by decide +kernel
theorem dX1_weighTaking_78 : decode cX1_weighTaking 78 = .ok (.iadd, 1) := by decide +kernel
theorem dX1_weighTaking_79 : decode cX1_weighTaking 79 = .ok (.istore 4, 2) := by decide +kernel
theorem dX1_weighTaking_81 : decode cX1_weighTaking 81 = .ok (.aload_n 0, 1) := by decide +kernel
theorem dX1_weighTaking_82 : decode cX1_weighTaking 82 = .ok (.getfield 9, 3) := by decide +kernel
theorem dX1_weighTaking_85 : decode cX1_weighTaking 85 = .ok (.iload_n 1, 1) := by decide +kernel
theorem dX1_weighTaking_86 : decode cX1_weighTaking 86 = .ok (.bipush 61, 2) := by decide +kernel
theorem dX1_weighTaking_88 : decode cX1_weighTaking 88 = .ok (.imul, 1) := by decide +kernel
theorem dX1_weighTaking_89 : decode cX1_weighTaking 89 = .ok (.iload_n 3, 1) := by decide +kernel
theorem dX1_weighTaking_90 : decode cX1_weighTaking 90 = .ok (.iadd, 1) := by decide +kernel
theorem dX1_weighTaking_91 : decode cX1_weighTaking 91 = .ok (.iconst 1, 1) := by decide +kernel
theorem dX1_weighTaking_92 : decode cX1_weighTaking 92 = .ok (.iadd, 1) := by decide +kernel
theorem dX1_weighTaking_93 : decode cX1_weighTaking 93 = .ok (.iload_n 2, 1) := by decide +kernel
theorem dX1_weighTaking_94 : decode cX1_weighTaking 94 = .ok (.iload 4, 2) := by decide +kernel
theorem dX1_weighTaking_96 : decode cX1_weighTaking 96 = .ok (.invokestatic 94, 3) := by decide +kernel
theorem dX1_weighTaking_99 : decode cX1_weighTaking 99 = .ok (.iastore, 1) := by decide +kernel
theorem dX1_weighTaking_100 : decode cX1_weighTaking 100 = .ok (.iinc 3 1, 3) := by decide +kernel
theorem dX1_weighTaking_103 : decode cX1_weighTaking 103 = .ok (.goto (-53), 3) := by decide +kernel
theorem dX1_weighTaking_106 : decode cX1_weighTaking 106 = .ok (.iconst 0, 1) := by decide +kernel
theorem dX1_weighTaking_107 : decode cX1_weighTaking 107 = .ok (.istore_n 3, 1) := by decide +kernel
theorem dX1_weighTaking_108 : decode cX1_weighTaking 108 = .ok (.iload_n 3, 1) := by decide +kernel
theorem dX1_weighTaking_109 : decode cX1_weighTaking 109 = .ok (.aload_n 0, 1) := by decide +kernel
theorem dX1_weighTaking_110 : decode cX1_weighTaking 110 = .ok (.getfield 37, 3) := by decide +kernel
theorem dX1_weighTaking_113 : decode cX1_weighTaking 113 = .ok (.getfield 127, 3) := by decide +kernel
theorem dX1_weighTaking_116 : decode cX1_weighTaking 116 = .ok (.if_icmp .ge 50, 3) := by decide +kernel
theorem dX1_weighTaking_119 : decode cX1_weighTaking 119 = .ok (.aload_n 0, 1) := by decide +kernel
theorem dX1_weighTaking_120 : decode cX1_weighTaking 120 = .ok (.iload_n 3, 1) := by decide +kernel
theorem dX1_weighTaking_121 : decode cX1_weighTaking 121 = .ok (.iload_n 1, 1) := by decide +kernel
theorem dX1_weighTaking_122 : decode cX1_weighTaking 122 = .ok (.invokevirtual 128, 3) := by decide +kernel
theorem dX1_weighTaking_125 : decode cX1_weighTaking 125 = .ok (.aload_n 0, 1) := by decide +kernel
theorem dX1_weighTaking_126 : decode cX1_weighTaking 126 = .ok (.iload_n 1, 1) := by decide +kernel
theorem dX1_weighTaking_127 : decode cX1_weighTaking 127 = .ok (.iconst 1, 1) := by decide +kernel
theorem dX1_weighTaking_128 : decode cX1_weighTaking 128 = .ok (.iadd, 1) := by decide +kernel
theorem dX1_weighTaking_129 : decode cX1_weighTaking 129 = .ok (.aload_n 0, 1) := by decide +kernel
theorem dX1_weighTaking_130 : decode cX1_weighTaking 130 = .ok (.getfield 37, 3) := by decide +kernel
theorem dX1_weighTaking_133 : decode cX1_weighTaking 133 = .ok (.getfield 104, 3) := by decide +kernel
theorem dX1_weighTaking_136 : decode cX1_weighTaking 136 = .ok (.iload_n 3, 1) := by decide +kernel
theorem dX1_weighTaking_137 : decode cX1_weighTaking 137 = .ok (.iaload, 1) := by decide +kernel
theorem dX1_weighTaking_138 : decode cX1_weighTaking 138 = .ok (.invokevirtual 63, 3) := by decide +kernel
theorem dX1_weighTaking_141 : decode cX1_weighTaking 141 = .ok (.iadd, 1) := by decide +kernel
theorem dX1_weighTaking_142 : decode cX1_weighTaking 142 = .ok (.istore 4, 2) := by decide +kernel
theorem dX1_weighTaking_144 : decode cX1_weighTaking 144 = .ok (.aload_n 0, 1) := by decide +kernel
theorem dX1_weighTaking_145 : decode cX1_weighTaking 145 = .ok (.iload_n 1, 1) := by decide +kernel
theorem dX1_weighTaking_146 : decode cX1_weighTaking 146 = .ok (.aload_n 0, 1) := by decide +kernel
theorem dX1_weighTaking_147 : decode cX1_weighTaking 147 = .ok (.getfield 37, 3) := by decide +kernel
theorem dX1_weighTaking_150 : decode cX1_weighTaking 150 = .ok (.getfield 131, 3) := by decide +kernel
theorem dX1_weighTaking_153 : decode cX1_weighTaking 153 = .ok (.iload_n 3, 1) := by decide +kernel
theorem dX1_weighTaking_154 : decode cX1_weighTaking 154 = .ok (.iaload, 1) := by decide +kernel
theorem dX1_weighTaking_155 : decode cX1_weighTaking 155 = .ok (.iload 4, 2) := by decide +kernel
theorem dX1_weighTaking_157 : decode cX1_weighTaking 157 = .ok (.invokevirtual 134, 3) := by decide +kernel
theorem dX1_weighTaking_160 : decode cX1_weighTaking 160 = .ok (.iinc 3 1, 3) := by decide +kernel
theorem dX1_weighTaking_163 : decode cX1_weighTaking 163 = .ok (.goto (-55), 3) := by decide +kernel
theorem dX1_weighTaking_166 : decode cX1_weighTaking 166 = .ok (.return_, 1) := by decide +kernel
theorem dX1_weighPassing_0 : decode cX1_weighPassing 0 = .ok (.iconst 1, 1) := by decide +kernel
theorem dX1_weighPassing_1 : decode cX1_weighPassing 1 = .ok (.istore_n 2, 1) := by decide +kernel
theorem dX1_weighPassing_2 : decode cX1_weighPassing 2 = .ok (.iconst 0, 1) := by decide +kernel
theorem dX1_weighPassing_3 : decode cX1_weighPassing 3 = .ok (.istore_n 3, 1) := by decide +kernel
theorem dX1_weighPassing_4 : decode cX1_weighPassing 4 = .ok (.iload_n 3, 1) := by decide +kernel
theorem dX1_weighPassing_5 : decode cX1_weighPassing 5 = .ok (.bipush 61, 2) := by decide +kernel
theorem dX1_weighPassing_7 : decode cX1_weighPassing 7 = .ok (.if_icmp .ge 100, 3) := by decide +kernel
theorem dX1_weighPassing_10 : decode cX1_weighPassing 10 = .ok (.iload_n 2, 1) := by decide +kernel
theorem dX1_weighPassing_11 : decode cX1_weighPassing 11 = .ok (.ifCond .eq 96, 3) := by decide +kernel
theorem dX1_weighPassing_14 : decode cX1_weighPassing 14 = .ok (.iconst 0, 1) := by decide +kernel
theorem dX1_weighPassing_15 : decode cX1_weighPassing 15 = .ok (.istore_n 2, 1) := by decide +kernel
theorem dX1_weighPassing_16 : decode cX1_weighPassing 16 = .ok (.aload_n 0, 1) := by decide +kernel
theorem dX1_weighPassing_17 : decode cX1_weighPassing 17 = .ok (.getfield 37, 3) := by decide +kernel
theorem dX1_weighPassing_20 : decode cX1_weighPassing 20 = .ok (.getfield 127, 3) := by decide +kernel
theorem dX1_weighPassing_23 : decode cX1_weighPassing 23 = .ok (.iconst 1, 1) := by decide +kernel
theorem dX1_weighPassing_24 : decode cX1_weighPassing 24 = .ok (.isub, 1) := by decide +kernel
theorem dX1_weighPassing_25 : decode cX1_weighPassing 25 = .ok (.istore 4, 2) := by decide +kernel
theorem dX1_weighPassing_27 : decode cX1_weighPassing 27 = .ok (.iload 4, 2) := by decide +kernel
theorem dX1_weighPassing_29 : decode cX1_weighPassing 29 = .ok (.ifCond .lt 72, 3) := by decide +kernel
theorem dX1_weighPassing_32 : decode cX1_weighPassing 32 = .ok (.aload_n 0, 1) := by decide +kernel
theorem dX1_weighPassing_33 : decode cX1_weighPassing 33 = .ok (.iload 4, 2) := by decide +kernel
theorem dX1_weighPassing_35 : decode cX1_weighPassing 35 = .ok (.invokevirtual 138, 3) := by decide +kernel
theorem dX1_weighPassing_38 : decode cX1_weighPassing 38 = .ok (.aload_n 0, 1) := by decide +kernel
theorem dX1_weighPassing_39 : decode cX1_weighPassing 39 = .ok (.iload_n 1, 1) := by decide +kernel
theorem dX1_weighPassing_40 : decode cX1_weighPassing 40 = .ok (.aload_n 0, 1) := by decide +kernel
theorem dX1_weighPassing_41 : decode cX1_weighPassing 41 = .ok (.getfield 37, 3) := by decide +kernel
theorem dX1_weighPassing_44 : decode cX1_weighPassing 44 = .ok (.getfield 104, 3) := by decide +kernel
theorem dX1_weighPassing_47 : decode cX1_weighPassing 47 = .ok (.iload 4, 2) := by decide +kernel
theorem dX1_weighPassing_49 : decode cX1_weighPassing 49 = .ok (.iaload, 1) := by decide +kernel
theorem dX1_weighPassing_50 : decode cX1_weighPassing 50 = .ok (.invokevirtual 63, 3) := by decide +kernel
theorem dX1_weighPassing_53 : decode cX1_weighPassing 53 = .ok (.iadd, 1) := by decide +kernel
theorem dX1_weighPassing_54 : decode cX1_weighPassing 54 = .ok (.istore 5, 2) := by decide +kernel
theorem dX1_weighPassing_56 : decode cX1_weighPassing 56 = .ok (.iload 5, 2) := by decide +kernel
theorem dX1_weighPassing_58 : decode cX1_weighPassing 58 = .ok (.aload_n 0, 1) := by decide +kernel
theorem dX1_weighPassing_59 : decode cX1_weighPassing 59 = .ok (.iload_n 1, 1) := by decide +kernel
theorem dX1_weighPassing_60 : decode cX1_weighPassing 60 = .ok (.aload_n 0, 1) := by decide +kernel
theorem dX1_weighPassing_61 : decode cX1_weighPassing 61 = .ok (.getfield 37, 3) := by decide +kernel
theorem dX1_weighPassing_64 : decode cX1_weighPassing 64 = .ok (.getfield 131, 3) := by decide +kernel
theorem dX1_weighPassing_67 : decode cX1_weighPassing 67 = .ok (.iload 4, 2) := by decide +kernel
theorem dX1_weighPassing_69 : decode cX1_weighPassing 69 = .ok (.iaload, 1) := by decide +kernel
theorem dX1_weighPassing_70 : decode cX1_weighPassing 70 = .ok (.invokevirtual 63, 3) := by decide +kernel
theorem dX1_weighPassing_73 : decode cX1_weighPassing 73 = .ok (.if_icmp .ge 22, 3) := by decide +kernel
theorem dX1_weighPassing_76 : decode cX1_weighPassing 76 = .ok (.aload_n 0, 1) := by decide +kernel
theorem dX1_weighPassing_77 : decode cX1_weighPassing 77 = .ok (.iload_n 1, 1) := by decide +kernel
theorem dX1_weighPassing_78 : decode cX1_weighPassing 78 = .ok (.aload_n 0, 1) := by decide +kernel
theorem dX1_weighPassing_79 : decode cX1_weighPassing 79 = .ok (.getfield 37, 3) := by decide +kernel
theorem dX1_weighPassing_82 : decode cX1_weighPassing 82 = .ok (.getfield 131, 3) := by decide +kernel
theorem dX1_weighPassing_85 : decode cX1_weighPassing 85 = .ok (.iload 4, 2) := by decide +kernel
theorem dX1_weighPassing_87 : decode cX1_weighPassing 87 = .ok (.iaload, 1) := by decide +kernel
theorem dX1_weighPassing_88 : decode cX1_weighPassing 88 = .ok (.iload 5, 2) := by decide +kernel
theorem dX1_weighPassing_90 : decode cX1_weighPassing 90 = .ok (.invokevirtual 134, 3) := by decide +kernel
theorem dX1_weighPassing_93 : decode cX1_weighPassing 93 = .ok (.iconst 1, 1) := by decide +kernel
theorem dX1_weighPassing_94 : decode cX1_weighPassing 94 = .ok (.istore_n 2, 1) := by decide +kernel
theorem dX1_weighPassing_95 : decode cX1_weighPassing 95 = .ok (.iinc 4 (-1), 3) := by decide +kernel
theorem dX1_weighPassing_98 : decode cX1_weighPassing 98 = .ok (.goto (-71), 3) := by decide +kernel
theorem dX1_weighPassing_101 : decode cX1_weighPassing 101 = .ok (.iinc 3 1, 3) := by decide +kernel
theorem dX1_weighPassing_104 : decode cX1_weighPassing 104 = .ok (.goto (-100), 3) := by decide +kernel
theorem dX1_weighPassing_107 : decode cX1_weighPassing 107 = .ok (.return_, 1) := by decide +kernel
theorem dX1_walk_0 : decode cX1_walk 0 = .ok (.aload_n 0, 1) := by decide +kernel
theorem dX1_walk_1 : decode cX1_walk 1 = .ok (.invokevirtual 141, 3) := by decide +kernel
theorem dX1_walk_4 : decode cX1_walk 4 = .ok (.iconst (-1), 1) := by decide +kernel
theorem dX1_walk_5 : decode cX1_walk 5 = .ok (.istore_n 1, 1) := by decide +kernel
theorem dX1_walk_6 : decode cX1_walk 6 = .ok (.iconst 0, 1) := by decide +kernel
theorem dX1_walk_7 : decode cX1_walk 7 = .ok (.istore_n 2, 1) := by decide +kernel
theorem dX1_walk_8 : decode cX1_walk 8 = .ok (.iload_n 2, 1) := by decide +kernel
theorem dX1_walk_9 : decode cX1_walk 9 = .ok (.aload_n 0, 1) := by decide +kernel
theorem dX1_walk_10 : decode cX1_walk 10 = .ok (.getfield 41, 3) := by decide +kernel
theorem dX1_walk_13 : decode cX1_walk 13 = .ok (.getfield 51, 3) := by decide +kernel
theorem dX1_walk_16 : decode cX1_walk 16 = .ok (.if_icmp .ge 33, 3) := by decide +kernel
theorem dX1_walk_19 : decode cX1_walk 19 = .ok (.aload_n 0, 1) := by decide +kernel
theorem dX1_walk_20 : decode cX1_walk 20 = .ok (.getfield 15, 3) := by decide +kernel
theorem dX1_walk_23 : decode cX1_walk 23 = .ok (.iload_n 2, 1) := by decide +kernel
theorem dX1_walk_24 : decode cX1_walk 24 = .ok (.aload_n 0, 1) := by decide +kernel
theorem dX1_walk_25 : decode cX1_walk 25 = .ok (.getfield 144, 3) := by decide +kernel
theorem dX1_walk_28 : decode cX1_walk 28 = .ok (.iastore, 1) := by decide +kernel
theorem dX1_walk_29 : decode cX1_walk 29 = .ok (.aload_n 0, 1) := by decide +kernel
theorem dX1_walk_30 : decode cX1_walk 30 = .ok (.getfield 18, 3) := by decide +kernel
theorem dX1_walk_33 : decode cX1_walk 33 = .ok (.iload_n 2, 1) := by decide +kernel
theorem dX1_walk_34 : decode cX1_walk 34 = .ok (.iload_n 1, 1) := by decide +kernel
theorem dX1_walk_35 : decode cX1_walk 35 = .ok (.iastore, 1) := by decide +kernel
theorem dX1_walk_36 : decode cX1_walk 36 = .ok (.aload_n 0, 1) := by decide +kernel
theorem dX1_walk_37 : decode cX1_walk 37 = .ok (.iload_n 2, 1) := by decide +kernel
theorem dX1_walk_38 : decode cX1_walk 38 = .ok (.iload_n 1, 1) := by decide +kernel
theorem dX1_walk_39 : decode cX1_walk 39 = .ok (.invokevirtual 145, 3) := by decide +kernel
theorem dX1_walk_42 : decode cX1_walk 42 = .ok (.istore_n 1, 1) := by decide +kernel
theorem dX1_walk_43 : decode cX1_walk 43 = .ok (.iinc 2 1, 3) := by decide +kernel
theorem dX1_walk_46 : decode cX1_walk 46 = .ok (.goto (-38), 3) := by decide +kernel
theorem dX1_walk_49 : decode cX1_walk 49 = .ok (.return_, 1) := by decide +kernel
theorem dX1_forgetCourse_0 : decode cX1_forgetCourse 0 = .ok (.aload_n 0, 1) := by decide +kernel
theorem dX1_forgetCourse_1 : decode cX1_forgetCourse 1 = .ok (.iconst 0, 1) := by decide +kernel
theorem dX1_forgetCourse_2 : decode cX1_forgetCourse 2 = .ok (.putfield 144, 3) := by decide +kernel
theorem dX1_forgetCourse_5 : decode cX1_forgetCourse 5 = .ok (.iconst 0, 1) := by decide +kernel
theorem dX1_forgetCourse_6 : decode cX1_forgetCourse 6 = .ok (.istore_n 1, 1) := by decide +kernel
theorem dX1_forgetCourse_7 : decode cX1_forgetCourse 7 = .ok (.iload_n 1, 1) := by decide +kernel
theorem dX1_forgetCourse_8 : decode cX1_forgetCourse 8 = .ok (.bipush 60, 2) := by decide +kernel
theorem dX1_forgetCourse_10 : decode cX1_forgetCourse 10 = .ok (.if_icmp .ge 30, 3) := by decide +kernel
theorem dX1_forgetCourse_13 : decode cX1_forgetCourse 13 = .ok (.aload_n 0, 1) := by decide +kernel
theorem dX1_forgetCourse_14 : decode cX1_forgetCourse 14 = .ok (.getfield 24, 3) := by decide +kernel
theorem dX1_forgetCourse_17 : decode cX1_forgetCourse 17 = .ok (.iload_n 1, 1) := by decide +kernel
theorem dX1_forgetCourse_18 : decode cX1_forgetCourse 18 = .ok (.iconst 0, 1) := by decide +kernel
theorem dX1_forgetCourse_19 : decode cX1_forgetCourse 19 = .ok (.iastore, 1) := by decide +kernel
theorem dX1_forgetCourse_20 : decode cX1_forgetCourse 20 = .ok (.aload_n 0, 1) := by decide +kernel
theorem dX1_forgetCourse_21 : decode cX1_forgetCourse 21 = .ok (.getfield 27, 3) := by decide +kernel
theorem dX1_forgetCourse_24 : decode cX1_forgetCourse 24 = .ok (.iload_n 1, 1) := by decide +kernel
theorem dX1_forgetCourse_25 : decode cX1_forgetCourse 25 = .ok (.iconst 0, 1) := by decide +kernel
theorem dX1_forgetCourse_26 : decode cX1_forgetCourse 26 = .ok (.iastore, 1) := by decide +kernel
theorem dX1_forgetCourse_27 : decode cX1_forgetCourse 27 = .ok (.aload_n 0, 1) := by decide +kernel
theorem dX1_forgetCourse_28 : decode cX1_forgetCourse 28 = .ok (.getfield 30, 3) := by decide +kernel
theorem dX1_forgetCourse_31 : decode cX1_forgetCourse 31 = .ok (.iload_n 1, 1) := by decide +kernel
theorem dX1_forgetCourse_32 : decode cX1_forgetCourse 32 = .ok (.iconst 0, 1) := by decide +kernel
theorem dX1_forgetCourse_33 : decode cX1_forgetCourse 33 = .ok (.iastore, 1) := by decide +kernel
theorem dX1_forgetCourse_34 : decode cX1_forgetCourse 34 = .ok (.iinc 1 1, 3) := by decide +kernel
theorem dX1_forgetCourse_37 : decode cX1_forgetCourse 37 = .ok (.goto (-30), 3) := by decide +kernel
theorem dX1_forgetCourse_40 : decode cX1_forgetCourse 40 = .ok (.return_, 1) := by decide +kernel
theorem dX1_walkThrough_0 : decode cX1_walkThrough 0 = .ok (.iload_n 2, 1) := by decide +kernel
theorem dX1_walkThrough_1 : decode cX1_walkThrough 1 = .ok (.istore_n 3, 1) := by decide +kernel
theorem dX1_walkThrough_2 : decode cX1_walkThrough 2 = .ok (.iconst 0, 1) := by decide +kernel
theorem dX1_walkThrough_3 : decode cX1_walkThrough 3 = .ok (.istore 4, 2) := by decide +kernel
theorem dX1_walkThrough_5 : decode cX1_walkThrough 5 = .ok (.iload 4, 2) := by decide +kernel
theorem dX1_walkThrough_7 : decode cX1_walkThrough 7 = .ok (.bipush 61, 2) := by decide +kernel
theorem dX1_walkThrough_9 : decode cX1_walkThrough 9 = .ok (.if_icmp .ge 51, 3) := by decide +kernel
theorem dX1_walkThrough_12 : decode cX1_walkThrough 12 = .ok (.aload_n 0, 1) := by decide +kernel
theorem dX1_walkThrough_13 : decode cX1_walkThrough 13 = .ok (.iload_n 1, 1) := by decide +kernel
theorem dX1_walkThrough_14 : decode cX1_walkThrough 14 = .ok (.iload_n 3, 1) := by decide +kernel
theorem dX1_walkThrough_15 : decode cX1_walkThrough 15 = .ok (.invokevirtual 81, 3) := by decide +kernel
theorem dX1_walkThrough_18 : decode cX1_walkThrough 18 = .ok (.aload_n 0, 1) := by decide +kernel
theorem dX1_walkThrough_19 : decode cX1_walkThrough 19 = .ok (.getfield 85, 3) := by decide +kernel
theorem dX1_walkThrough_22 : decode cX1_walkThrough 22 = .ok (.istore_n 3, 1) := by decide +kernel
theorem dX1_walkThrough_23 : decode cX1_walkThrough 23 = .ok (.aload_n 0, 1) := by decide +kernel
theorem dX1_walkThrough_24 : decode cX1_walkThrough 24 = .ok (.dup, 1) := by decide +kernel
theorem dX1_walkThrough_25 : decode cX1_walkThrough 25 = .ok (.getfield 144, 3) := by decide +kernel
theorem dX1_walkThrough_28 : decode cX1_walkThrough 28 = .ok (.iconst 1, 1) := by decide +kernel
theorem dX1_walkThrough_29 : decode cX1_walkThrough 29 = .ok (.iadd, 1) := by decide +kernel
theorem dX1_walkThrough_30 : decode cX1_walkThrough 30 = .ok (.putfield 144, 3) := by decide +kernel
theorem dX1_walkThrough_33 : decode cX1_walkThrough 33 = .ok (.aload_n 0, 1) := by decide +kernel
theorem dX1_walkThrough_34 : decode cX1_walkThrough 34 = .ok (.getfield 88, 3) := by decide +kernel
theorem dX1_walkThrough_37 : decode cX1_walkThrough 37 = .ok (.iconst 2, 1) := by decide +kernel
theorem dX1_walkThrough_38 : decode cX1_walkThrough 38 = .ok (.if_icmp .eq 6, 3) := by decide +kernel
theorem dX1_walkThrough_41 : decode cX1_walkThrough 41 = .ok (.goto 19, 3) := by decide +kernel
theorem dX1_walkThrough_44 : decode cX1_walkThrough 44 = .ok (.aload_n 0, 1) := by decide +kernel
theorem dX1_walkThrough_45 : decode cX1_walkThrough 45 = .ok (.getfield 30, 3) := by decide +kernel
theorem dX1_walkThrough_48 : decode cX1_walkThrough 48 = .ok (.iload_n 3, 1) := by decide +kernel
theorem dX1_walkThrough_49 : decode cX1_walkThrough 49 = .ok (.dup2, 1) := by decide +kernel
theorem dX1_walkThrough_50 : decode cX1_walkThrough 50 = .ok (.iaload, 1) := by decide +kernel
theorem dX1_walkThrough_51 : decode cX1_walkThrough 51 = .ok (.iconst 1, 1) := by decide +kernel
theorem dX1_walkThrough_52 : decode cX1_walkThrough 52 = .ok (.iadd, 1) := by decide +kernel
theorem dX1_walkThrough_53 : decode cX1_walkThrough 53 = .ok (.iastore, 1) := by decide +kernel
theorem dX1_walkThrough_54 : decode cX1_walkThrough 54 = .ok (.iinc 4 1, 3) := by decide +kernel
theorem dX1_walkThrough_57 : decode cX1_walkThrough 57 = .ok (.goto (-52), 3) := by decide +kernel
theorem dX1_walkThrough_60 : decode cX1_walkThrough 60 = .ok (.aload_n 0, 1) := by decide +kernel
theorem dX1_walkThrough_61 : decode cX1_walkThrough 61 = .ok (.iload_n 1, 1) := by decide +kernel
theorem dX1_walkThrough_62 : decode cX1_walkThrough 62 = .ok (.invokevirtual 148, 3) := by decide +kernel
theorem dX1_walkThrough_65 : decode cX1_walkThrough 65 = .ok (.iload_n 3, 1) := by decide +kernel
theorem dX1_walkThrough_66 : decode cX1_walkThrough 66 = .ok (.ireturn, 1) := by decide +kernel
theorem dX1_match_0 : decode cX1_match 0 = .ok (.aload_n 0, 1) := by decide +kernel
theorem dX1_match_1 : decode cX1_match 1 = .ok (.getfield 88, 3) := by decide +kernel
theorem dX1_match_4 : decode cX1_match 4 = .ok (.iconst 1, 1) := by decide +kernel
theorem dX1_match_5 : decode cX1_match 5 = .ok (.if_icmp .ne 7, 3) := by decide +kernel
theorem dX1_match_8 : decode cX1_match 8 = .ok (.iconst 1, 1) := by decide +kernel
theorem dX1_match_9 : decode cX1_match 9 = .ok (.goto 4, 3) := by decide +kernel
theorem dX1_match_12 : decode cX1_match 12 = .ok (.iconst 0, 1) := by decide +kernel
theorem dX1_match_13 : decode cX1_match 13 = .ok (.istore_n 2, 1) := by decide +kernel
theorem dX1_match_14 : decode cX1_match 14 = .ok (.aload_n 0, 1) := by decide +kernel
theorem dX1_match_15 : decode cX1_match 15 = .ok (.getfield 21, 3) := by decide +kernel
theorem dX1_match_18 : decode cX1_match 18 = .ok (.iload_n 1, 1) := by decide +kernel
theorem dX1_match_19 : decode cX1_match 19 = .ok (.iload_n 2, 1) := by decide +kernel
theorem dX1_match_20 : decode cX1_match 20 = .ok (.ifCond .eq 7, 3) := by decide +kernel
theorem dX1_match_23 : decode cX1_match 23 = .ok (.iconst (-1), 1) := by decide +kernel
theorem dX1_match_24 : decode cX1_match 24 = .ok (.goto 7, 3) := by decide +kernel
theorem dX1_match_27 : decode cX1_match 27 = .ok (.aload_n 0, 1) := by decide +kernel
theorem dX1_match_28 : decode cX1_match 28 = .ok (.getfield 85, 3) := by decide +kernel
theorem dX1_match_31 : decode cX1_match 31 = .ok (.iastore, 1) := by decide +kernel
theorem dX1_match_32 : decode cX1_match 32 = .ok (.iload_n 2, 1) := by decide +kernel
theorem dX1_match_33 : decode cX1_match 33 = .ok (.ifCond .eq 4, 3) := by decide +kernel
theorem dX1_match_36 : decode cX1_match 36 = .ok (.return_, 1) := by decide +kernel
theorem dX1_match_37 : decode cX1_match 37 = .ok (.aload_n 0, 1) := by decide +kernel
theorem dX1_match_38 : decode cX1_match 38 = .ok (.getfield 24, 3) := by decide +kernel
theorem dX1_match_41 : decode cX1_match 41 = .ok (.aload_n 0, 1) := by decide +kernel
theorem dX1_match_42 : decode cX1_match 42 = .ok (.getfield 85, 3) := by decide +kernel
theorem dX1_match_45 : decode cX1_match 45 = .ok (.dup2, 1) := by decide +kernel
theorem dX1_match_46 : decode cX1_match 46 = .ok (.iaload, 1) := by decide +kernel
theorem dX1_match_47 : decode cX1_match 47 = .ok (.iconst 1, 1) := by decide +kernel
theorem dX1_match_48 : decode cX1_match 48 = .ok (.iadd, 1) := by decide +kernel
theorem dX1_match_49 : decode cX1_match 49 = .ok (.iastore, 1) := by decide +kernel
theorem dX1_match_50 : decode cX1_match 50 = .ok (.aload_n 0, 1) := by decide +kernel
theorem dX1_match_51 : decode cX1_match 51 = .ok (.getfield 33, 3) := by decide +kernel
theorem dX1_match_54 : decode cX1_match 54 = .ok (.getfield 151, 3) := by decide +kernel
theorem dX1_match_57 : decode cX1_match 57 = .ok (.aload_n 0, 1) := by decide +kernel
theorem dX1_match_58 : decode cX1_match 58 = .ok (.getfield 85, 3) := by decide +kernel
theorem dX1_match_61 : decode cX1_match 61 = .ok (.iaload, 1) := by decide +kernel
theorem dX1_match_62 : decode cX1_match 62 = .ok (.aload_n 0, 1) := by decide +kernel
theorem dX1_match_63 : decode cX1_match 63 = .ok (.getfield 41, 3) := by decide +kernel
theorem dX1_match_66 : decode cX1_match 66 = .ok (.getfield 107, 3) := by decide +kernel
theorem dX1_match_69 : decode cX1_match 69 = .ok (.iload_n 1, 1) := by decide +kernel
theorem dX1_match_70 : decode cX1_match 70 = .ok (.iaload, 1) := by decide +kernel
theorem dX1_match_71 : decode cX1_match 71 = .ok (.if_icmp .ne 16, 3) := by decide +kernel
theorem dX1_match_74 : decode cX1_match 74 = .ok (.aload_n 0, 1) := by decide +kernel
theorem dX1_match_75 : decode cX1_match 75 = .ok (.getfield 27, 3) := by decide +kernel
theorem dX1_match_78 : decode cX1_match 78 = .ok (.aload_n 0, 1) := by decide +kernel
theorem dX1_match_79 : decode cX1_match 79 = .ok (.getfield 85, 3) := by decide +kernel
theorem dX1_match_82 : decode cX1_match 82 = .ok (.dup2, 1) := by decide +kernel
theorem dX1_match_83 : decode cX1_match 83 = .ok (.iaload, 1) := by decide +kernel
theorem dX1_match_84 : decode cX1_match 84 = .ok (.iconst 1, 1) := by decide +kernel
theorem dX1_match_85 : decode cX1_match 85 = .ok (.iadd, 1) := by decide +kernel
theorem dX1_match_86 : decode cX1_match 86 = .ok (.iastore, 1) := by decide +kernel
theorem dX1_match_87 : decode cX1_match 87 = .ok (.return_, 1) := by decide +kernel
theorem dX1_eventOf_0 : decode cX1_eventOf 0 = .ok (.aload_n 0, 1) := by decide +kernel
theorem dX1_eventOf_1 : decode cX1_eventOf 1 = .ok (.getfield 41, 3) := by decide +kernel
theorem dX1_eventOf_4 : decode cX1_eventOf 4 = .ok (.getfield 51, 3) := by decide +kernel
theorem dX1_eventOf_7 : decode cX1_eventOf 7 = .ok (.iconst 1, 1) := by decide +kernel
theorem dX1_eventOf_8 : decode cX1_eventOf 8 = .ok (.isub, 1) := by decide +kernel
theorem dX1_eventOf_9 : decode cX1_eventOf 9 = .ok (.istore_n 2, 1) := by decide +kernel
theorem dX1_eventOf_10 : decode cX1_eventOf 10 = .ok (.iload_n 2, 1) := by decide +kernel
theorem dX1_eventOf_11 : decode cX1_eventOf 11 = .ok (.ifCond .le 21, 3) := by decide +kernel
theorem dX1_eventOf_14 : decode cX1_eventOf 14 = .ok (.aload_n 0, 1) := by decide +kernel
theorem dX1_eventOf_15 : decode cX1_eventOf 15 = .ok (.getfield 15, 3) := by decide +kernel
theorem dX1_eventOf_18 : decode cX1_eventOf 18 = .ok (.iload_n 2, 1) := by decide +kernel
theorem dX1_eventOf_19 : decode cX1_eventOf 19 = .ok (.iaload, 1) := by decide +kernel
theorem dX1_eventOf_20 : decode cX1_eventOf 20 = .ok (.iload_n 1, 1) := by decide +kernel
theorem dX1_eventOf_21 : decode cX1_eventOf 21 = .ok (.if_icmp .gt 5, 3) := by decide +kernel
theorem dX1_eventOf_24 : decode cX1_eventOf 24 = .ok (.iload_n 2, 1) := by decide +kernel
theorem dX1_eventOf_25 : decode cX1_eventOf 25 = .ok (.ireturn, 1) := by decide +kernel
theorem dX1_eventOf_26 : decode cX1_eventOf 26 = .ok (.iinc 2 (-1), 3) := by decide +kernel
theorem dX1_eventOf_29 : decode cX1_eventOf 29 = .ok (.goto (-19), 3) := by decide +kernel
theorem dX1_eventOf_32 : decode cX1_eventOf 32 = .ok (.iconst 0, 1) := by decide +kernel
theorem dX1_eventOf_33 : decode cX1_eventOf 33 = .ok (.ireturn, 1) := by decide +kernel
theorem dX1_choose_0 : decode cX1_choose 0 = .ok (.aload_n 0, 1) := by decide +kernel
theorem dX1_choose_1 : decode cX1_choose 1 = .ok (.iload_n 1, 1) := by decide +kernel
theorem dX1_choose_2 : decode cX1_choose 2 = .ok (.iload_n 2, 1) := by decide +kernel
theorem dX1_choose_3 : decode cX1_choose 3 = .ok (.invokevirtual 152, 3) := by decide +kernel
theorem dX1_choose_6 : decode cX1_choose 6 = .ok (.ifCond .ne 21, 3) := by decide +kernel
theorem dX1_choose_9 : decode cX1_choose 9 = .ok (.aload_n 0, 1) := by decide +kernel
theorem dX1_choose_10 : decode cX1_choose 10 = .ok (.iload_n 1, 1) := by decide +kernel
theorem dX1_choose_11 : decode cX1_choose 11 = .ok (.iload_n 2, 1) := by decide +kernel
theorem dX1_choose_12 : decode cX1_choose 12 = .ok (.invokevirtual 156, 3) := by decide +kernel
theorem dX1_choose_15 : decode cX1_choose 15 = .ok (.ifCond .ne 12, 3) := by decide +kernel
theorem dX1_choose_18 : decode cX1_choose 18 = .ok (.aload_n 0, 1) := by decide +kernel
theorem dX1_choose_19 : decode cX1_choose 19 = .ok (.iload_n 1, 1) := by decide +kernel
theorem dX1_choose_20 : decode cX1_choose 20 = .ok (.iload_n 2, 1) := by decide +kernel
theorem dX1_choose_21 : decode cX1_choose 21 = .ok (.invokevirtual 159, 3) := by decide +kernel
theorem dX1_choose_24 : decode cX1_choose 24 = .ok (.ifCond .eq 4, 3) := by decide +kernel
theorem dX1_choose_27 : decode cX1_choose 27 = .ok (.return_, 1) := by decide +kernel
theorem dX1_choose_28 : decode cX1_choose 28 = .ok (.aload_n 0, 1) := by decide +kernel
theorem dX1_choose_29 : decode cX1_choose 29 = .ok (.iload_n 1, 1) := by decide +kernel
theorem dX1_choose_30 : decode cX1_choose 30 = .ok (.iload_n 2, 1) := by decide +kernel
theorem dX1_choose_31 : decode cX1_choose 31 = .ok (.invokevirtual 162, 3) := by decide +kernel
theorem dX1_choose_34 : decode cX1_choose 34 = .ok (.pop, 1) := by decide +kernel
theorem dX1_choose_35 : decode cX1_choose 35 = .ok (.return_, 1) := by decide +kernel
theorem dX1_plays_0 : decode cX1_plays 0 = .ok (.aload_n 0, 1) := by decide +kernel
theorem dX1_plays_1 : decode cX1_plays 1 = .ok (.getfield 37, 3) := by decide +kernel
theorem dX1_plays_4 : decode cX1_plays 4 = .ok (.iload_n 2, 1) := by decide +kernel
theorem dX1_plays_5 : decode cX1_plays 5 = .ok (.invokevirtual 165, 3) := by decide +kernel
theorem dX1_plays_8 : decode cX1_plays 8 = .ok (.istore_n 3, 1) := by decide +kernel
theorem dX1_plays_9 : decode cX1_plays 9 = .ok (.iload_n 3, 1) := by decide +kernel
theorem dX1_plays_10 : decode cX1_plays 10 = .ok (.aload_n 0, 1) := by decide +kernel
theorem dX1_plays_11 : decode cX1_plays 11 = .ok (.getfield 37, 3) := by decide +kernel
theorem dX1_plays_14 : decode cX1_plays 14 = .ok (.iload_n 2, 1) := by decide +kernel
theorem dX1_plays_15 : decode cX1_plays 15 = .ok (.invokevirtual 168, 3) := by decide +kernel
theorem dX1_plays_18 : decode cX1_plays 18 = .ok (.if_icmp .ge 62, 3) := by decide +kernel
theorem dX1_plays_21 : decode cX1_plays 21 = .ok (.aload_n 0, 1) := by decide +kernel
theorem dX1_plays_22 : decode cX1_plays 22 = .ok (.iload_n 1, 1) := by decide +kernel
theorem dX1_plays_23 : decode cX1_plays 23 = .ok (.iload_n 2, 1) := by decide +kernel
theorem dX1_plays_24 : decode cX1_plays 24 = .ok (.invokevirtual 63, 3) := by decide +kernel
theorem dX1_plays_27 : decode cX1_plays 27 = .ok (.aload_n 0, 1) := by decide +kernel
theorem dX1_plays_28 : decode cX1_plays 28 = .ok (.iload_n 1, 1) := by decide +kernel
theorem dX1_plays_29 : decode cX1_plays 29 = .ok (.iconst 1, 1) := by decide +kernel
theorem dX1_plays_30 : decode cX1_plays 30 = .ok (.iadd, 1) := by decide +kernel
theorem dX1_plays_31 : decode cX1_plays 31 = .ok (.aload_n 0, 1) := by decide +kernel
theorem dX1_plays_32 : decode cX1_plays 32 = .ok (.getfield 37, 3) := by decide +kernel
theorem dX1_plays_35 : decode cX1_plays 35 = .ok (.getfield 104, 3) := by decide +kernel
theorem dX1_plays_38 : decode cX1_plays 38 = .ok (.iload_n 3, 1) := by decide +kernel
theorem dX1_plays_39 : decode cX1_plays 39 = .ok (.iaload, 1) := by decide +kernel
theorem dX1_plays_40 : decode cX1_plays 40 = .ok (.invokevirtual 63, 3) := by decide +kernel
theorem dX1_plays_43 : decode cX1_plays 43 = .ok (.isub, 1) := by decide +kernel
theorem dX1_plays_44 : decode cX1_plays 44 = .ok (.istore 4, 2) := by decide +kernel
theorem dX1_plays_46 : decode cX1_plays 46 = .ok (.aload_n 0, 1) := by decide +kernel
theorem dX1_plays_47 : decode cX1_plays 47 = .ok (.iload_n 3, 1) := by decide +kernel
theorem dX1_plays_48 : decode cX1_plays 48 = .ok (.iload_n 1, 1) := by decide +kernel
theorem dX1_plays_49 : decode cX1_plays 49 = .ok (.invokevirtual 128, 3) := by decide +kernel
theorem dX1_plays_52 : decode cX1_plays 52 = .ok (.iload 4, 2) := by decide +kernel
theorem dX1_plays_54 : decode cX1_plays 54 = .ok (.if_icmp .ne 20, 3) := by decide +kernel
theorem dX1_plays_57 : decode cX1_plays 57 = .ok (.aload_n 0, 1) := by decide +kernel
theorem dX1_plays_58 : decode cX1_plays 58 = .ok (.iconst 0, 1) := by decide +kernel
theorem dX1_plays_59 : decode cX1_plays 59 = .ok (.aload_n 0, 1) := by decide +kernel
theorem dX1_plays_60 : decode cX1_plays 60 = .ok (.getfield 37, 3) := by decide +kernel
theorem dX1_plays_63 : decode cX1_plays 63 = .ok (.getfield 104, 3) := by decide +kernel
theorem dX1_plays_66 : decode cX1_plays 66 = .ok (.iload_n 3, 1) := by decide +kernel
theorem dX1_plays_67 : decode cX1_plays 67 = .ok (.iaload, 1) := by decide +kernel
theorem dX1_plays_68 : decode cX1_plays 68 = .ok (.iload 4, 2) := by decide +kernel
theorem dX1_plays_70 : decode cX1_plays 70 = .ok (.invokevirtual 171, 3) := by decide +kernel
theorem dX1_plays_73 : decode cX1_plays 73 = .ok (.ireturn, 1) := by decide +kernel
theorem dX1_plays_74 : decode cX1_plays 74 = .ok (.iinc 3 1, 3) := by decide +kernel
theorem dX1_plays_77 : decode cX1_plays 77 = .ok (.goto (-68), 3) := by decide +kernel
theorem dX1_plays_80 : decode cX1_plays 80 = .ok (.iconst 0, 1) := by decide +kernel
theorem dX1_plays_81 : decode cX1_plays 81 = .ok (.ireturn, 1) := by decide +kernel
theorem dX1_stays_0 : decode cX1_stays 0 = .ok (.aload_n 0, 1) := by decide +kernel
theorem dX1_stays_1 : decode cX1_stays 1 = .ok (.iload_n 1, 1) := by decide +kernel
theorem dX1_stays_2 : decode cX1_stays 2 = .ok (.iload_n 2, 1) := by decide +kernel
theorem dX1_stays_3 : decode cX1_stays 3 = .ok (.invokevirtual 63, 3) := by decide +kernel
theorem dX1_stays_6 : decode cX1_stays 6 = .ok (.aload_n 0, 1) := by decide +kernel
theorem dX1_stays_7 : decode cX1_stays 7 = .ok (.iload_n 1, 1) := by decide +kernel
theorem dX1_stays_8 : decode cX1_stays 8 = .ok (.iconst 1, 1) := by decide +kernel
theorem dX1_stays_9 : decode cX1_stays 9 = .ok (.iadd, 1) := by decide +kernel
theorem dX1_stays_10 : decode cX1_stays 10 = .ok (.iload_n 2, 1) := by decide +kernel
theorem dX1_stays_11 : decode cX1_stays 11 = .ok (.invokevirtual 63, 3) := by decide +kernel
theorem dX1_stays_14 : decode cX1_stays 14 = .ok (.isub, 1) := by decide +kernel
theorem dX1_stays_15 : decode cX1_stays 15 = .ok (.istore_n 3, 1) := by decide +kernel
theorem dX1_stays_16 : decode cX1_stays 16 = .ok (.aload_n 0, 1) := by decide +kernel
theorem dX1_stays_17 : decode cX1_stays 17 = .ok (.getfield 33, 3) := by decide +kernel
theorem dX1_stays_20 : decode cX1_stays 20 = .ok (.getfield 113, 3) := by decide +kernel
theorem dX1_stays_23 : decode cX1_stays 23 = .ok (.iconst 1, 1) := by decide +kernel
theorem dX1_stays_24 : decode cX1_stays 24 = .ok (.iaload, 1) := by decide +kernel
theorem dX1_stays_25 : decode cX1_stays 25 = .ok (.iload_n 3, 1) := by decide +kernel
theorem dX1_stays_26 : decode cX1_stays 26 = .ok (.if_icmp .eq 5, 3) := by decide +kernel
theorem dX1_stays_29 : decode cX1_stays 29 = .ok (.iconst 0, 1) := by decide +kernel
theorem dX1_stays_30 : decode cX1_stays 30 = .ok (.ireturn, 1) := by decide +kernel
theorem dX1_stays_31 : decode cX1_stays 31 = .ok (.aload_n 0, 1) := by decide +kernel
theorem dX1_stays_32 : decode cX1_stays 32 = .ok (.iconst 1, 1) := by decide +kernel
theorem dX1_stays_33 : decode cX1_stays 33 = .ok (.iload_n 2, 1) := by decide +kernel
theorem dX1_stays_34 : decode cX1_stays 34 = .ok (.iload_n 3, 1) := by decide +kernel
theorem dX1_stays_35 : decode cX1_stays 35 = .ok (.invokevirtual 171, 3) := by decide +kernel
theorem dX1_stays_38 : decode cX1_stays 38 = .ok (.ireturn, 1) := by decide +kernel
theorem dX1_passes_0 : decode cX1_passes 0 = .ok (.aload_n 0, 1) := by decide +kernel
theorem dX1_passes_1 : decode cX1_passes 1 = .ok (.getfield 37, 3) := by decide +kernel
theorem dX1_passes_4 : decode cX1_passes 4 = .ok (.iload_n 2, 1) := by decide +kernel
theorem dX1_passes_5 : decode cX1_passes 5 = .ok (.invokevirtual 165, 3) := by decide +kernel
theorem dX1_passes_8 : decode cX1_passes 8 = .ok (.istore_n 3, 1) := by decide +kernel
theorem dX1_passes_9 : decode cX1_passes 9 = .ok (.iload_n 3, 1) := by decide +kernel
theorem dX1_passes_10 : decode cX1_passes 10 = .ok (.aload_n 0, 1) := by decide +kernel
theorem dX1_passes_11 : decode cX1_passes 11 = .ok (.getfield 37, 3) := by decide +kernel
theorem dX1_passes_14 : decode cX1_passes 14 = .ok (.iload_n 2, 1) := by decide +kernel
theorem dX1_passes_15 : decode cX1_passes 15 = .ok (.invokevirtual 168, 3) := by decide +kernel
theorem dX1_passes_18 : decode cX1_passes 18 = .ok (.if_icmp .ge 59, 3) := by decide +kernel
theorem dX1_passes_21 : decode cX1_passes 21 = .ok (.aload_n 0, 1) := by decide +kernel
theorem dX1_passes_22 : decode cX1_passes 22 = .ok (.iload_n 1, 1) := by decide +kernel
theorem dX1_passes_23 : decode cX1_passes 23 = .ok (.iload_n 2, 1) := by decide +kernel
theorem dX1_passes_24 : decode cX1_passes 24 = .ok (.invokevirtual 63, 3) := by decide +kernel
theorem dX1_passes_27 : decode cX1_passes 27 = .ok (.aload_n 0, 1) := by decide +kernel
theorem dX1_passes_28 : decode cX1_passes 28 = .ok (.iload_n 1, 1) := by decide +kernel
theorem dX1_passes_29 : decode cX1_passes 29 = .ok (.aload_n 0, 1) := by decide +kernel
theorem dX1_passes_30 : decode cX1_passes 30 = .ok (.getfield 37, 3) := by decide +kernel
theorem dX1_passes_33 : decode cX1_passes 33 = .ok (.getfield 104, 3) := by decide +kernel
theorem dX1_passes_36 : decode cX1_passes 36 = .ok (.iload_n 3, 1) := by decide +kernel
theorem dX1_passes_37 : decode cX1_passes 37 = .ok (.iaload, 1) := by decide +kernel
theorem dX1_passes_38 : decode cX1_passes 38 = .ok (.invokevirtual 63, 3) := by decide +kernel
theorem dX1_passes_41 : decode cX1_passes 41 = .ok (.isub, 1) := by decide +kernel
theorem dX1_passes_42 : decode cX1_passes 42 = .ok (.istore 4, 2) := by decide +kernel
theorem dX1_passes_44 : decode cX1_passes 44 = .ok (.aload_n 0, 1) := by decide +kernel
theorem dX1_passes_45 : decode cX1_passes 45 = .ok (.iload_n 3, 1) := by decide +kernel
theorem dX1_passes_46 : decode cX1_passes 46 = .ok (.invokevirtual 138, 3) := by decide +kernel
theorem dX1_passes_49 : decode cX1_passes 49 = .ok (.iload 4, 2) := by decide +kernel
theorem dX1_passes_51 : decode cX1_passes 51 = .ok (.if_icmp .ne 20, 3) := by decide +kernel
theorem dX1_passes_54 : decode cX1_passes 54 = .ok (.aload_n 0, 1) := by decide +kernel
theorem dX1_passes_55 : decode cX1_passes 55 = .ok (.iconst 2, 1) := by decide +kernel
theorem dX1_passes_56 : decode cX1_passes 56 = .ok (.aload_n 0, 1) := by decide +kernel
theorem dX1_passes_57 : decode cX1_passes 57 = .ok (.getfield 37, 3) := by decide +kernel
theorem dX1_passes_60 : decode cX1_passes 60 = .ok (.getfield 104, 3) := by decide +kernel
theorem dX1_passes_63 : decode cX1_passes 63 = .ok (.iload_n 3, 1) := by decide +kernel
theorem dX1_passes_64 : decode cX1_passes 64 = .ok (.iaload, 1) := by decide +kernel
theorem dX1_passes_65 : decode cX1_passes 65 = .ok (.iload 4, 2) := by decide +kernel
theorem dX1_passes_67 : decode cX1_passes 67 = .ok (.invokevirtual 171, 3) := by decide +kernel
theorem dX1_passes_70 : decode cX1_passes 70 = .ok (.ireturn, 1) := by decide +kernel
theorem dX1_passes_71 : decode cX1_passes 71 = .ok (.iinc 3 1, 3) := by decide +kernel
theorem dX1_passes_74 : decode cX1_passes 74 = .ok (.goto (-65), 3) := by decide +kernel
theorem dX1_passes_77 : decode cX1_passes 77 = .ok (.iconst 0, 1) := by decide +kernel
theorem dX1_passes_78 : decode cX1_passes 78 = .ok (.ireturn, 1) := by decide +kernel
theorem dX1_leaps_0 : decode cX1_leaps 0 = .ok (.aload_n 0, 1) := by decide +kernel
theorem dX1_leaps_1 : decode cX1_leaps 1 = .ok (.getfield 33, 3) := by decide +kernel
theorem dX1_leaps_4 : decode cX1_leaps 4 = .ok (.invokevirtual 117, 3) := by decide +kernel
theorem dX1_leaps_7 : decode cX1_leaps 7 = .ok (.istore_n 3, 1) := by decide +kernel
theorem dX1_leaps_8 : decode cX1_leaps 8 = .ok (.iload_n 3, 1) := by decide +kernel
theorem dX1_leaps_9 : decode cX1_leaps 9 = .ok (.aload_n 0, 1) := by decide +kernel
theorem dX1_leaps_10 : decode cX1_leaps 10 = .ok (.getfield 33, 3) := by decide +kernel
theorem dX1_leaps_13 : decode cX1_leaps 13 = .ok (.invokevirtual 121, 3) := by decide +kernel
theorem dX1_leaps_16 : decode cX1_leaps 16 = .ok (.if_icmp .gt 46, 3) := by decide +kernel
theorem dX1_leaps_19 : decode cX1_leaps 19 = .ok (.aload_n 0, 1) := by decide +kernel
theorem dX1_leaps_20 : decode cX1_leaps 20 = .ok (.iload_n 1, 1) := by decide +kernel
theorem dX1_leaps_21 : decode cX1_leaps 21 = .ok (.iload_n 2, 1) := by decide +kernel
theorem dX1_leaps_22 : decode cX1_leaps 22 = .ok (.invokevirtual 63, 3) := by decide +kernel
theorem dX1_leaps_25 : decode cX1_leaps 25 = .ok (.aload_n 0, 1) := by decide +kernel
theorem dX1_leaps_26 : decode cX1_leaps 26 = .ok (.iload_n 1, 1) := by decide +kernel
theorem dX1_leaps_27 : decode cX1_leaps 27 = .ok (.iconst 1, 1) := by decide +kernel
theorem dX1_leaps_28 : decode cX1_leaps 28 = .ok (.iadd, 1) := by decide +kernel
theorem dX1_leaps_29 : decode cX1_leaps 29 = .ok (.iload_n 3, 1) := by decide +kernel
theorem dX1_leaps_30 : decode cX1_leaps 30 = .ok (.invokevirtual 63, 3) := by decide +kernel
theorem dX1_leaps_33 : decode cX1_leaps 33 = .ok (.isub, 1) := by decide +kernel
theorem dX1_leaps_34 : decode cX1_leaps 34 = .ok (.istore 4, 2) := by decide +kernel
theorem dX1_leaps_36 : decode cX1_leaps 36 = .ok (.aload_n 0, 1) := by decide +kernel
theorem dX1_leaps_37 : decode cX1_leaps 37 = .ok (.iload_n 3, 1) := by decide +kernel
theorem dX1_leaps_38 : decode cX1_leaps 38 = .ok (.iload_n 1, 1) := by decide +kernel
theorem dX1_leaps_39 : decode cX1_leaps 39 = .ok (.invokevirtual 124, 3) := by decide +kernel
theorem dX1_leaps_42 : decode cX1_leaps 42 = .ok (.iload 4, 2) := by decide +kernel
theorem dX1_leaps_44 : decode cX1_leaps 44 = .ok (.if_icmp .ne 12, 3) := by decide +kernel
theorem dX1_leaps_47 : decode cX1_leaps 47 = .ok (.aload_n 0, 1) := by decide +kernel
theorem dX1_leaps_48 : decode cX1_leaps 48 = .ok (.iconst 3, 1) := by decide +kernel
theorem dX1_leaps_49 : decode cX1_leaps 49 = .ok (.iload_n 3, 1) := by decide +kernel
theorem dX1_leaps_50 : decode cX1_leaps 50 = .ok (.iload 4, 2) := by decide +kernel
theorem dX1_leaps_52 : decode cX1_leaps 52 = .ok (.invokevirtual 171, 3) := by decide +kernel
theorem dX1_leaps_55 : decode cX1_leaps 55 = .ok (.ireturn, 1) := by decide +kernel
theorem dX1_leaps_56 : decode cX1_leaps 56 = .ok (.iinc 3 1, 3) := by decide +kernel
theorem dX1_leaps_59 : decode cX1_leaps 59 = .ok (.goto (-51), 3) := by decide +kernel
theorem dX1_leaps_62 : decode cX1_leaps 62 = .ok (.iconst 0, 1) := by decide +kernel
theorem dX1_leaps_63 : decode cX1_leaps 63 = .ok (.ireturn, 1) := by decide +kernel
theorem dX1_chosen_0 : decode cX1_chosen 0 = .ok (.aload_n 0, 1) := by decide +kernel
theorem dX1_chosen_1 : decode cX1_chosen 1 = .ok (.iload_n 1, 1) := by decide +kernel
theorem dX1_chosen_2 : decode cX1_chosen 2 = .ok (.putfield 88, 3) := by decide +kernel
theorem dX1_chosen_5 : decode cX1_chosen 5 = .ok (.aload_n 0, 1) := by decide +kernel
theorem dX1_chosen_6 : decode cX1_chosen 6 = .ok (.iload_n 2, 1) := by decide +kernel
theorem dX1_chosen_7 : decode cX1_chosen 7 = .ok (.putfield 85, 3) := by decide +kernel
theorem dX1_chosen_10 : decode cX1_chosen 10 = .ok (.aload_n 0, 1) := by decide +kernel
theorem dX1_chosen_11 : decode cX1_chosen 11 = .ok (.iload_n 3, 1) := by decide +kernel
theorem dX1_chosen_12 : decode cX1_chosen 12 = .ok (.putfield 91, 3) := by decide +kernel
theorem dX1_chosen_15 : decode cX1_chosen 15 = .ok (.iconst 1, 1) := by decide +kernel
theorem dX1_chosen_16 : decode cX1_chosen 16 = .ok (.ireturn, 1) := by decide +kernel
theorem dX2_init_0 : decode cX2_init 0 = .ok (.aload_n 0, 1) := by decide +kernel
theorem dX2_init_1 : decode cX2_init 1 = .ok (.invokespecial 3, 3) := by decide +kernel
theorem dX2_init_4 : decode cX2_init 4 = .ok (.aload_n 0, 1) := by decide +kernel
theorem dX2_init_5 : decode cX2_init 5 = .ok (.bipush 60, 2) := by decide +kernel
theorem dX2_init_7 : decode cX2_init 7 = .ok (.newarray .int, 2) := by decide +kernel
theorem dX2_init_9 : decode cX2_init 9 = .ok (.putfield 9, 3) := by decide +kernel
theorem dX2_init_12 : decode cX2_init 12 = .ok (.aload_n 0, 1) := by decide +kernel
theorem dX2_init_13 : decode cX2_init 13 = .ok (.bipush 60, 2) := by decide +kernel
theorem dX2_init_15 : decode cX2_init 15 = .ok (.newarray .int, 2) := by decide +kernel
theorem dX2_init_17 : decode cX2_init 17 = .ok (.putfield 15, 3) := by decide +kernel
theorem dX2_init_20 : decode cX2_init 20 = .ok (.return_, 1) := by decide +kernel
theorem dX2_open_0 : decode cX2_open 0 = .ok (.aload_n 0, 1) := by decide +kernel
theorem dX2_open_1 : decode cX2_open 1 = .ok (.getfield 9, 3) := by decide +kernel
theorem dX2_open_4 : decode cX2_open 4 = .ok (.iload_n 1, 1) := by decide +kernel
theorem dX2_open_5 : decode cX2_open 5 = .ok (.iconst 0, 1) := by decide +kernel
theorem dX2_open_6 : decode cX2_open 6 = .ok (.iastore, 1) := by decide +kernel
theorem dX2_open_7 : decode cX2_open 7 = .ok (.aload_n 0, 1) := by decide +kernel
theorem dX2_open_8 : decode cX2_open 8 = .ok (.getfield 15, 3) := by decide +kernel
theorem dX2_open_11 : decode cX2_open 11 = .ok (.iload_n 1, 1) := by decide +kernel
theorem dX2_open_12 : decode cX2_open 12 = .ok (.iconst 0, 1) := by decide +kernel
theorem dX2_open_13 : decode cX2_open 13 = .ok (.iastore, 1) := by decide +kernel
theorem dX2_open_14 : decode cX2_open 14 = .ok (.return_, 1) := by decide +kernel
theorem dX2_raise_0 : decode cX2_raise 0 = .ok (.aload_n 0, 1) := by decide +kernel
theorem dX2_raise_1 : decode cX2_raise 1 = .ok (.iload_n 1, 1) := by decide +kernel
theorem dX2_raise_2 : decode cX2_raise 2 = .ok (.iconst 5, 1) := by decide +kernel
theorem dX2_raise_3 : decode cX2_raise 3 = .ok (.aload_n 0, 1) := by decide +kernel
theorem dX2_raise_4 : decode cX2_raise 4 = .ok (.getfield 9, 3) := by decide +kernel
theorem dX2_raise_7 : decode cX2_raise 7 = .ok (.iload_n 1, 1) := by decide +kernel
theorem dX2_raise_8 : decode cX2_raise 8 = .ok (.iaload, 1) := by decide +kernel
theorem dX2_raise_9 : decode cX2_raise 9 = .ok (.iconst 1, 1) := by decide +kernel
theorem dX2_raise_10 : decode cX2_raise 10 = .ok (.iadd, 1) := by decide +kernel
theorem dX2_raise_11 : decode cX2_raise 11 = .ok (.invokestatic 18, 3) := by decide +kernel
theorem dX2_raise_14 : decode cX2_raise 14 = .ok (.invokevirtual 24, 3) := by decide +kernel
theorem dX2_raise_17 : decode cX2_raise 17 = .ok (.return_, 1) := by decide +kernel
theorem dX2_drop_0 : decode cX2_drop 0 = .ok (.aload_n 0, 1) := by decide +kernel
theorem dX2_drop_1 : decode cX2_drop 1 = .ok (.iload_n 1, 1) := by decide +kernel
theorem dX2_drop_2 : decode cX2_drop 2 = .ok (.iconst 0, 1) := by decide +kernel
theorem dX2_drop_3 : decode cX2_drop 3 = .ok (.invokevirtual 24, 3) := by decide +kernel
theorem dX2_drop_6 : decode cX2_drop 6 = .ok (.return_, 1) := by decide +kernel
theorem dX2_put_0 : decode cX2_put 0 = .ok (.aload_n 0, 1) := by decide +kernel
theorem dX2_put_1 : decode cX2_put 1 = .ok (.getfield 9, 3) := by decide +kernel
theorem dX2_put_4 : decode cX2_put 4 = .ok (.iload_n 1, 1) := by decide +kernel
theorem dX2_put_5 : decode cX2_put 5 = .ok (.iload_n 2, 1) := by decide +kernel
theorem dX2_put_6 : decode cX2_put 6 = .ok (.iastore, 1) := by decide +kernel
theorem dX2_put_7 : decode cX2_put 7 = .ok (.aload_n 0, 1) := by decide +kernel
theorem dX2_put_8 : decode cX2_put 8 = .ok (.getfield 15, 3) := by decide +kernel
theorem dX2_put_11 : decode cX2_put 11 = .ok (.iload_n 1, 1) := by decide +kernel
theorem dX2_put_12 : decode cX2_put 12 = .ok (.aload_n 0, 1) := by decide +kernel
theorem dX2_put_13 : decode cX2_put 13 = .ok (.getfield 28, 3) := by decide +kernel
theorem dX2_put_16 : decode cX2_put 16 = .ok (.iconst 1, 1) := by decide +kernel
theorem dX2_put_17 : decode cX2_put 17 = .ok (.iload_n 2, 1) := by decide +kernel
theorem dX2_put_18 : decode cX2_put 18 = .ok (.ishl, 1) := by decide +kernel
theorem dX2_put_19 : decode cX2_put 19 = .ok (.iadd, 1) := by decide +kernel
theorem dX2_put_20 : decode cX2_put 20 = .ok (.iastore, 1) := by decide +kernel
theorem dX2_put_21 : decode cX2_put 21 = .ok (.return_, 1) := by decide +kernel
theorem dX2_countDue_0 : decode cX2_countDue 0 = .ok (.iconst 0, 1) := by decide +kernel
theorem dX2_countDue_1 : decode cX2_countDue 1 = .ok (.istore_n 2, 1) := by decide +kernel
theorem dX2_countDue_2 : decode cX2_countDue 2 = .ok (.iconst 0, 1) := by decide +kernel
theorem dX2_countDue_3 : decode cX2_countDue 3 = .ok (.istore_n 3, 1) := by decide +kernel
theorem dX2_countDue_4 : decode cX2_countDue 4 = .ok (.iload_n 3, 1) := by decide +kernel
theorem dX2_countDue_5 : decode cX2_countDue 5 = .ok (.iload_n 1, 1) := by decide +kernel
theorem dX2_countDue_6 : decode cX2_countDue 6 = .ok (.if_icmp .ge 25, 3) := by decide +kernel
theorem dX2_countDue_9 : decode cX2_countDue 9 = .ok (.aload_n 0, 1) := by decide +kernel
theorem dX2_countDue_10 : decode cX2_countDue 10 = .ok (.getfield 15, 3) := by decide +kernel
theorem dX2_countDue_13 : decode cX2_countDue 13 = .ok (.iload_n 3, 1) := by decide +kernel
theorem dX2_countDue_14 : decode cX2_countDue 14 = .ok (.iaload, 1) := by decide +kernel
theorem dX2_countDue_15 : decode cX2_countDue 15 = .ok (.aload_n 0, 1) := by decide +kernel
theorem dX2_countDue_16 : decode cX2_countDue 16 = .ok (.getfield 28, 3) := by decide +kernel
theorem dX2_countDue_19 : decode cX2_countDue 19 = .ok (.if_icmp .gt 6, 3) := by decide +kernel
theorem dX2_countDue_22 : decode cX2_countDue 22 = .ok (.iinc 2 1, 3) := by decide +kernel
theorem dX2_countDue_25 : decode cX2_countDue 25 = .ok (.iinc 3 1, 3) := by decide +kernel
theorem dX2_countDue_28 : decode cX2_countDue 28 = .ok (.goto (-24), 3) := by decide +kernel
theorem dX2_countDue_31 : decode cX2_countDue 31 = .ok (.iload_n 2, 1) := by decide +kernel
theorem dX2_countDue_32 : decode cX2_countDue 32 = .ok (.ireturn, 1) := by decide +kernel
theorem dX2_dueAt_0 : decode cX2_dueAt 0 = .ok (.iload_n 1, 1) := by decide +kernel
theorem dX2_dueAt_1 : decode cX2_dueAt 1 = .ok (.istore_n 3, 1) := by decide +kernel
theorem dX2_dueAt_2 : decode cX2_dueAt 2 = .ok (.iconst 0, 1) := by decide +kernel
theorem dX2_dueAt_3 : decode cX2_dueAt 3 = .ok (.istore 4, 2) := by decide +kernel
theorem dX2_dueAt_5 : decode cX2_dueAt 5 = .ok (.iload 4, 2) := by decide +kernel
theorem dX2_dueAt_7 : decode cX2_dueAt 7 = .ok (.iconst 5, 1) := by decide +kernel
theorem dX2_dueAt_8 : decode cX2_dueAt 8 = .ok (.if_icmp .gt 63, 3) := by decide +kernel
theorem dX2_dueAt_11 : decode cX2_dueAt 11 = .ok (.iconst 0, 1) := by decide +kernel
theorem dX2_dueAt_12 : decode cX2_dueAt 12 = .ok (.istore 5, 2) := by decide +kernel
theorem dX2_dueAt_14 : decode cX2_dueAt 14 = .ok (.iload 5, 2) := by decide +kernel
theorem dX2_dueAt_16 : decode cX2_dueAt 16 = .ok (.iload_n 2, 1) := by decide +kernel
theorem dX2_dueAt_17 : decode cX2_dueAt 17 = .ok (.if_icmp .ge 48, 3) := by decide +kernel
theorem dX2_dueAt_20 : decode cX2_dueAt 20 = .ok (.aload_n 0, 1) := by decide +kernel
theorem dX2_dueAt_21 : decode cX2_dueAt 21 = .ok (.getfield 9, 3) := by decide +kernel
theorem dX2_dueAt_24 : decode cX2_dueAt 24 = .ok (.iload 5, 2) := by decide +kernel
theorem dX2_dueAt_26 : decode cX2_dueAt 26 = .ok (.iaload, 1) := by decide +kernel
theorem dX2_dueAt_27 : decode cX2_dueAt 27 = .ok (.iload 4, 2) := by decide +kernel
theorem dX2_dueAt_29 : decode cX2_dueAt 29 = .ok (.if_icmp .ne 30, 3) := by decide +kernel
theorem dX2_dueAt_32 : decode cX2_dueAt 32 = .ok (.aload_n 0, 1) := by decide +kernel
theorem dX2_dueAt_33 : decode cX2_dueAt 33 = .ok (.getfield 15, 3) := by decide +kernel
theorem dX2_dueAt_36 : decode cX2_dueAt 36 = .ok (.iload 5, 2) := by decide +kernel
theorem dX2_dueAt_38 : decode cX2_dueAt 38 = .ok (.iaload, 1) := by decide +kernel
theorem dX2_dueAt_39 : decode cX2_dueAt 39 = .ok (.aload_n 0, 1) := by decide +kernel
theorem dX2_dueAt_40 : decode cX2_dueAt 40 = .ok (.getfield 28, 3) := by decide +kernel
theorem dX2_dueAt_43 : decode cX2_dueAt 43 = .ok (.if_icmp .le 6, 3) := by decide +kernel
theorem dX2_dueAt_46 : decode cX2_dueAt 46 = .ok (.goto 13, 3) := by decide +kernel
theorem dX2_dueAt_49 : decode cX2_dueAt 49 = .ok (.iload_n 3, 1) := by decide +kernel
theorem dX2_dueAt_50 : decode cX2_dueAt 50 = .ok (.ifCond .ne 6, 3) := by decide +kernel
theorem dX2_dueAt_53 : decode cX2_dueAt 53 = .ok (.iload 5, 2) := by decide +kernel
theorem dX2_dueAt_55 : decode cX2_dueAt 55 = .ok (.ireturn, 1) := by decide +kernel
theorem dX2_dueAt_56 : decode cX2_dueAt 56 = .ok (.iinc 3 (-1), 3) := by decide +kernel
theorem dX2_dueAt_59 : decode cX2_dueAt 59 = .ok (.iinc 5 1, 3) := by decide +kernel
theorem dX2_dueAt_62 : decode cX2_dueAt 62 = .ok (.goto (-48), 3) := by decide +kernel
theorem dX2_dueAt_65 : decode cX2_dueAt 65 = .ok (.iinc 4 1, 3) := by decide +kernel
theorem dX2_dueAt_68 : decode cX2_dueAt 68 = .ok (.goto (-63), 3) := by decide +kernel
theorem dX2_dueAt_71 : decode cX2_dueAt 71 = .ok (.iconst (-1), 1) := by decide +kernel
theorem dX2_dueAt_72 : decode cX2_dueAt 72 = .ok (.ireturn, 1) := by decide +kernel
theorem dX3_init_0 : decode cX3_init 0 = .ok (.aload_n 0, 1) := by decide +kernel
theorem dX3_init_1 : decode cX3_init 1 = .ok (.invokespecial 3, 3) := by decide +kernel
theorem dX3_init_4 : decode cX3_init 4 = .ok (.aload_n 0, 1) := by decide +kernel
theorem dX3_init_5 : decode cX3_init 5 = .ok (.bipush 61, 2) := by decide +kernel
theorem dX3_init_7 : decode cX3_init 7 = .ok (.newarray .int, 2) := by decide +kernel
theorem dX3_init_9 : decode cX3_init 9 = .ok (.putfield 9, 3) := by decide +kernel
theorem dX3_init_12 : decode cX3_init 12 = .ok (.aload_n 0, 1) := by decide +kernel
theorem dX3_init_13 : decode cX3_init 13 = .ok (.bipush 61, 2) := by decide +kernel
theorem dX3_init_15 : decode cX3_init 15 = .ok (.newarray .int, 2) := by decide +kernel
theorem dX3_init_17 : decode cX3_init 17 = .ok (.putfield 15, 3) := by decide +kernel
theorem dX3_init_20 : decode cX3_init 20 = .ok (.aload_n 0, 1) := by decide +kernel
theorem dX3_init_21 : decode cX3_init 21 = .ok (.aload_n 1, 1) := by decide +kernel
theorem dX3_init_22 : decode cX3_init 22 = .ok (.putfield 18, 3) := by decide +kernel
theorem dX3_init_25 : decode cX3_init 25 = .ok (.aload_n 0, 1) := by decide +kernel
theorem dX3_init_26 : decode cX3_init 26 = .ok (.aload_n 2, 1) := by decide +kernel
theorem dX3_init_27 : decode cX3_init 27 = .ok (.putfield 22, 3) := by decide +kernel
theorem dX3_init_30 : decode cX3_init 30 = .ok (.aload_n 0, 1) := by decide +kernel
theorem dX3_init_31 : decode cX3_init 31 = .ok (.aload_n 3, 1) := by decide +kernel
theorem dX3_init_32 : decode cX3_init 32 = .ok (.putfield 26, 3) := by decide +kernel
theorem dX3_init_35 : decode cX3_init 35 = .ok (.aload_n 0, 1) := by decide +kernel
theorem dX3_init_36 : decode cX3_init 36 = .ok (.invokevirtual 30, 3) := by decide +kernel
theorem dX3_init_39 : decode cX3_init 39 = .ok (.return_, 1) := by decide +kernel
theorem dX3_begin_0 : decode cX3_begin 0 = .ok (.iconst 0, 1) := by decide +kernel
theorem dX3_begin_1 : decode cX3_begin 1 = .ok (.istore_n 1, 1) := by decide +kernel
theorem dX3_begin_2 : decode cX3_begin 2 = .ok (.iload_n 1, 1) := by decide +kernel
theorem dX3_begin_3 : decode cX3_begin 3 = .ok (.bipush 61, 2) := by decide +kernel
theorem dX3_begin_5 : decode cX3_begin 5 = .ok (.if_icmp .ge 17, 3) := by decide +kernel
theorem dX3_begin_8 : decode cX3_begin 8 = .ok (.aload_n 0, 1) := by decide +kernel
theorem dX3_begin_9 : decode cX3_begin 9 = .ok (.getfield 9, 3) := by decide +kernel
theorem dX3_begin_12 : decode cX3_begin 12 = .ok (.iload_n 1, 1) := by decide +kernel
theorem dX3_begin_13 : decode cX3_begin 13 = .ok (.ldc 33, 2) := by decide +kernel
theorem dX3_begin_15 : decode cX3_begin 15 = .ok (.iastore, 1) := by decide +kernel
theorem dX3_begin_16 : decode cX3_begin 16 = .ok (.iinc 1 1, 3) := by decide +kernel
theorem dX3_begin_19 : decode cX3_begin 19 = .ok (.goto (-17), 3) := by decide +kernel
theorem dX3_begin_22 : decode cX3_begin 22 = .ok (.aload_n 0, 1) := by decide +kernel
theorem dX3_begin_23 : decode cX3_begin 23 = .ok (.getfield 9, 3) := by decide +kernel
theorem dX3_begin_26 : decode cX3_begin 26 = .ok (.iconst 0, 1) := by decide +kernel
theorem dX3_begin_27 : decode cX3_begin 27 = .ok (.iconst 0, 1) := by decide +kernel
theorem dX3_begin_28 : decode cX3_begin 28 = .ok (.iastore, 1) := by decide +kernel
theorem dX3_begin_29 : decode cX3_begin 29 = .ok (.aload_n 0, 1) := by decide +kernel
theorem dX3_begin_30 : decode cX3_begin 30 = .ok (.iconst (-1), 1) := by decide +kernel
theorem dX3_begin_31 : decode cX3_begin 31 = .ok (.putfield 34, 3) := by decide +kernel
theorem dX3_begin_34 : decode cX3_begin 34 = .ok (.return_, 1) := by decide +kernel
theorem dX3_valueAt_0 : decode cX3_valueAt 0 = .ok (.aload_n 0, 1) := by decide +kernel
theorem dX3_valueAt_1 : decode cX3_valueAt 1 = .ok (.getfield 9, 3) := by decide +kernel
theorem dX3_valueAt_4 : decode cX3_valueAt 4 = .ok (.iload_n 1, 1) := by decide +kernel
theorem dX3_valueAt_5 : decode cX3_valueAt 5 = .ok (.iconst 1, 1) := by decide +kernel
theorem dX3_valueAt_6 : decode cX3_valueAt 6 = .ok (.iadd, 1) := by decide +kernel
theorem dX3_valueAt_7 : decode cX3_valueAt 7 = .ok (.iaload, 1) := by decide +kernel
theorem dX3_valueAt_8 : decode cX3_valueAt 8 = .ok (.ireturn, 1) := by decide +kernel
theorem dX3_follow_0 : decode cX3_follow 0 = .ok (.aload_n 0, 1) := by decide +kernel
theorem dX3_follow_1 : decode cX3_follow 1 = .ok (.invokevirtual 38, 3) := by decide +kernel
theorem dX3_follow_4 : decode cX3_follow 4 = .ok (.aload_n 0, 1) := by decide +kernel
theorem dX3_follow_5 : decode cX3_follow 5 = .ok (.aload_n 0, 1) := by decide +kernel
theorem dX3_follow_6 : decode cX3_follow 6 = .ok (.getfield 26, 3) := by decide +kernel
theorem dX3_follow_9 : decode cX3_follow 9 = .ok (.getfield 41, 3) := by decide +kernel
theorem dX3_follow_12 : decode cX3_follow 12 = .ok (.iload_n 1, 1) := by decide +kernel
theorem dX3_follow_13 : decode cX3_follow 13 = .ok (.iaload, 1) := by decide +kernel
theorem dX3_follow_14 : decode cX3_follow 14 = .ok (.invokevirtual 46, 3) := by decide +kernel
theorem dX3_follow_17 : decode cX3_follow 17 = .ok (.aload_n 0, 1) := by decide +kernel
theorem dX3_follow_18 : decode cX3_follow 18 = .ok (.aload_n 0, 1) := by decide +kernel
theorem dX3_follow_19 : decode cX3_follow 19 = .ok (.aload_n 0, 1) := by decide +kernel
theorem dX3_follow_20 : decode cX3_follow 20 = .ok (.getfield 34, 3) := by decide +kernel
theorem dX3_follow_23 : decode cX3_follow 23 = .ok (.iconst 1, 1) := by decide +kernel
theorem dX3_follow_24 : decode cX3_follow 24 = .ok (.iadd, 1) := by decide +kernel
theorem dX3_follow_25 : decode cX3_follow 25 = .ok (.invokevirtual 50, 3) := by decide +kernel
theorem dX3_follow_28 : decode cX3_follow 28 = .ok (.putfield 34, 3) := by decide +kernel
theorem dX3_follow_31 : decode cX3_follow 31 = .ok (.aload_n 0, 1) := by decide +kernel
theorem dX3_follow_32 : decode cX3_follow 32 = .ok (.invokevirtual 54, 3) := by decide +kernel
theorem dX3_follow_35 : decode cX3_follow 35 = .ok (.return_, 1) := by decide +kernel
theorem dX3_passOn_0 : decode cX3_passOn 0 = .ok (.iconst 0, 1) := by decide +kernel
theorem dX3_passOn_1 : decode cX3_passOn 1 = .ok (.istore_n 1, 1) := by decide +kernel
theorem dX3_passOn_2 : decode cX3_passOn 2 = .ok (.iload_n 1, 1) := by decide +kernel
theorem dX3_passOn_3 : decode cX3_passOn 3 = .ok (.aload_n 0, 1) := by decide +kernel
theorem dX3_passOn_4 : decode cX3_passOn 4 = .ok (.getfield 18, 3) := by decide +kernel
theorem dX3_passOn_7 : decode cX3_passOn 7 = .ok (.getfield 57, 3) := by decide +kernel
theorem dX3_passOn_10 : decode cX3_passOn 10 = .ok (.if_icmp .gt 21, 3) := by decide +kernel
theorem dX3_passOn_13 : decode cX3_passOn 13 = .ok (.aload_n 0, 1) := by decide +kernel
theorem dX3_passOn_14 : decode cX3_passOn 14 = .ok (.getfield 15, 3) := by decide +kernel
theorem dX3_passOn_17 : decode cX3_passOn 17 = .ok (.iload_n 1, 1) := by decide +kernel
theorem dX3_passOn_18 : decode cX3_passOn 18 = .ok (.aload_n 0, 1) := by decide +kernel
theorem dX3_passOn_19 : decode cX3_passOn 19 = .ok (.getfield 9, 3) := by decide +kernel
theorem dX3_passOn_22 : decode cX3_passOn 22 = .ok (.iload_n 1, 1) := by decide +kernel
theorem dX3_passOn_23 : decode cX3_passOn 23 = .ok (.iaload, 1) := by decide +kernel
theorem dX3_passOn_24 : decode cX3_passOn 24 = .ok (.iastore, 1) := by decide +kernel
theorem dX3_passOn_25 : decode cX3_passOn 25 = .ok (.iinc 1 1, 3) := by decide +kernel
theorem dX3_passOn_28 : decode cX3_passOn 28 = .ok (.goto (-26), 3) := by decide +kernel
theorem dX3_passOn_31 : decode cX3_passOn 31 = .ok (.iconst 1, 1) := by decide +kernel
theorem dX3_passOn_32 : decode cX3_passOn 32 = .ok (.istore_n 1, 1) := by decide +kernel
theorem dX3_passOn_33 : decode cX3_passOn 33 = .ok (.iconst 0, 1) := by decide +kernel
theorem dX3_passOn_34 : decode cX3_passOn 34 = .ok (.istore_n 2, 1) := by decide +kernel
theorem dX3_passOn_35 : decode cX3_passOn 35 = .ok (.iload_n 2, 1) := by decide +kernel
theorem dX3_passOn_36 : decode cX3_passOn 36 = .ok (.bipush 61, 2) := by decide +kernel
theorem dX3_passOn_38 : decode cX3_passOn 38 = .ok (.if_icmp .ge 18, 3) := by decide +kernel
theorem dX3_passOn_41 : decode cX3_passOn 41 = .ok (.iload_n 1, 1) := by decide +kernel
theorem dX3_passOn_42 : decode cX3_passOn 42 = .ok (.ifCond .eq 14, 3) := by decide +kernel
theorem dX3_passOn_45 : decode cX3_passOn 45 = .ok (.aload_n 0, 1) := by decide +kernel
theorem dX3_passOn_46 : decode cX3_passOn 46 = .ok (.invokevirtual 62, 3) := by decide +kernel
theorem dX3_passOn_49 : decode cX3_passOn 49 = .ok (.istore_n 1, 1) := by decide +kernel
theorem dX3_passOn_50 : decode cX3_passOn 50 = .ok (.iinc 2 1, 3) := by decide +kernel
theorem dX3_passOn_53 : decode cX3_passOn 53 = .ok (.goto (-18), 3) := by decide +kernel
theorem dX3_passOn_56 : decode cX3_passOn 56 = .ok (.return_, 1) := by decide +kernel
theorem dX3_passOnce_0 : decode cX3_passOnce 0 = .ok (.iconst 0, 1) := by decide +kernel
theorem dX3_passOnce_1 : decode cX3_passOnce 1 = .ok (.istore_n 1, 1) := by decide +kernel
theorem dX3_passOnce_2 : decode cX3_passOnce 2 = .ok (.iconst 0, 1) := by decide +kernel
theorem dX3_passOnce_3 : decode cX3_passOnce 3 = .ok (.istore_n 2, 1) := by decide +kernel
theorem dX3_passOnce_4 : decode cX3_passOnce 4 = .ok (.iload_n 2, 1) := by decide +kernel
theorem dX3_passOnce_5 : decode cX3_passOnce 5 = .ok (.aload_n 0, 1) := by decide +kernel
theorem dX3_passOnce_6 : decode cX3_passOnce 6 = .ok (.getfield 22, 3) := by decide +kernel
theorem dX3_passOnce_9 : decode cX3_passOnce 9 = .ok (.getfield 66, 3) := by decide +kernel
theorem dX3_passOnce_12 : decode cX3_passOnce 12 = .ok (.if_icmp .ge 80, 3) := by decide +kernel
theorem dX3_passOnce_15 : decode cX3_passOnce 15 = .ok (.aload_n 0, 1) := by decide +kernel
theorem dX3_passOnce_16 : decode cX3_passOnce 16 = .ok (.getfield 15, 3) := by decide +kernel
theorem dX3_passOnce_19 : decode cX3_passOnce 19 = .ok (.aload_n 0, 1) := by decide +kernel
theorem dX3_passOnce_20 : decode cX3_passOnce 20 = .ok (.getfield 22, 3) := by decide +kernel
theorem dX3_passOnce_23 : decode cX3_passOnce 23 = .ok (.getfield 71, 3) := by decide +kernel
theorem dX3_passOnce_26 : decode cX3_passOnce 26 = .ok (.iload_n 2, 1) := by decide +kernel
theorem dX3_passOnce_27 : decode cX3_passOnce 27 = .ok (.iaload, 1) := by decide +kernel
theorem dX3_passOnce_28 : decode cX3_passOnce 28 = .ok (.iconst 1, 1) := by decide +kernel
theorem dX3_passOnce_29 : decode cX3_passOnce 29 = .ok (.iadd, 1) := by decide +kernel
theorem dX3_passOnce_30 : decode cX3_passOnce 30 = .ok (.iaload, 1) := by decide +kernel
theorem dX3_passOnce_31 : decode cX3_passOnce 31 = .ok (.aload_n 0, 1) := by decide +kernel
theorem dX3_passOnce_32 : decode cX3_passOnce 32 = .ok (.getfield 22, 3) := by decide +kernel
theorem dX3_passOnce_35 : decode cX3_passOnce 35 = .ok (.getfield 74, 3) := by decide +kernel
theorem dX3_passOnce_38 : decode cX3_passOnce 38 = .ok (.iload_n 2, 1) := by decide +kernel
theorem dX3_passOnce_39 : decode cX3_passOnce 39 = .ok (.iaload, 1) := by decide +kernel
theorem dX3_passOnce_40 : decode cX3_passOnce 40 = .ok (.iadd, 1) := by decide +kernel
theorem dX3_passOnce_41 : decode cX3_passOnce 41 = .ok (.aload_n 0, 1) := by decide +kernel
theorem dX3_passOnce_42 : decode cX3_passOnce 42 = .ok (.getfield 18, 3) := by decide +kernel
theorem dX3_passOnce_45 : decode cX3_passOnce 45 = .ok (.getfield 77, 3) := by decide +kernel
theorem dX3_passOnce_48 : decode cX3_passOnce 48 = .ok (.iconst 2, 1) := by decide +kernel
theorem dX3_passOnce_49 : decode cX3_passOnce 49 = .ok (.iaload, 1) := by decide +kernel
theorem dX3_passOnce_50 : decode cX3_passOnce 50 = .ok (.iadd, 1) := by decide +kernel
theorem dX3_passOnce_51 : decode cX3_passOnce 51 = .ok (.istore_n 3, 1) := by decide +kernel
theorem dX3_passOnce_52 : decode cX3_passOnce 52 = .ok (.aload_n 0, 1) := by decide +kernel
theorem dX3_passOnce_53 : decode cX3_passOnce 53 = .ok (.getfield 22, 3) := by decide +kernel
theorem dX3_passOnce_56 : decode cX3_passOnce 56 = .ok (.getfield 80, 3) := by decide +kernel
theorem dX3_passOnce_59 : decode cX3_passOnce 59 = .ok (.iload_n 2, 1) := by decide +kernel
theorem dX3_passOnce_60 : decode cX3_passOnce 60 = .ok (.iaload, 1) := by decide +kernel
theorem dX3_passOnce_61 : decode cX3_passOnce 61 = .ok (.iconst 1, 1) := by decide +kernel
theorem dX3_passOnce_62 : decode cX3_passOnce 62 = .ok (.iadd, 1) := by decide +kernel
theorem dX3_passOnce_63 : decode cX3_passOnce 63 = .ok (.istore 4, 2) := by decide +kernel
theorem dX3_passOnce_65 : decode cX3_passOnce 65 = .ok (.iload_n 3, 1) := by decide +kernel
theorem dX3_passOnce_66 : decode cX3_passOnce 66 = .ok (.aload_n 0, 1) := by decide +kernel
theorem dX3_passOnce_67 : decode cX3_passOnce 67 = .ok (.getfield 15, 3) := by decide +kernel
theorem dX3_passOnce_70 : decode cX3_passOnce 70 = .ok (.iload 4, 2) := by decide +kernel
theorem dX3_passOnce_72 : decode cX3_passOnce 72 = .ok (.iaload, 1) := by decide +kernel
theorem dX3_passOnce_73 : decode cX3_passOnce 73 = .ok (.if_icmp .ge 13, 3) := by decide +kernel
theorem dX3_passOnce_76 : decode cX3_passOnce 76 = .ok (.aload_n 0, 1) := by decide +kernel
theorem dX3_passOnce_77 : decode cX3_passOnce 77 = .ok (.getfield 15, 3) := by decide +kernel
theorem dX3_passOnce_80 : decode cX3_passOnce 80 = .ok (.iload 4, 2) := by decide +kernel
theorem dX3_passOnce_82 : decode cX3_passOnce 82 = .ok (.iload_n 3, 1) := by decide +kernel
theorem dX3_passOnce_83 : decode cX3_passOnce 83 = .ok (.iastore, 1) := by decide +kernel
theorem dX3_passOnce_84 : decode cX3_passOnce 84 = .ok (.iconst 1, 1) := by decide +kernel
theorem dX3_passOnce_85 : decode cX3_passOnce 85 = .ok (.istore_n 1, 1) := by decide +kernel
theorem dX3_passOnce_86 : decode cX3_passOnce 86 = .ok (.iinc 2 1, 3) := by decide +kernel
theorem dX3_passOnce_89 : decode cX3_passOnce 89 = .ok (.goto (-85), 3) := by decide +kernel
theorem dX3_passOnce_92 : decode cX3_passOnce 92 = .ok (.iload_n 1, 1) := by decide +kernel
theorem dX3_passOnce_93 : decode cX3_passOnce 93 = .ok (.ireturn, 1) := by decide +kernel
theorem dX3_take_0 : decode cX3_take 0 = .ok (.ldc 33, 2) := by decide +kernel
theorem dX3_take_2 : decode cX3_take 2 = .ok (.istore_n 2, 1) := by decide +kernel
theorem dX3_take_3 : decode cX3_take 3 = .ok (.iconst 0, 1) := by decide +kernel
theorem dX3_take_4 : decode cX3_take 4 = .ok (.istore_n 3, 1) := by decide +kernel
theorem dX3_take_5 : decode cX3_take 5 = .ok (.iload_n 3, 1) := by decide +kernel
theorem dX3_take_6 : decode cX3_take 6 = .ok (.aload_n 0, 1) := by decide +kernel
theorem dX3_take_7 : decode cX3_take 7 = .ok (.getfield 18, 3) := by decide +kernel
theorem dX3_take_10 : decode cX3_take 10 = .ok (.getfield 57, 3) := by decide +kernel
theorem dX3_take_13 : decode cX3_take 13 = .ok (.if_icmp .gt 47, 3) := by decide +kernel
theorem dX3_take_16 : decode cX3_take 16 = .ok (.iload_n 2, 1) := by decide +kernel
theorem dX3_take_17 : decode cX3_take 17 = .ok (.aload_n 0, 1) := by decide +kernel
theorem dX3_take_18 : decode cX3_take 18 = .ok (.getfield 15, 3) := by decide +kernel
theorem dX3_take_21 : decode cX3_take 21 = .ok (.iload_n 3, 1) := by decide +kernel
theorem dX3_take_22 : decode cX3_take 22 = .ok (.iaload, 1) := by decide +kernel
theorem dX3_take_23 : decode cX3_take 23 = .ok (.invokestatic 83, 3) := by decide +kernel
theorem dX3_take_26 : decode cX3_take 26 = .ok (.istore_n 2, 1) := by decide +kernel
theorem dX3_take_27 : decode cX3_take 27 = .ok (.aload_n 0, 1) := by decide +kernel
theorem dX3_take_28 : decode cX3_take 28 = .ok (.getfield 9, 3) := by decide +kernel
theorem dX3_take_31 : decode cX3_take 31 = .ok (.iload_n 3, 1) := by decide +kernel
theorem dX3_take_32 : decode cX3_take 32 = .ok (.ldc 33, 2) := by decide +kernel
theorem dX3_take_34 : decode cX3_take 34 = .ok (.aload_n 0, 1) := by decide +kernel
theorem dX3_take_35 : decode cX3_take 35 = .ok (.getfield 15, 3) := by decide +kernel
theorem dX3_take_38 : decode cX3_take 38 = .ok (.iload_n 3, 1) := by decide +kernel
theorem dX3_take_39 : decode cX3_take 39 = .ok (.iaload, 1) := by decide +kernel
theorem dX3_take_40 : decode cX3_take 40 = .ok (.aload_n 0, 1) := by decide +kernel
theorem dX3_take_41 : decode cX3_take 41 = .ok (.getfield 18, 3) := by decide +kernel
theorem dX3_take_44 : decode cX3_take 44 = .ok (.getfield 77, 3) := by decide +kernel
theorem dX3_take_47 : decode cX3_take 47 = .ok (.iconst 1, 1) := by decide +kernel
theorem dX3_take_48 : decode cX3_take 48 = .ok (.iaload, 1) := by decide +kernel
theorem dX3_take_49 : decode cX3_take 49 = .ok (.iadd, 1) := by decide +kernel
theorem dX3_take_50 : decode cX3_take 50 = .ok (.invokestatic 83, 3) := by decide +kernel
theorem dX3_take_53 : decode cX3_take 53 = .ok (.iastore, 1) := by decide +kernel
theorem dX3_take_54 : decode cX3_take 54 = .ok (.iinc 3 1, 3) := by decide +kernel
theorem dX3_take_57 : decode cX3_take 57 = .ok (.goto (-52), 3) := by decide +kernel
theorem dX3_take_60 : decode cX3_take 60 = .ok (.aload_n 0, 1) := by decide +kernel
theorem dX3_take_61 : decode cX3_take 61 = .ok (.getfield 18, 3) := by decide +kernel
theorem dX3_take_64 : decode cX3_take 64 = .ok (.invokevirtual 89, 3) := by decide +kernel
theorem dX3_take_67 : decode cX3_take 67 = .ok (.istore_n 3, 1) := by decide +kernel
theorem dX3_take_68 : decode cX3_take 68 = .ok (.iload_n 3, 1) := by decide +kernel
theorem dX3_take_69 : decode cX3_take 69 = .ok (.aload_n 0, 1) := by decide +kernel
theorem dX3_take_70 : decode cX3_take 70 = .ok (.getfield 18, 3) := by decide +kernel
theorem dX3_take_73 : decode cX3_take 73 = .ok (.invokevirtual 93, 3) := by decide +kernel
theorem dX3_take_76 : decode cX3_take 76 = .ok (.if_icmp .gt 35, 3) := by decide +kernel
theorem dX3_take_79 : decode cX3_take 79 = .ok (.aload_n 0, 1) := by decide +kernel
theorem dX3_take_80 : decode cX3_take 80 = .ok (.iload_n 3, 1) := by decide +kernel
theorem dX3_take_81 : decode cX3_take 81 = .ok (.iload_n 2, 1) := by decide +kernel
theorem dX3_take_82 : decode cX3_take 82 = .ok (.aload_n 0, 1) := by decide +kernel
theorem dX3_take_83 : decode cX3_take 83 = .ok (.getfield 18, 3) := by decide +kernel
theorem dX3_take_86 : decode cX3_take 86 = .ok (.getfield 77, 3) := by decide +kernel
theorem dX3_take_89 : decode cX3_take 89 = .ok (.iconst 4, 1) := by decide +kernel
theorem dX3_take_90 : decode cX3_take 90 = .ok (.iaload, 1) := by decide +kernel
theorem dX3_take_91 : decode cX3_take 91 = .ok (.iadd, 1) := by decide +kernel
theorem dX3_take_92 : decode cX3_take 92 = .ok (.aload_n 0, 1) := by decide +kernel
theorem dX3_take_93 : decode cX3_take 93 = .ok (.getfield 18, 3) := by decide +kernel
theorem dX3_take_96 : decode cX3_take 96 = .ok (.iload_n 3, 1) := by decide +kernel
theorem dX3_take_97 : decode cX3_take 97 = .ok (.iload_n 1, 1) := by decide +kernel
theorem dX3_take_98 : decode cX3_take 98 = .ok (.invokevirtual 96, 3) := by decide +kernel
theorem dX3_take_101 : decode cX3_take 101 = .ok (.iadd, 1) := by decide +kernel
theorem dX3_take_102 : decode cX3_take 102 = .ok (.invokevirtual 99, 3) := by decide +kernel
theorem dX3_take_105 : decode cX3_take 105 = .ok (.iinc 3 1, 3) := by decide +kernel
theorem dX3_take_108 : decode cX3_take 108 = .ok (.goto (-40), 3) := by decide +kernel
theorem dX3_take_111 : decode cX3_take 111 = .ok (.iconst 0, 1) := by decide +kernel
theorem dX3_take_112 : decode cX3_take 112 = .ok (.istore_n 3, 1) := by decide +kernel
theorem dX3_take_113 : decode cX3_take 113 = .ok (.iload_n 3, 1) := by decide +kernel
theorem dX3_take_114 : decode cX3_take 114 = .ok (.aload_n 0, 1) := by decide +kernel
theorem dX3_take_115 : decode cX3_take 115 = .ok (.getfield 22, 3) := by decide +kernel
theorem dX3_take_118 : decode cX3_take 118 = .ok (.getfield 66, 3) := by decide +kernel
theorem dX3_take_121 : decode cX3_take 121 = .ok (.if_icmp .ge 67, 3) := by decide +kernel
theorem dX3_take_124 : decode cX3_take 124 = .ok (.aload_n 0, 1) := by decide +kernel
theorem dX3_take_125 : decode cX3_take 125 = .ok (.getfield 22, 3) := by decide +kernel
theorem dX3_take_128 : decode cX3_take 128 = .ok (.getfield 80, 3) := by decide +kernel
theorem dX3_take_131 : decode cX3_take 131 = .ok (.iload_n 3, 1) := by decide +kernel
theorem dX3_take_132 : decode cX3_take 132 = .ok (.iaload, 1) := by decide +kernel
theorem dX3_take_133 : decode cX3_take 133 = .ok (.istore 4, 2) := by decide +kernel
theorem dX3_take_135 : decode cX3_take 135 = .ok (.aload_n 0, 1) := by decide +kernel
theorem dX3_take_136 : decode cX3_take 136 = .ok (.getfield 15, 3) := by decide +kernel
theorem dX3_take_139 : decode cX3_take 139 = .ok (.aload_n 0, 1) := by decide +kernel
theorem dX3_take_140 : decode cX3_take 140 = .ok (.getfield 22, 3) := by decide +kernel
theorem dX3_take_143 : decode cX3_take 143 = .ok (.getfield 71, 3) := by decide +kernel
theorem dX3_take_146 : decode cX3_take 146 = .ok (.iload_n 3, 1) := by decide +kernel
theorem dX3_take_147 : decode cX3_take 147 = .ok (.iaload, 1) := by decide +kernel
theorem dX3_take_148 : decode cX3_take 148 = .ok (.iconst 1, 1) := by decide +kernel
theorem dX3_take_149 : decode cX3_take 149 = .ok (.iadd, 1) := by decide +kernel
theorem dX3_take_150 : decode cX3_take 150 = .ok (.iaload, 1) := by decide +kernel
theorem dX3_take_151 : decode cX3_take 151 = .ok (.aload_n 0, 1) := by decide +kernel
theorem dX3_take_152 : decode cX3_take 152 = .ok (.getfield 22, 3) := by decide +kernel
theorem dX3_take_155 : decode cX3_take 155 = .ok (.getfield 74, 3) := by decide +kernel
theorem dX3_take_158 : decode cX3_take 158 = .ok (.iload_n 3, 1) := by decide +kernel
theorem dX3_take_159 : decode cX3_take 159 = .ok (.iaload, 1) := by decide +kernel
theorem dX3_take_160 : decode cX3_take 160 = .ok (.iadd, 1) := by decide +kernel
theorem dX3_take_161 : decode cX3_take 161 = .ok (.istore 5, 2) := by decide +kernel
theorem dX3_take_163 : decode cX3_take 163 = .ok (.aload_n 0, 1) := by decide +kernel
theorem dX3_take_164 : decode cX3_take 164 = .ok (.iload 4, 2) := by decide +kernel
theorem dX3_take_166 : decode cX3_take 166 = .ok (.iload 5, 2) := by decide +kernel
theorem dX3_take_168 : decode cX3_take 168 = .ok (.aload_n 0, 1) := by decide +kernel
theorem dX3_take_169 : decode cX3_take 169 = .ok (.getfield 18, 3) := by decide +kernel
theorem dX3_take_172 : decode cX3_take 172 = .ok (.iload 4, 2) := by decide +kernel
theorem dX3_take_174 : decode cX3_take 174 = .ok (.iload_n 1, 1) := by decide +kernel
theorem dX3_take_175 : decode cX3_take 175 = .ok (.invokevirtual 96, 3) := by decide +kernel
theorem dX3_take_178 : decode cX3_take 178 = .ok (.iadd, 1) := by decide +kernel
theorem dX3_take_179 : decode cX3_take 179 = .ok (.invokevirtual 99, 3) := by decide +kernel
theorem dX3_take_182 : decode cX3_take 182 = .ok (.iinc 3 1, 3) := by decide +kernel
theorem dX3_take_185 : decode cX3_take 185 = .ok (.goto (-72), 3) := by decide +kernel
theorem dX3_take_188 : decode cX3_take 188 = .ok (.return_, 1) := by decide +kernel
theorem dX3_lower_0 : decode cX3_lower 0 = .ok (.aload_n 0, 1) := by decide +kernel
theorem dX3_lower_1 : decode cX3_lower 1 = .ok (.getfield 9, 3) := by decide +kernel
theorem dX3_lower_4 : decode cX3_lower 4 = .ok (.iload_n 1, 1) := by decide +kernel
theorem dX3_lower_5 : decode cX3_lower 5 = .ok (.iconst 1, 1) := by decide +kernel
theorem dX3_lower_6 : decode cX3_lower 6 = .ok (.iadd, 1) := by decide +kernel
theorem dX3_lower_7 : decode cX3_lower 7 = .ok (.aload_n 0, 1) := by decide +kernel
theorem dX3_lower_8 : decode cX3_lower 8 = .ok (.getfield 9, 3) := by decide +kernel
theorem dX3_lower_11 : decode cX3_lower 11 = .ok (.iload_n 1, 1) := by decide +kernel
theorem dX3_lower_12 : decode cX3_lower 12 = .ok (.iconst 1, 1) := by decide +kernel
theorem dX3_lower_13 : decode cX3_lower 13 = .ok (.iadd, 1) := by decide +kernel
theorem dX3_lower_14 : decode cX3_lower 14 = .ok (.iaload, 1) := by decide +kernel
theorem dX3_lower_15 : decode cX3_lower 15 = .ok (.iload_n 2, 1) := by decide +kernel
theorem dX3_lower_16 : decode cX3_lower 16 = .ok (.invokestatic 83, 3) := by decide +kernel
theorem dX3_lower_19 : decode cX3_lower 19 = .ok (.iastore, 1) := by decide +kernel
theorem dX3_lower_20 : decode cX3_lower 20 = .ok (.return_, 1) := by decide +kernel
theorem dX3_nearestOfLeast_0 : decode cX3_nearestOfLeast 0 = .ok (.iconst (-1), 1) := by decide +kernel
theorem dX3_nearestOfLeast_1 : decode cX3_nearestOfLeast 1 = .ok (.istore_n 2, 1) := by decide +kernel
theorem dX3_nearestOfLeast_2 : decode cX3_nearestOfLeast 2 = .ok (.iconst 0, 1) := by decide +kernel
theorem dX3_nearestOfLeast_3 : decode cX3_nearestOfLeast 3 = .ok (.istore_n 3, 1) := by decide +kernel
theorem dX3_nearestOfLeast_4 : decode cX3_nearestOfLeast 4 = .ok (.iload_n 3, 1) := by decide +kernel
theorem dX3_nearestOfLeast_5 : decode cX3_nearestOfLeast 5 = .ok (.aload_n 0, 1) := by decide +kernel
theorem dX3_nearestOfLeast_6 : decode cX3_nearestOfLeast 6 = .ok (.getfield 18, 3) := by decide +kernel
theorem dX3_nearestOfLeast_9 : decode cX3_nearestOfLeast 9 = .ok (.getfield 57, 3) := by decide +kernel
theorem dX3_nearestOfLeast_12 : decode cX3_nearestOfLeast 12 = .ok (.if_icmp .ge 61, 3) := by decide +kernel
theorem dX3_nearestOfLeast_15 : decode cX3_nearestOfLeast 15 = .ok (.aload_n 0, 1) := by decide +kernel
theorem dX3_nearestOfLeast_16 : decode cX3_nearestOfLeast 16 = .ok (.iload_n 3, 1) := by decide +kernel
theorem dX3_nearestOfLeast_17 : decode cX3_nearestOfLeast 17 = .ok (.invokevirtual 103, 3) := by decide +kernel
theorem dX3_nearestOfLeast_20 : decode cX3_nearestOfLeast 20 = .ok (.aload_n 0, 1) := by decide +kernel
theorem dX3_nearestOfLeast_21 : decode cX3_nearestOfLeast 21 = .ok (.iload_n 2, 1) := by decide +kernel
theorem dX3_nearestOfLeast_22 : decode cX3_nearestOfLeast 22 = .ok (.invokevirtual 103, 3) := by decide +kernel
theorem dX3_nearestOfLeast_25 : decode cX3_nearestOfLeast 25 = .ok (.isub, 1) := by decide +kernel
theorem dX3_nearestOfLeast_26 : decode cX3_nearestOfLeast 26 = .ok (.istore 4, 2) := by decide +kernel
theorem dX3_nearestOfLeast_28 : decode cX3_nearestOfLeast 28 = .ok (.iload_n 3, 1) := by decide +kernel
theorem dX3_nearestOfLeast_29 : decode cX3_nearestOfLeast 29 = .ok (.iload_n 1, 1) := by decide +kernel
theorem dX3_nearestOfLeast_30 : decode cX3_nearestOfLeast 30 = .ok (.isub, 1) := by decide +kernel
theorem dX3_nearestOfLeast_31 : decode cX3_nearestOfLeast 31 = .ok (.invokestatic 106, 3) := by decide +kernel
theorem dX3_nearestOfLeast_34 : decode cX3_nearestOfLeast 34 = .ok (.iload_n 2, 1) := by decide +kernel
theorem dX3_nearestOfLeast_35 : decode cX3_nearestOfLeast 35 = .ok (.iload_n 1, 1) := by decide +kernel
theorem dX3_nearestOfLeast_36 : decode cX3_nearestOfLeast 36 = .ok (.isub, 1) := by decide +kernel
theorem dX3_nearestOfLeast_37 : decode cX3_nearestOfLeast 37 = .ok (.invokestatic 106, 3) := by decide +kernel
theorem dX3_nearestOfLeast_40 : decode cX3_nearestOfLeast 40 = .ok (.if_icmp .ge 7, 3) := by decide +kernel
theorem dX3_nearestOfLeast_43 : decode cX3_nearestOfLeast 43 = .ok (.iconst 1, 1) := by decide +kernel
theorem dX3_nearestOfLeast_44 : decode cX3_nearestOfLeast 44 = .ok (.goto 4, 3) := by decide +kernel
theorem dX3_nearestOfLeast_47 : decode cX3_nearestOfLeast 47 = .ok (.iconst 0, 1) := by decide +kernel
theorem dX3_nearestOfLeast_48 : decode cX3_nearestOfLeast 48 = .ok (.istore 5, 2) := by decide +kernel
theorem dX3_nearestOfLeast_50 : decode cX3_nearestOfLeast 50 = .ok (.iload 4, 2) := by decide +kernel
theorem dX3_nearestOfLeast_52 : decode cX3_nearestOfLeast 52 = .ok (.ifCond .lt 13, 3) := by decide +kernel
theorem dX3_nearestOfLeast_55 : decode cX3_nearestOfLeast 55 = .ok (.iload 4, 2) := by decide +kernel
theorem dX3_nearestOfLeast_57 : decode cX3_nearestOfLeast 57 = .ok (.ifCond .ne 10, 3) := by decide +kernel
theorem dX3_nearestOfLeast_60 : decode cX3_nearestOfLeast 60 = .ok (.iload 5, 2) := by decide +kernel
theorem dX3_nearestOfLeast_62 : decode cX3_nearestOfLeast 62 = .ok (.ifCond .eq 5, 3) := by decide +kernel
theorem dX3_nearestOfLeast_65 : decode cX3_nearestOfLeast 65 = .ok (.iload_n 3, 1) := by decide +kernel
theorem dX3_nearestOfLeast_66 : decode cX3_nearestOfLeast 66 = .ok (.istore_n 2, 1) := by decide +kernel
theorem dX3_nearestOfLeast_67 : decode cX3_nearestOfLeast 67 = .ok (.iinc 3 1, 3) := by decide +kernel
theorem dX3_nearestOfLeast_70 : decode cX3_nearestOfLeast 70 = .ok (.goto (-66), 3) := by decide +kernel
theorem dX3_nearestOfLeast_73 : decode cX3_nearestOfLeast 73 = .ok (.iload_n 2, 1) := by decide +kernel
theorem dX3_nearestOfLeast_74 : decode cX3_nearestOfLeast 74 = .ok (.ireturn, 1) := by decide +kernel
theorem dX3_forgetFar_0 : decode cX3_forgetFar 0 = .ok (.iconst (-1), 1) := by decide +kernel
theorem dX3_forgetFar_1 : decode cX3_forgetFar 1 = .ok (.istore_n 1, 1) := by decide +kernel
theorem dX3_forgetFar_2 : decode cX3_forgetFar 2 = .ok (.iload_n 1, 1) := by decide +kernel
theorem dX3_forgetFar_3 : decode cX3_forgetFar 3 = .ok (.aload_n 0, 1) := by decide +kernel
theorem dX3_forgetFar_4 : decode cX3_forgetFar 4 = .ok (.getfield 18, 3) := by decide +kernel
theorem dX3_forgetFar_7 : decode cX3_forgetFar 7 = .ok (.getfield 57, 3) := by decide +kernel
theorem dX3_forgetFar_10 : decode cX3_forgetFar 10 = .ok (.if_icmp .ge 38, 3) := by decide +kernel
theorem dX3_forgetFar_13 : decode cX3_forgetFar 13 = .ok (.iload_n 1, 1) := by decide +kernel
theorem dX3_forgetFar_14 : decode cX3_forgetFar 14 = .ok (.aload_n 0, 1) := by decide +kernel
theorem dX3_forgetFar_15 : decode cX3_forgetFar 15 = .ok (.getfield 34, 3) := by decide +kernel
theorem dX3_forgetFar_18 : decode cX3_forgetFar 18 = .ok (.isub, 1) := by decide +kernel
theorem dX3_forgetFar_19 : decode cX3_forgetFar 19 = .ok (.invokestatic 106, 3) := by decide +kernel
theorem dX3_forgetFar_22 : decode cX3_forgetFar 22 = .ok (.aload_n 0, 1) := by decide +kernel
theorem dX3_forgetFar_23 : decode cX3_forgetFar 23 = .ok (.getfield 18, 3) := by decide +kernel
theorem dX3_forgetFar_26 : decode cX3_forgetFar 26 = .ok (.getfield 109, 3) := by decide +kernel
theorem dX3_forgetFar_29 : decode cX3_forgetFar 29 = .ok (.if_icmp .le 13, 3) := by decide +kernel
theorem dX3_forgetFar_32 : decode cX3_forgetFar 32 = .ok (.aload_n 0, 1) := by decide +kernel
theorem dX3_forgetFar_33 : decode cX3_forgetFar 33 = .ok (.getfield 9, 3) := by decide +kernel
theorem dX3_forgetFar_36 : decode cX3_forgetFar 36 = .ok (.iload_n 1, 1) := by decide +kernel
theorem dX3_forgetFar_37 : decode cX3_forgetFar 37 = .ok (.iconst 1, 1) := by decide +kernel
theorem dX3_forgetFar_38 : decode cX3_forgetFar 38 = .ok (.iadd, 1) := by decide +kernel
theorem dX3_forgetFar_39 : decode cX3_forgetFar 39 = .ok (.ldc 33, 2) := by decide +kernel
theorem dX3_forgetFar_41 : decode cX3_forgetFar 41 = .ok (.iastore, 1) := by decide +kernel
theorem dX3_forgetFar_42 : decode cX3_forgetFar 42 = .ok (.iinc 1 1, 3) := by decide +kernel
theorem dX3_forgetFar_45 : decode cX3_forgetFar 45 = .ok (.goto (-43), 3) := by decide +kernel
theorem dX3_forgetFar_48 : decode cX3_forgetFar 48 = .ok (.return_, 1) := by decide +kernel
theorem dX4_init_0 : decode cX4_init 0 = .ok (.aload_n 0, 1) := by decide +kernel
theorem dX4_init_1 : decode cX4_init 1 = .ok (.invokespecial 3, 3) := by decide +kernel
theorem dX4_init_4 : decode cX4_init 4 = .ok (.aload_n 0, 1) := by decide +kernel
theorem dX4_init_5 : decode cX4_init 5 = .ok (.bipush 120, 2) := by decide +kernel
theorem dX4_init_7 : decode cX4_init 7 = .ok (.newarray .int, 2) := by decide +kernel
theorem dX4_init_9 : decode cX4_init 9 = .ok (.putfield 9, 3) := by decide +kernel
theorem dX4_init_12 : decode cX4_init 12 = .ok (.aload_n 0, 1) := by decide +kernel
theorem dX4_init_13 : decode cX4_init 13 = .ok (.bipush 120, 2) := by decide +kernel
theorem dX4_init_15 : decode cX4_init 15 = .ok (.newarray .int, 2) := by decide +kernel
theorem dX4_init_17 : decode cX4_init 17 = .ok (.putfield 15, 3) := by decide +kernel
theorem dX4_init_20 : decode cX4_init 20 = .ok (.return_, 1) := by decide +kernel
theorem dX4_add_0 : decode cX4_add 0 = .ok (.aload_n 0, 1) := by decide +kernel
theorem dX4_add_1 : decode cX4_add 1 = .ok (.getfield 9, 3) := by decide +kernel
theorem dX4_add_4 : decode cX4_add 4 = .ok (.aload_n 0, 1) := by decide +kernel
theorem dX4_add_5 : decode cX4_add 5 = .ok (.getfield 18, 3) := by decide +kernel
theorem dX4_add_8 : decode cX4_add 8 = .ok (.iload_n 1, 1) := by decide +kernel
theorem dX4_add_9 : decode cX4_add 9 = .ok (.iastore, 1) := by decide +kernel
theorem dX4_add_10 : decode cX4_add 10 = .ok (.aload_n 0, 1) := by decide +kernel
theorem dX4_add_11 : decode cX4_add 11 = .ok (.getfield 15, 3) := by decide +kernel
theorem dX4_add_14 : decode cX4_add 14 = .ok (.aload_n 0, 1) := by decide +kernel
theorem dX4_add_15 : decode cX4_add 15 = .ok (.getfield 18, 3) := by decide +kernel
theorem dX4_add_18 : decode cX4_add 18 = .ok (.iload_n 2, 1) := by decide +kernel
theorem dX4_add_19 : decode cX4_add 19 = .ok (.iastore, 1) := by decide +kernel
theorem dX4_add_20 : decode cX4_add 20 = .ok (.aload_n 0, 1) := by decide +kernel
theorem dX4_add_21 : decode cX4_add 21 = .ok (.dup, 1) := by decide +kernel
theorem dX4_add_22 : decode cX4_add 22 = .ok (.getfield 18, 3) := by decide +kernel
theorem dX4_add_25 : decode cX4_add 25 = .ok (.iconst 1, 1) := by decide +kernel
theorem dX4_add_26 : decode cX4_add 26 = .ok (.iadd, 1) := by decide +kernel
theorem dX4_add_27 : decode cX4_add 27 = .ok (.putfield 18, 3) := by decide +kernel
theorem dX4_add_30 : decode cX4_add 30 = .ok (.aload_n 0, 1) := by decide +kernel
theorem dX4_add_31 : decode cX4_add 31 = .ok (.getfield 18, 3) := by decide +kernel
theorem dX4_add_34 : decode cX4_add 34 = .ok (.iconst 1, 1) := by decide +kernel
theorem dX4_add_35 : decode cX4_add 35 = .ok (.isub, 1) := by decide +kernel
theorem dX4_add_36 : decode cX4_add 36 = .ok (.ireturn, 1) := by decide +kernel
theorem dX4_lastTime_0 : decode cX4_lastTime 0 = .ok (.aload_n 0, 1) := by decide +kernel
theorem dX4_lastTime_1 : decode cX4_lastTime 1 = .ok (.getfield 18, 3) := by decide +kernel
theorem dX4_lastTime_4 : decode cX4_lastTime 4 = .ok (.ifCond .ne 7, 3) := by decide +kernel
theorem dX4_lastTime_7 : decode cX4_lastTime 7 = .ok (.iconst 0, 1) := by decide +kernel
theorem dX4_lastTime_8 : decode cX4_lastTime 8 = .ok (.goto 14, 3) := by decide +kernel
theorem dX4_lastTime_11 : decode cX4_lastTime 11 = .ok (.aload_n 0, 1) := by decide +kernel
theorem dX4_lastTime_12 : decode cX4_lastTime 12 = .ok (.getfield 15, 3) := by decide +kernel
theorem dX4_lastTime_15 : decode cX4_lastTime 15 = .ok (.aload_n 0, 1) := by decide +kernel
theorem dX4_lastTime_16 : decode cX4_lastTime 16 = .ok (.getfield 18, 3) := by decide +kernel
theorem dX4_lastTime_19 : decode cX4_lastTime 19 = .ok (.iconst 1, 1) := by decide +kernel
theorem dX4_lastTime_20 : decode cX4_lastTime 20 = .ok (.isub, 1) := by decide +kernel
theorem dX4_lastTime_21 : decode cX4_lastTime 21 = .ok (.iaload, 1) := by decide +kernel
theorem dX4_lastTime_22 : decode cX4_lastTime 22 = .ok (.ireturn, 1) := by decide +kernel
theorem dX5_init_0 : decode cX5_init 0 = .ok (.aload_n 0, 1) := by decide +kernel
theorem dX5_init_1 : decode cX5_init 1 = .ok (.invokespecial 3, 3) := by decide +kernel
theorem dX5_init_4 : decode cX5_init 4 = .ok (.aload_n 0, 1) := by decide +kernel
theorem dX5_init_5 : decode cX5_init 5 = .ok (.bipush 74, 2) := by decide +kernel
theorem dX5_init_7 : decode cX5_init 7 = .ok (.newarray .int, 2) := by decide +kernel
theorem dX5_init_9 : decode cX5_init 9 = .ok (.putfield 9, 3) := by decide +kernel
theorem dX5_init_12 : decode cX5_init 12 = .ok (.aload_n 0, 1) := by decide +kernel
theorem dX5_init_13 : decode cX5_init 13 = .ok (.bipush 74, 2) := by decide +kernel
theorem dX5_init_15 : decode cX5_init 15 = .ok (.newarray .int, 2) := by decide +kernel
theorem dX5_init_17 : decode cX5_init 17 = .ok (.putfield 15, 3) := by decide +kernel
theorem dX5_init_20 : decode cX5_init 20 = .ok (.aload_n 0, 1) := by decide +kernel
theorem dX5_init_21 : decode cX5_init 21 = .ok (.bipush 74, 2) := by decide +kernel
theorem dX5_init_23 : decode cX5_init 23 = .ok (.newarray .int, 2) := by decide +kernel
theorem dX5_init_25 : decode cX5_init 25 = .ok (.putfield 18, 3) := by decide +kernel
theorem dX5_init_28 : decode cX5_init 28 = .ok (.aload_n 0, 1) := by decide +kernel
theorem dX5_init_29 : decode cX5_init 29 = .ok (.bipush 62, 2) := by decide +kernel
theorem dX5_init_31 : decode cX5_init 31 = .ok (.newarray .int, 2) := by decide +kernel
theorem dX5_init_33 : decode cX5_init 33 = .ok (.putfield 21, 3) := by decide +kernel
theorem dX5_init_36 : decode cX5_init 36 = .ok (.aload_n 0, 1) := by decide +kernel
theorem dX5_init_37 : decode cX5_init 37 = .ok (.aload_n 1, 1) := by decide +kernel
theorem dX5_init_38 : decode cX5_init 38 = .ok (.putfield 24, 3) := by decide +kernel
theorem dX5_init_41 : decode cX5_init 41 = .ok (.return_, 1) := by decide +kernel
theorem dX5_lay_0 : decode cX5_lay 0 = .ok (.aload_n 0, 1) := by decide +kernel
theorem dX5_lay_1 : decode cX5_lay 1 = .ok (.iconst 0, 1) := by decide +kernel
theorem dX5_lay_2 : decode cX5_lay 2 = .ok (.putfield 28, 3) := by decide +kernel
theorem dX5_lay_5 : decode cX5_lay 5 = .ok (.iconst (-1), 1) := by decide +kernel
theorem dX5_lay_6 : decode cX5_lay 6 = .ok (.istore_n 1, 1) := by decide +kernel
theorem dX5_lay_7 : decode cX5_lay 7 = .ok (.iload_n 1, 1) := by decide +kernel
theorem dX5_lay_8 : decode cX5_lay 8 = .ok (.aload_n 0, 1) := by decide +kernel
theorem dX5_lay_9 : decode cX5_lay 9 = .ok (.getfield 24, 3) := by decide +kernel
theorem dX5_lay_12 : decode cX5_lay 12 = .ok (.getfield 32, 3) := by decide +kernel
theorem dX5_lay_15 : decode cX5_lay 15 = .ok (.if_icmp .ge 42, 3) := by decide +kernel
theorem dX5_lay_18 : decode cX5_lay 18 = .ok (.aload_n 0, 1) := by decide +kernel
theorem dX5_lay_19 : decode cX5_lay 19 = .ok (.getfield 21, 3) := by decide +kernel
theorem dX5_lay_22 : decode cX5_lay 22 = .ok (.iload_n 1, 1) := by decide +kernel
theorem dX5_lay_23 : decode cX5_lay 23 = .ok (.iconst 1, 1) := by decide +kernel
theorem dX5_lay_24 : decode cX5_lay 24 = .ok (.iadd, 1) := by decide +kernel
theorem dX5_lay_25 : decode cX5_lay 25 = .ok (.aload_n 0, 1) := by decide +kernel
theorem dX5_lay_26 : decode cX5_lay 26 = .ok (.getfield 28, 3) := by decide +kernel
theorem dX5_lay_29 : decode cX5_lay 29 = .ok (.iastore, 1) := by decide +kernel
theorem dX5_lay_30 : decode cX5_lay 30 = .ok (.iload_n 1, 1) := by decide +kernel
theorem dX5_lay_31 : decode cX5_lay 31 = .ok (.iconst (-1), 1) := by decide +kernel
theorem dX5_lay_32 : decode cX5_lay 32 = .ok (.if_icmp .eq 14, 3) := by decide +kernel
theorem dX5_lay_35 : decode cX5_lay 35 = .ok (.aload_n 0, 1) := by decide +kernel
theorem dX5_lay_36 : decode cX5_lay 36 = .ok (.getfield 24, 3) := by decide +kernel
theorem dX5_lay_39 : decode cX5_lay 39 = .ok (.iload_n 1, 1) := by decide +kernel
theorem dX5_lay_40 : decode cX5_lay 40 = .ok (.invokevirtual 37, 3) := by decide +kernel
theorem dX5_lay_43 : decode cX5_lay 43 = .ok (.ifCond .eq 8, 3) := by decide +kernel
theorem dX5_lay_46 : decode cX5_lay 46 = .ok (.aload_n 0, 1) := by decide +kernel
theorem dX5_lay_47 : decode cX5_lay 47 = .ok (.iload_n 1, 1) := by decide +kernel
theorem dX5_lay_48 : decode cX5_lay 48 = .ok (.invokevirtual 41, 3) := by decide +kernel
theorem dX5_lay_51 : decode cX5_lay 51 = .ok (.iinc 1 1, 3) := by decide +kernel
theorem dX5_lay_54 : decode cX5_lay 54 = .ok (.goto (-47), 3) := by decide +kernel
theorem dX5_lay_57 : decode cX5_lay 57 = .ok (.aload_n 0, 1) := by decide +kernel
theorem dX5_lay_58 : decode cX5_lay 58 = .ok (.getfield 21, 3) := by decide +kernel
theorem dX5_lay_61 : decode cX5_lay 61 = .ok (.aload_n 0, 1) := by decide +kernel
theorem dX5_lay_62 : decode cX5_lay 62 = .ok (.getfield 24, 3) := by decide +kernel
theorem dX5_lay_65 : decode cX5_lay 65 = .ok (.getfield 32, 3) := by decide +kernel
theorem dX5_lay_68 : decode cX5_lay 68 = .ok (.iconst 1, 1) := by decide +kernel
theorem dX5_lay_69 : decode cX5_lay 69 = .ok (.iadd, 1) := by decide +kernel
theorem dX5_lay_70 : decode cX5_lay 70 = .ok (.aload_n 0, 1) := by decide +kernel
theorem dX5_lay_71 : decode cX5_lay 71 = .ok (.getfield 28, 3) := by decide +kernel
theorem dX5_lay_74 : decode cX5_lay 74 = .ok (.iastore, 1) := by decide +kernel
theorem dX5_lay_75 : decode cX5_lay 75 = .ok (.return_, 1) := by decide +kernel
theorem dX5_layFrom_0 : decode cX5_layFrom 0 = .ok (.iload_n 1, 1) := by decide +kernel
theorem dX5_layFrom_1 : decode cX5_layFrom 1 = .ok (.iconst (-1), 1) := by decide +kernel
theorem dX5_layFrom_2 : decode cX5_layFrom 2 = .ok (.if_icmp .ne 13, 3) := by decide +kernel
theorem dX5_layFrom_5 : decode cX5_layFrom 5 = .ok (.aload_n 0, 1) := by decide +kernel
theorem dX5_layFrom_6 : decode cX5_layFrom 6 = .ok (.getfield 24, 3) := by decide +kernel
theorem dX5_layFrom_9 : decode cX5_layFrom 9 = .ok (.invokevirtual 45, 3) := by decide +kernel
theorem dX5_layFrom_12 : decode cX5_layFrom 12 = .ok (.goto 6, 3) := by decide +kernel
theorem dX5_layFrom_15 : decode cX5_layFrom 15 = .ok (.iload_n 1, 1) := by decide +kernel
theorem dX5_layFrom_16 : decode cX5_layFrom 16 = .ok (.iconst 1, 1) := by decide +kernel
theorem dX5_layFrom_17 : decode cX5_layFrom 17 = .ok (.iadd, 1) := by decide +kernel
theorem dX5_layFrom_18 : decode cX5_layFrom 18 = .ok (.istore_n 2, 1) := by decide +kernel
theorem dX5_layFrom_19 : decode cX5_layFrom 19 = .ok (.aload_n 0, 1) := by decide +kernel
theorem dX5_layFrom_20 : decode cX5_layFrom 20 = .ok (.getfield 24, 3) := by decide +kernel
theorem dX5_layFrom_23 : decode cX5_layFrom 23 = .ok (.iload_n 2, 1) := by decide +kernel
theorem dX5_layFrom_24 : decode cX5_layFrom 24 = .ok (.invokevirtual 37, 3) := by decide +kernel
theorem dX5_layFrom_27 : decode cX5_layFrom 27 = .ok (.ifCond .eq 10, 3) := by decide +kernel
theorem dX5_layFrom_30 : decode cX5_layFrom 30 = .ok (.aload_n 0, 1) := by decide +kernel
theorem dX5_layFrom_31 : decode cX5_layFrom 31 = .ok (.iload_n 1, 1) := by decide +kernel
theorem dX5_layFrom_32 : decode cX5_layFrom 32 = .ok (.iload_n 2, 1) := by decide +kernel
theorem dX5_layFrom_33 : decode cX5_layFrom 33 = .ok (.iconst 0, 1) := by decide +kernel
theorem dX5_layFrom_34 : decode cX5_layFrom 34 = .ok (.invokevirtual 49, 3) := by decide +kernel
theorem dX5_layFrom_37 : decode cX5_layFrom 37 = .ok (.aload_n 0, 1) := by decide +kernel
theorem dX5_layFrom_38 : decode cX5_layFrom 38 = .ok (.getfield 24, 3) := by decide +kernel
theorem dX5_layFrom_41 : decode cX5_layFrom 41 = .ok (.invokevirtual 53, 3) := by decide +kernel
theorem dX5_layFrom_44 : decode cX5_layFrom 44 = .ok (.ifCond .eq 27, 3) := by decide +kernel
theorem dX5_layFrom_47 : decode cX5_layFrom 47 = .ok (.iload_n 1, 1) := by decide +kernel
theorem dX5_layFrom_48 : decode cX5_layFrom 48 = .ok (.aload_n 0, 1) := by decide +kernel
theorem dX5_layFrom_49 : decode cX5_layFrom 49 = .ok (.getfield 24, 3) := by decide +kernel
theorem dX5_layFrom_52 : decode cX5_layFrom 52 = .ok (.getfield 57, 3) := by decide +kernel
theorem dX5_layFrom_55 : decode cX5_layFrom 55 = .ok (.if_icmp .ne 16, 3) := by decide +kernel
theorem dX5_layFrom_58 : decode cX5_layFrom 58 = .ok (.aload_n 0, 1) := by decide +kernel
theorem dX5_layFrom_59 : decode cX5_layFrom 59 = .ok (.iload_n 1, 1) := by decide +kernel
theorem dX5_layFrom_60 : decode cX5_layFrom 60 = .ok (.aload_n 0, 1) := by decide +kernel
theorem dX5_layFrom_61 : decode cX5_layFrom 61 = .ok (.getfield 24, 3) := by decide +kernel
theorem dX5_layFrom_64 : decode cX5_layFrom 64 = .ok (.getfield 60, 3) := by decide +kernel
theorem dX5_layFrom_67 : decode cX5_layFrom 67 = .ok (.iconst 0, 1) := by decide +kernel
theorem dX5_layFrom_68 : decode cX5_layFrom 68 = .ok (.invokevirtual 49, 3) := by decide +kernel
theorem dX5_layFrom_71 : decode cX5_layFrom 71 = .ok (.iconst 0, 1) := by decide +kernel
theorem dX5_layFrom_72 : decode cX5_layFrom 72 = .ok (.istore_n 3, 1) := by decide +kernel
theorem dX5_layFrom_73 : decode cX5_layFrom 73 = .ok (.iload_n 3, 1) := by decide +kernel
theorem dX5_layFrom_74 : decode cX5_layFrom 74 = .ok (.aload_n 0, 1) := by decide +kernel
theorem dX5_layFrom_75 : decode cX5_layFrom 75 = .ok (.getfield 24, 3) := by decide +kernel
theorem dX5_layFrom_78 : decode cX5_layFrom 78 = .ok (.getfield 63, 3) := by decide +kernel
theorem dX5_layFrom_81 : decode cX5_layFrom 81 = .ok (.if_icmp .ge 64, 3) := by decide +kernel
theorem dX5_layFrom_84 : decode cX5_layFrom 84 = .ok (.aload_n 0, 1) := by decide +kernel
theorem dX5_layFrom_85 : decode cX5_layFrom 85 = .ok (.getfield 24, 3) := by decide +kernel
theorem dX5_layFrom_88 : decode cX5_layFrom 88 = .ok (.getfield 66, 3) := by decide +kernel
theorem dX5_layFrom_91 : decode cX5_layFrom 91 = .ok (.iload_n 3, 1) := by decide +kernel
theorem dX5_layFrom_92 : decode cX5_layFrom 92 = .ok (.iaload, 1) := by decide +kernel
theorem dX5_layFrom_93 : decode cX5_layFrom 93 = .ok (.iload_n 1, 1) := by decide +kernel
theorem dX5_layFrom_94 : decode cX5_layFrom 94 = .ok (.if_icmp .ne 45, 3) := by decide +kernel
theorem dX5_layFrom_97 : decode cX5_layFrom 97 = .ok (.aload_n 0, 1) := by decide +kernel
theorem dX5_layFrom_98 : decode cX5_layFrom 98 = .ok (.getfield 24, 3) := by decide +kernel
theorem dX5_layFrom_101 : decode cX5_layFrom 101 = .ok (.aload_n 0, 1) := by decide +kernel
theorem dX5_layFrom_102 : decode cX5_layFrom 102 = .ok (.getfield 24, 3) := by decide +kernel
theorem dX5_layFrom_105 : decode cX5_layFrom 105 = .ok (.getfield 69, 3) := by decide +kernel
theorem dX5_layFrom_108 : decode cX5_layFrom 108 = .ok (.iload_n 3, 1) := by decide +kernel
theorem dX5_layFrom_109 : decode cX5_layFrom 109 = .ok (.iaload, 1) := by decide +kernel
theorem dX5_layFrom_110 : decode cX5_layFrom 110 = .ok (.invokevirtual 37, 3) := by decide +kernel
theorem dX5_layFrom_113 : decode cX5_layFrom 113 = .ok (.ifCond .eq 26, 3) := by decide +kernel
theorem dX5_layFrom_116 : decode cX5_layFrom 116 = .ok (.aload_n 0, 1) := by decide +kernel
theorem dX5_layFrom_117 : decode cX5_layFrom 117 = .ok (.iload_n 1, 1) := by decide +kernel
theorem dX5_layFrom_118 : decode cX5_layFrom 118 = .ok (.aload_n 0, 1) := by decide +kernel
theorem dX5_layFrom_119 : decode cX5_layFrom 119 = .ok (.getfield 24, 3) := by decide +kernel
theorem dX5_layFrom_122 : decode cX5_layFrom 122 = .ok (.getfield 69, 3) := by decide +kernel
theorem dX5_layFrom_125 : decode cX5_layFrom 125 = .ok (.iload_n 3, 1) := by decide +kernel
theorem dX5_layFrom_126 : decode cX5_layFrom 126 = .ok (.iaload, 1) := by decide +kernel
theorem dX5_layFrom_127 : decode cX5_layFrom 127 = .ok (.aload_n 0, 1) := by decide +kernel
theorem dX5_layFrom_128 : decode cX5_layFrom 128 = .ok (.getfield 24, 3) := by decide +kernel
theorem dX5_layFrom_131 : decode cX5_layFrom 131 = .ok (.getfield 72, 3) := by decide +kernel
theorem dX5_layFrom_134 : decode cX5_layFrom 134 = .ok (.iconst 3, 1) := by decide +kernel
theorem dX5_layFrom_135 : decode cX5_layFrom 135 = .ok (.iaload, 1) := by decide +kernel
theorem dX5_layFrom_136 : decode cX5_layFrom 136 = .ok (.invokevirtual 49, 3) := by decide +kernel
theorem dX5_layFrom_139 : decode cX5_layFrom 139 = .ok (.iinc 3 1, 3) := by decide +kernel
theorem dX5_layFrom_142 : decode cX5_layFrom 142 = .ok (.goto (-69), 3) := by decide +kernel
theorem dX5_layFrom_145 : decode cX5_layFrom 145 = .ok (.return_, 1) := by decide +kernel
theorem dX5_add_0 : decode cX5_add 0 = .ok (.aload_n 0, 1) := by decide +kernel
theorem dX5_add_1 : decode cX5_add 1 = .ok (.getfield 28, 3) := by decide +kernel
theorem dX5_add_4 : decode cX5_add 4 = .ok (.bipush 74, 2) := by decide +kernel
theorem dX5_add_6 : decode cX5_add 6 = .ok (.if_icmp .lt 4, 3) := by decide +kernel
theorem dX5_add_9 : decode cX5_add 9 = .ok (.return_, 1) := by decide +kernel
theorem dX5_add_10 : decode cX5_add 10 = .ok (.aload_n 0, 1) := by decide +kernel
theorem dX5_add_11 : decode cX5_add 11 = .ok (.getfield 9, 3) := by decide +kernel
theorem dX5_add_14 : decode cX5_add 14 = .ok (.aload_n 0, 1) := by decide +kernel
theorem dX5_add_15 : decode cX5_add 15 = .ok (.getfield 28, 3) := by decide +kernel
theorem dX5_add_18 : decode cX5_add 18 = .ok (.iload_n 1, 1) := by decide +kernel
theorem dX5_add_19 : decode cX5_add 19 = .ok (.iastore, 1) := by decide +kernel
theorem dX5_add_20 : decode cX5_add 20 = .ok (.aload_n 0, 1) := by decide +kernel
theorem dX5_add_21 : decode cX5_add 21 = .ok (.getfield 15, 3) := by decide +kernel
theorem dX5_add_24 : decode cX5_add 24 = .ok (.aload_n 0, 1) := by decide +kernel
theorem dX5_add_25 : decode cX5_add 25 = .ok (.getfield 28, 3) := by decide +kernel
theorem dX5_add_28 : decode cX5_add 28 = .ok (.iload_n 2, 1) := by decide +kernel
theorem dX5_add_29 : decode cX5_add 29 = .ok (.iastore, 1) := by decide +kernel
theorem dX5_add_30 : decode cX5_add 30 = .ok (.aload_n 0, 1) := by decide +kernel
theorem dX5_add_31 : decode cX5_add 31 = .ok (.getfield 18, 3) := by decide +kernel
theorem dX5_add_34 : decode cX5_add 34 = .ok (.aload_n 0, 1) := by decide +kernel
theorem dX5_add_35 : decode cX5_add 35 = .ok (.getfield 28, 3) := by decide +kernel
theorem dX5_add_38 : decode cX5_add 38 = .ok (.iload_n 3, 1) := by decide +kernel
theorem dX5_add_39 : decode cX5_add 39 = .ok (.iastore, 1) := by decide +kernel
theorem dX5_add_40 : decode cX5_add 40 = .ok (.aload_n 0, 1) := by decide +kernel
theorem dX5_add_41 : decode cX5_add 41 = .ok (.dup, 1) := by decide +kernel
theorem dX5_add_42 : decode cX5_add 42 = .ok (.getfield 28, 3) := by decide +kernel
theorem dX5_add_45 : decode cX5_add 45 = .ok (.iconst 1, 1) := by decide +kernel
theorem dX5_add_46 : decode cX5_add 46 = .ok (.iadd, 1) := by decide +kernel
theorem dX5_add_47 : decode cX5_add 47 = .ok (.putfield 28, 3) := by decide +kernel
theorem dX5_add_50 : decode cX5_add 50 = .ok (.return_, 1) := by decide +kernel
theorem dX5_beginOf_0 : decode cX5_beginOf 0 = .ok (.aload_n 0, 1) := by decide +kernel
theorem dX5_beginOf_1 : decode cX5_beginOf 1 = .ok (.getfield 21, 3) := by decide +kernel
theorem dX5_beginOf_4 : decode cX5_beginOf 4 = .ok (.iload_n 1, 1) := by decide +kernel
theorem dX5_beginOf_5 : decode cX5_beginOf 5 = .ok (.iconst 1, 1) := by decide +kernel
theorem dX5_beginOf_6 : decode cX5_beginOf 6 = .ok (.iadd, 1) := by decide +kernel
theorem dX5_beginOf_7 : decode cX5_beginOf 7 = .ok (.iaload, 1) := by decide +kernel
theorem dX5_beginOf_8 : decode cX5_beginOf 8 = .ok (.ireturn, 1) := by decide +kernel
theorem dX5_endOf_0 : decode cX5_endOf 0 = .ok (.aload_n 0, 1) := by decide +kernel
theorem dX5_endOf_1 : decode cX5_endOf 1 = .ok (.getfield 21, 3) := by decide +kernel
theorem dX5_endOf_4 : decode cX5_endOf 4 = .ok (.iload_n 1, 1) := by decide +kernel
theorem dX5_endOf_5 : decode cX5_endOf 5 = .ok (.iconst 2, 1) := by decide +kernel
theorem dX5_endOf_6 : decode cX5_endOf 6 = .ok (.iadd, 1) := by decide +kernel
theorem dX5_endOf_7 : decode cX5_endOf 7 = .ok (.iaload, 1) := by decide +kernel
theorem dX5_endOf_8 : decode cX5_endOf 8 = .ok (.ireturn, 1) := by decide +kernel
theorem dX6_init_0 : decode cX6_init 0 = .ok (.aload_n 0, 1) := by decide +kernel
theorem dX6_init_1 : decode cX6_init 1 = .ok (.invokespecial 3, 3) := by decide +kernel
theorem dX6_init_4 : decode cX6_init 4 = .ok (.aload_n 0, 1) := by decide +kernel
theorem dX6_init_5 : decode cX6_init 5 = .ok (.bipush 60, 2) := by decide +kernel
theorem dX6_init_7 : decode cX6_init 7 = .ok (.newarray .int, 2) := by decide +kernel
theorem dX6_init_9 : decode cX6_init 9 = .ok (.putfield 9, 3) := by decide +kernel
theorem dX6_init_12 : decode cX6_init 12 = .ok (.aload_n 0, 1) := by decide +kernel
theorem dX6_init_13 : decode cX6_init 13 = .ok (.bipush 60, 2) := by decide +kernel
theorem dX6_init_15 : decode cX6_init 15 = .ok (.newarray .int, 2) := by decide +kernel
theorem dX6_init_17 : decode cX6_init 17 = .ok (.putfield 15, 3) := by decide +kernel
theorem dX6_init_20 : decode cX6_init 20 = .ok (.aload_n 0, 1) := by decide +kernel
theorem dX6_init_21 : decode cX6_init 21 = .ok (.bipush 12, 2) := by decide +kernel
theorem dX6_init_23 : decode cX6_init 23 = .ok (.newarray .int, 2) := by decide +kernel
theorem dX6_init_25 : decode cX6_init 25 = .ok (.putfield 18, 3) := by decide +kernel
theorem dX6_init_28 : decode cX6_init 28 = .ok (.aload_n 0, 1) := by decide +kernel
theorem dX6_init_29 : decode cX6_init 29 = .ok (.bipush 12, 2) := by decide +kernel
theorem dX6_init_31 : decode cX6_init 31 = .ok (.newarray .int, 2) := by decide +kernel
theorem dX6_init_33 : decode cX6_init 33 = .ok (.putfield 21, 3) := by decide +kernel
theorem dX6_init_36 : decode cX6_init 36 = .ok (.aload_n 0, 1) := by decide +kernel
theorem dX6_init_37 : decode cX6_init 37 = .ok (.getstatic 24, 3) := by decide +kernel
theorem dX6_init_40 : decode cX6_init 40 = .ok (.arraylength, 1) := by decide +kernel
theorem dX6_init_41 : decode cX6_init 41 = .ok (.newarray .int, 2) := by decide +kernel
theorem dX6_init_43 : decode cX6_init 43 = .ok (.putfield 27, 3) := by decide +kernel
theorem dX6_init_46 : decode cX6_init 46 = .ok (.aload_n 0, 1) := by decide +kernel
theorem dX6_init_47 : decode cX6_init 47 = .ok (.invokevirtual 30, 3) := by decide +kernel
theorem dX6_init_50 : decode cX6_init 50 = .ok (.return_, 1) := by decide +kernel
theorem dX6_empty_0 : decode cX6_empty 0 = .ok (.aload_n 0, 1) := by decide +kernel
theorem dX6_empty_1 : decode cX6_empty 1 = .ok (.iconst 0, 1) := by decide +kernel
theorem dX6_empty_2 : decode cX6_empty 2 = .ok (.putfield 33, 3) := by decide +kernel
theorem dX6_empty_5 : decode cX6_empty 5 = .ok (.aload_n 0, 1) := by decide +kernel
theorem dX6_empty_6 : decode cX6_empty 6 = .ok (.iconst 0, 1) := by decide +kernel
theorem dX6_empty_7 : decode cX6_empty 7 = .ok (.putfield 37, 3) := by decide +kernel
theorem dX6_empty_10 : decode cX6_empty 10 = .ok (.aload_n 0, 1) := by decide +kernel
theorem dX6_empty_11 : decode cX6_empty 11 = .ok (.iconst (-1), 1) := by decide +kernel
theorem dX6_empty_12 : decode cX6_empty 12 = .ok (.putfield 40, 3) := by decide +kernel
theorem dX6_empty_15 : decode cX6_empty 15 = .ok (.aload_n 0, 1) := by decide +kernel
theorem dX6_empty_16 : decode cX6_empty 16 = .ok (.iconst (-1), 1) := by decide +kernel
theorem dX6_empty_17 : decode cX6_empty 17 = .ok (.putfield 43, 3) := by decide +kernel
theorem dX6_empty_20 : decode cX6_empty 20 = .ok (.aload_n 0, 1) := by decide +kernel
theorem dX6_empty_21 : decode cX6_empty 21 = .ok (.bipush 8, 2) := by decide +kernel
theorem dX6_empty_23 : decode cX6_empty 23 = .ok (.putfield 46, 3) := by decide +kernel
theorem dX6_empty_26 : decode cX6_empty 26 = .ok (.iconst 0, 1) := by decide +kernel
theorem dX6_empty_27 : decode cX6_empty 27 = .ok (.istore_n 1, 1) := by decide +kernel
theorem dX6_empty_28 : decode cX6_empty 28 = .ok (.iload_n 1, 1) := by decide +kernel
theorem dX6_empty_29 : decode cX6_empty 29 = .ok (.getstatic 24, 3) := by decide +kernel
theorem dX6_empty_32 : decode cX6_empty 32 = .ok (.arraylength, 1) := by decide +kernel
theorem dX6_empty_33 : decode cX6_empty 33 = .ok (.if_icmp .ge 20, 3) := by decide +kernel
theorem dX6_empty_36 : decode cX6_empty 36 = .ok (.aload_n 0, 1) := by decide +kernel
theorem dX6_empty_37 : decode cX6_empty 37 = .ok (.getfield 27, 3) := by decide +kernel
theorem dX6_empty_40 : decode cX6_empty 40 = .ok (.iload_n 1, 1) := by decide +kernel
theorem dX6_empty_41 : decode cX6_empty 41 = .ok (.getstatic 24, 3) := by decide +kernel
theorem dX6_empty_44 : decode cX6_empty 44 = .ok (.iload_n 1, 1) := by decide +kernel
theorem dX6_empty_45 : decode cX6_empty 45 = .ok (.iaload, 1) := by decide +kernel
theorem dX6_empty_46 : decode cX6_empty 46 = .ok (.iastore, 1) := by decide +kernel
theorem dX6_empty_47 : decode cX6_empty 47 = .ok (.iinc 1 1, 3) := by decide +kernel
theorem dX6_empty_50 : decode cX6_empty 50 = .ok (.goto (-22), 3) := by decide +kernel
theorem dX6_empty_53 : decode cX6_empty 53 = .ok (.return_, 1) := by decide +kernel
theorem dX6_addNote_0 : decode cX6_addNote 0 = .ok (.aload_n 0, 1) := by decide +kernel
theorem dX6_addNote_1 : decode cX6_addNote 1 = .ok (.getfield 9, 3) := by decide +kernel
theorem dX6_addNote_4 : decode cX6_addNote 4 = .ok (.aload_n 0, 1) := by decide +kernel
theorem dX6_addNote_5 : decode cX6_addNote 5 = .ok (.getfield 33, 3) := by decide +kernel
theorem dX6_addNote_8 : decode cX6_addNote 8 = .ok (.iload_n 1, 1) := by decide +kernel
theorem dX6_addNote_9 : decode cX6_addNote 9 = .ok (.iastore, 1) := by decide +kernel
theorem dX6_addNote_10 : decode cX6_addNote 10 = .ok (.aload_n 0, 1) := by decide +kernel
theorem dX6_addNote_11 : decode cX6_addNote 11 = .ok (.getfield 15, 3) := by decide +kernel
theorem dX6_addNote_14 : decode cX6_addNote 14 = .ok (.aload_n 0, 1) := by decide +kernel
theorem dX6_addNote_15 : decode cX6_addNote 15 = .ok (.getfield 33, 3) := by decide +kernel
theorem dX6_addNote_18 : decode cX6_addNote 18 = .ok (.iload_n 2, 1) := by decide +kernel
theorem dX6_addNote_19 : decode cX6_addNote 19 = .ok (.iastore, 1) := by decide +kernel
theorem dX6_addNote_20 : decode cX6_addNote 20 = .ok (.aload_n 0, 1) := by decide +kernel
theorem dX6_addNote_21 : decode cX6_addNote 21 = .ok (.dup, 1) := by decide +kernel
theorem dX6_addNote_22 : decode cX6_addNote 22 = .ok (.getfield 33, 3) := by decide +kernel
theorem dX6_addNote_25 : decode cX6_addNote 25 = .ok (.iconst 1, 1) := by decide +kernel
theorem dX6_addNote_26 : decode cX6_addNote 26 = .ok (.iadd, 1) := by decide +kernel
theorem dX6_addNote_27 : decode cX6_addNote 27 = .ok (.putfield 33, 3) := by decide +kernel
theorem dX6_addNote_30 : decode cX6_addNote 30 = .ok (.aload_n 0, 1) := by decide +kernel
theorem dX6_addNote_31 : decode cX6_addNote 31 = .ok (.getfield 33, 3) := by decide +kernel
theorem dX6_addNote_34 : decode cX6_addNote 34 = .ok (.iconst 1, 1) := by decide +kernel
theorem dX6_addNote_35 : decode cX6_addNote 35 = .ok (.isub, 1) := by decide +kernel
theorem dX6_addNote_36 : decode cX6_addNote 36 = .ok (.ireturn, 1) := by decide +kernel
theorem dX6_addWay_0 : decode cX6_addWay 0 = .ok (.aload_n 0, 1) := by decide +kernel
theorem dX6_addWay_1 : decode cX6_addWay 1 = .ok (.getfield 18, 3) := by decide +kernel
theorem dX6_addWay_4 : decode cX6_addWay 4 = .ok (.aload_n 0, 1) := by decide +kernel
theorem dX6_addWay_5 : decode cX6_addWay 5 = .ok (.getfield 37, 3) := by decide +kernel
theorem dX6_addWay_8 : decode cX6_addWay 8 = .ok (.iload_n 1, 1) := by decide +kernel
theorem dX6_addWay_9 : decode cX6_addWay 9 = .ok (.iastore, 1) := by decide +kernel
theorem dX6_addWay_10 : decode cX6_addWay 10 = .ok (.aload_n 0, 1) := by decide +kernel
theorem dX6_addWay_11 : decode cX6_addWay 11 = .ok (.getfield 21, 3) := by decide +kernel
theorem dX6_addWay_14 : decode cX6_addWay 14 = .ok (.aload_n 0, 1) := by decide +kernel
theorem dX6_addWay_15 : decode cX6_addWay 15 = .ok (.getfield 37, 3) := by decide +kernel
theorem dX6_addWay_18 : decode cX6_addWay 18 = .ok (.iload_n 2, 1) := by decide +kernel
theorem dX6_addWay_19 : decode cX6_addWay 19 = .ok (.iastore, 1) := by decide +kernel
theorem dX6_addWay_20 : decode cX6_addWay 20 = .ok (.aload_n 0, 1) := by decide +kernel
theorem dX6_addWay_21 : decode cX6_addWay 21 = .ok (.dup, 1) := by decide +kernel
theorem dX6_addWay_22 : decode cX6_addWay 22 = .ok (.getfield 37, 3) := by decide +kernel
theorem dX6_addWay_25 : decode cX6_addWay 25 = .ok (.iconst 1, 1) := by decide +kernel
theorem dX6_addWay_26 : decode cX6_addWay 26 = .ok (.iadd, 1) := by decide +kernel
theorem dX6_addWay_27 : decode cX6_addWay 27 = .ok (.putfield 37, 3) := by decide +kernel
theorem dX6_addWay_30 : decode cX6_addWay 30 = .ok (.aload_n 0, 1) := by decide +kernel
theorem dX6_addWay_31 : decode cX6_addWay 31 = .ok (.getfield 37, 3) := by decide +kernel
theorem dX6_addWay_34 : decode cX6_addWay 34 = .ok (.iconst 1, 1) := by decide +kernel
theorem dX6_addWay_35 : decode cX6_addWay 35 = .ok (.isub, 1) := by decide +kernel
theorem dX6_addWay_36 : decode cX6_addWay 36 = .ok (.ireturn, 1) := by decide +kernel
theorem dX6_isNote_0 : decode cX6_isNote 0 = .ok (.iload_n 1, 1) := by decide +kernel
theorem dX6_isNote_1 : decode cX6_isNote 1 = .ok (.ifCond .lt 15, 3) := by decide +kernel
theorem dX6_isNote_4 : decode cX6_isNote 4 = .ok (.iload_n 1, 1) := by decide +kernel
theorem dX6_isNote_5 : decode cX6_isNote 5 = .ok (.aload_n 0, 1) := by decide +kernel
theorem dX6_isNote_6 : decode cX6_isNote 6 = .ok (.getfield 33, 3) := by decide +kernel
theorem dX6_isNote_9 : decode cX6_isNote 9 = .ok (.if_icmp .ge 7, 3) := by decide +kernel
theorem dX6_isNote_12 : decode cX6_isNote 12 = .ok (.iconst 1, 1) := by decide +kernel
theorem dX6_isNote_13 : decode cX6_isNote 13 = .ok (.goto 4, 3) := by decide +kernel
theorem dX6_isNote_16 : decode cX6_isNote 16 = .ok (.iconst 0, 1) := by decide +kernel
theorem dX6_isNote_17 : decode cX6_isNote 17 = .ok (.ireturn, 1) := by decide +kernel
theorem dX6_hasWay_0 : decode cX6_hasWay 0 = .ok (.iconst 0, 1) := by decide +kernel
theorem dX6_hasWay_1 : decode cX6_hasWay 1 = .ok (.istore_n 3, 1) := by decide +kernel
theorem dX6_hasWay_2 : decode cX6_hasWay 2 = .ok (.iload_n 3, 1) := by decide +kernel
theorem dX6_hasWay_3 : decode cX6_hasWay 3 = .ok (.aload_n 0, 1) := by decide +kernel
theorem dX6_hasWay_4 : decode cX6_hasWay 4 = .ok (.getfield 37, 3) := by decide +kernel
theorem dX6_hasWay_7 : decode cX6_hasWay 7 = .ok (.if_icmp .ge 31, 3) := by decide +kernel
theorem dX6_hasWay_10 : decode cX6_hasWay 10 = .ok (.aload_n 0, 1) := by decide +kernel
theorem dX6_hasWay_11 : decode cX6_hasWay 11 = .ok (.getfield 18, 3) := by decide +kernel
theorem dX6_hasWay_14 : decode cX6_hasWay 14 = .ok (.iload_n 3, 1) := by decide +kernel
theorem dX6_hasWay_15 : decode cX6_hasWay 15 = .ok (.iaload, 1) := by decide +kernel
theorem dX6_hasWay_16 : decode cX6_hasWay 16 = .ok (.iload_n 1, 1) := by decide +kernel
theorem dX6_hasWay_17 : decode cX6_hasWay 17 = .ok (.if_icmp .ne 15, 3) := by decide +kernel
theorem dX6_hasWay_20 : decode cX6_hasWay 20 = .ok (.aload_n 0, 1) := by decide +kernel
theorem dX6_hasWay_21 : decode cX6_hasWay 21 = .ok (.getfield 21, 3) := by decide +kernel
theorem dX6_hasWay_24 : decode cX6_hasWay 24 = .ok (.iload_n 3, 1) := by decide +kernel
theorem dX6_hasWay_25 : decode cX6_hasWay 25 = .ok (.iaload, 1) := by decide +kernel
theorem dX6_hasWay_26 : decode cX6_hasWay 26 = .ok (.iload_n 2, 1) := by decide +kernel
theorem dX6_hasWay_27 : decode cX6_hasWay 27 = .ok (.if_icmp .ne 5, 3) := by decide +kernel
theorem dX6_hasWay_30 : decode cX6_hasWay 30 = .ok (.iconst 1, 1) := by decide +kernel
theorem dX6_hasWay_31 : decode cX6_hasWay 31 = .ok (.ireturn, 1) := by decide +kernel
theorem dX6_hasWay_32 : decode cX6_hasWay 32 = .ok (.iinc 3 1, 3) := by decide +kernel
theorem dX6_hasWay_35 : decode cX6_hasWay 35 = .ok (.goto (-33), 3) := by decide +kernel
theorem dX6_hasWay_38 : decode cX6_hasWay 38 = .ok (.iconst 0, 1) := by decide +kernel
theorem dX6_hasWay_39 : decode cX6_hasWay 39 = .ok (.ireturn, 1) := by decide +kernel
theorem dX6_hasLoop_0 : decode cX6_hasLoop 0 = .ok (.aload_n 0, 1) := by decide +kernel
theorem dX6_hasLoop_1 : decode cX6_hasLoop 1 = .ok (.getfield 40, 3) := by decide +kernel
theorem dX6_hasLoop_4 : decode cX6_hasLoop 4 = .ok (.iconst (-1), 1) := by decide +kernel
theorem dX6_hasLoop_5 : decode cX6_hasLoop 5 = .ok (.if_icmp .eq 7, 3) := by decide +kernel
theorem dX6_hasLoop_8 : decode cX6_hasLoop 8 = .ok (.iconst 1, 1) := by decide +kernel
theorem dX6_hasLoop_9 : decode cX6_hasLoop 9 = .ok (.goto 4, 3) := by decide +kernel
theorem dX6_hasLoop_12 : decode cX6_hasLoop 12 = .ok (.iconst 0, 1) := by decide +kernel
theorem dX6_hasLoop_13 : decode cX6_hasLoop 13 = .ok (.ireturn, 1) := by decide +kernel
theorem dX6_lastStart_0 : decode cX6_lastStart 0 = .ok (.aload_n 0, 1) := by decide +kernel
theorem dX6_lastStart_1 : decode cX6_lastStart 1 = .ok (.getfield 33, 3) := by decide +kernel
theorem dX6_lastStart_4 : decode cX6_lastStart 4 = .ok (.ifCond .ne 7, 3) := by decide +kernel
theorem dX6_lastStart_7 : decode cX6_lastStart 7 = .ok (.iconst (-1), 1) := by decide +kernel
theorem dX6_lastStart_8 : decode cX6_lastStart 8 = .ok (.goto 14, 3) := by decide +kernel
theorem dX6_lastStart_11 : decode cX6_lastStart 11 = .ok (.aload_n 0, 1) := by decide +kernel
theorem dX6_lastStart_12 : decode cX6_lastStart 12 = .ok (.getfield 15, 3) := by decide +kernel
theorem dX6_lastStart_15 : decode cX6_lastStart 15 = .ok (.aload_n 0, 1) := by decide +kernel
theorem dX6_lastStart_16 : decode cX6_lastStart 16 = .ok (.getfield 33, 3) := by decide +kernel
theorem dX6_lastStart_19 : decode cX6_lastStart 19 = .ok (.iconst 1, 1) := by decide +kernel
theorem dX6_lastStart_20 : decode cX6_lastStart 20 = .ok (.isub, 1) := by decide +kernel
theorem dX6_lastStart_21 : decode cX6_lastStart 21 = .ok (.iaload, 1) := by decide +kernel
theorem dX6_lastStart_22 : decode cX6_lastStart 22 = .ok (.ireturn, 1) := by decide +kernel
theorem dX6_firstThere_0 : decode cX6_firstThere 0 = .ok (.aload_n 0, 1) := by decide +kernel
theorem dX6_firstThere_1 : decode cX6_firstThere 1 = .ok (.invokevirtual 49, 3) := by decide +kernel
theorem dX6_firstThere_4 : decode cX6_firstThere 4 = .ok (.ifCond .eq 10, 3) := by decide +kernel
theorem dX6_firstThere_7 : decode cX6_firstThere 7 = .ok (.aload_n 0, 1) := by decide +kernel
theorem dX6_firstThere_8 : decode cX6_firstThere 8 = .ok (.getfield 40, 3) := by decide +kernel
theorem dX6_firstThere_11 : decode cX6_firstThere 11 = .ok (.goto 4, 3) := by decide +kernel
theorem dX6_firstThere_14 : decode cX6_firstThere 14 = .ok (.iconst 0, 1) := by decide +kernel
theorem dX6_firstThere_15 : decode cX6_firstThere 15 = .ok (.ireturn, 1) := by decide +kernel
theorem dX6_lastThere_0 : decode cX6_lastThere 0 = .ok (.aload_n 0, 1) := by decide +kernel
theorem dX6_lastThere_1 : decode cX6_lastThere 1 = .ok (.invokevirtual 49, 3) := by decide +kernel
theorem dX6_lastThere_4 : decode cX6_lastThere 4 = .ok (.ifCond .eq 10, 3) := by decide +kernel
theorem dX6_lastThere_7 : decode cX6_lastThere 7 = .ok (.aload_n 0, 1) := by decide +kernel
theorem dX6_lastThere_8 : decode cX6_lastThere 8 = .ok (.getfield 43, 3) := by decide +kernel
theorem dX6_lastThere_11 : decode cX6_lastThere 11 = .ok (.goto 9, 3) := by decide +kernel
theorem dX6_lastThere_14 : decode cX6_lastThere 14 = .ok (.aload_n 0, 1) := by decide +kernel
theorem dX6_lastThere_15 : decode cX6_lastThere 15 = .ok (.getfield 33, 3) := by decide +kernel
theorem dX6_lastThere_18 : decode cX6_lastThere 18 = .ok (.iconst 1, 1) := by decide +kernel
theorem dX6_lastThere_19 : decode cX6_lastThere 19 = .ok (.isub, 1) := by decide +kernel
theorem dX6_lastThere_20 : decode cX6_lastThere 20 = .ok (.ireturn, 1) := by decide +kernel
theorem dX6_isThere_0 : decode cX6_isThere 0 = .ok (.iload_n 1, 1) := by decide +kernel
theorem dX6_isThere_1 : decode cX6_isThere 1 = .ok (.aload_n 0, 1) := by decide +kernel
theorem dX6_isThere_2 : decode cX6_isThere 2 = .ok (.invokevirtual 53, 3) := by decide +kernel
theorem dX6_isThere_5 : decode cX6_isThere 5 = .ok (.if_icmp .lt 15, 3) := by decide +kernel
theorem dX6_isThere_8 : decode cX6_isThere 8 = .ok (.iload_n 1, 1) := by decide +kernel
theorem dX6_isThere_9 : decode cX6_isThere 9 = .ok (.aload_n 0, 1) := by decide +kernel
theorem dX6_isThere_10 : decode cX6_isThere 10 = .ok (.invokevirtual 57, 3) := by decide +kernel
theorem dX6_isThere_13 : decode cX6_isThere 13 = .ok (.if_icmp .gt 7, 3) := by decide +kernel
theorem dX6_isThere_16 : decode cX6_isThere 16 = .ok (.iconst 1, 1) := by decide +kernel
theorem dX6_isThere_17 : decode cX6_isThere 17 = .ok (.goto 4, 3) := by decide +kernel
theorem dX6_isThere_20 : decode cX6_isThere 20 = .ok (.iconst 0, 1) := by decide +kernel
theorem dX6_isThere_21 : decode cX6_isThere 21 = .ok (.ireturn, 1) := by decide +kernel
theorem dX6_mistake_0 : decode cX6_mistake 0 = .ok (.aload_n 0, 1) := by decide +kernel
theorem dX6_mistake_1 : decode cX6_mistake 1 = .ok (.getfield 9, 3) := by decide +kernel
theorem dX6_mistake_4 : decode cX6_mistake 4 = .ok (.iload_n 1, 1) := by decide +kernel
theorem dX6_mistake_5 : decode cX6_mistake 5 = .ok (.iaload, 1) := by decide +kernel
theorem dX6_mistake_6 : decode cX6_mistake 6 = .ok (.iload_n 2, 1) := by decide +kernel
theorem dX6_mistake_7 : decode cX6_mistake 7 = .ok (.if_icmp .ne 7, 3) := by decide +kernel
theorem dX6_mistake_10 : decode cX6_mistake 10 = .ok (.iconst 0, 1) := by decide +kernel
theorem dX6_mistake_11 : decode cX6_mistake 11 = .ok (.goto 9, 3) := by decide +kernel
theorem dX6_mistake_14 : decode cX6_mistake 14 = .ok (.aload_n 0, 1) := by decide +kernel
theorem dX6_mistake_15 : decode cX6_mistake 15 = .ok (.getfield 27, 3) := by decide +kernel
theorem dX6_mistake_18 : decode cX6_mistake 18 = .ok (.iconst 0, 1) := by decide +kernel
theorem dX6_mistake_19 : decode cX6_mistake 19 = .ok (.iaload, 1) := by decide +kernel
theorem dX6_mistake_20 : decode cX6_mistake 20 = .ok (.ireturn, 1) := by decide +kernel
theorem dJ9_floorDiv_f86c9_0 : decode cJ9_floorDiv_f86c9 0 = .ok (.lload_n 0, 1) := by decide +kernel
theorem dJ9_floorDiv_f86c9_1 : decode cJ9_floorDiv_f86c9 1 = .ok (.lload_n 2, 1) := by decide +kernel
theorem dJ9_floorDiv_f86c9_2 : decode cJ9_floorDiv_f86c9 2 = .ok (.ldiv, 1) := by decide +kernel
theorem dJ9_floorDiv_f86c9_3 : decode cJ9_floorDiv_f86c9 3 = .ok (.lstore 4, 2) := by decide +kernel
theorem dJ9_floorDiv_f86c9_5 : decode cJ9_floorDiv_f86c9 5 = .ok (.lload_n 0, 1) := by decide +kernel
theorem dJ9_floorDiv_f86c9_6 : decode cJ9_floorDiv_f86c9 6 = .ok (.lload_n 2, 1) := by decide +kernel
theorem dJ9_floorDiv_f86c9_7 : decode cJ9_floorDiv_f86c9 7 = .ok (.lxor, 1) := by decide +kernel
theorem dJ9_floorDiv_f86c9_8 : decode cJ9_floorDiv_f86c9 8 = .ok (.lconst 0, 1) := by decide +kernel
theorem dJ9_floorDiv_f86c9_9 : decode cJ9_floorDiv_f86c9 9 = .ok (.lcmp, 1) := by decide +kernel
theorem dJ9_floorDiv_f86c9_10 : decode cJ9_floorDiv_f86c9 10 = .ok (.ifCond .ge 17, 3) := by decide +kernel
theorem dJ9_floorDiv_f86c9_13 : decode cJ9_floorDiv_f86c9 13 = .ok (.lload 4, 2) := by decide +kernel
theorem dJ9_floorDiv_f86c9_15 : decode cJ9_floorDiv_f86c9 15 = .ok (.lload_n 2, 1) := by decide +kernel
theorem dJ9_floorDiv_f86c9_16 : decode cJ9_floorDiv_f86c9 16 = .ok (.lmul, 1) := by decide +kernel
theorem dJ9_floorDiv_f86c9_17 : decode cJ9_floorDiv_f86c9 17 = .ok (.lload_n 0, 1) := by decide +kernel
theorem dJ9_floorDiv_f86c9_18 : decode cJ9_floorDiv_f86c9 18 = .ok (.lcmp, 1) := by decide +kernel
theorem dJ9_floorDiv_f86c9_19 : decode cJ9_floorDiv_f86c9 19 = .ok (.ifCond .eq 8, 3) := by decide +kernel
theorem dJ9_floorDiv_f86c9_22 : decode cJ9_floorDiv_f86c9 22 = .ok (.lload 4, 2) := by decide +kernel
theorem dJ9_floorDiv_f86c9_24 : decode cJ9_floorDiv_f86c9 24 = .ok (.lconst 1, 1) := by decide +kernel
theorem dJ9_floorDiv_f86c9_25 : decode cJ9_floorDiv_f86c9 25 = .ok (.lsub, 1) := by decide +kernel
theorem dJ9_floorDiv_f86c9_26 : decode cJ9_floorDiv_f86c9 26 = .ok (.lreturn, 1) := by decide +kernel
theorem dJ9_floorDiv_f86c9_27 : decode cJ9_floorDiv_f86c9 27 = .ok (.lload 4, 2) := by decide +kernel
theorem dJ9_floorDiv_f86c9_29 : decode cJ9_floorDiv_f86c9 29 = .ok (.lreturn, 1) := by decide +kernel
theorem dJ9_abs_0f7a4_0 : decode cJ9_abs_0f7a4 0 = .ok (.iload_n 0, 1) := by decide +kernel
theorem dJ9_abs_0f7a4_1 : decode cJ9_abs_0f7a4 1 = .ok (.ifCond .ge 8, 3) := by decide +kernel
theorem dJ9_abs_0f7a4_4 : decode cJ9_abs_0f7a4 4 = .ok (.iload_n 0, 1) := by decide +kernel
theorem dJ9_abs_0f7a4_5 : decode cJ9_abs_0f7a4 5 = .ok (.ineg, 1) := by decide +kernel
theorem dJ9_abs_0f7a4_6 : decode cJ9_abs_0f7a4 6 = .ok (.goto 4, 3) := by decide +kernel
theorem dJ9_abs_0f7a4_9 : decode cJ9_abs_0f7a4 9 = .ok (.iload_n 0, 1) := by decide +kernel
theorem dJ9_abs_0f7a4_10 : decode cJ9_abs_0f7a4 10 = .ok (.ireturn, 1) := by decide +kernel
theorem dJ9_max_7cf53_0 : decode cJ9_max_7cf53 0 = .ok (.iload_n 0, 1) := by decide +kernel
theorem dJ9_max_7cf53_1 : decode cJ9_max_7cf53 1 = .ok (.iload_n 1, 1) := by decide +kernel
theorem dJ9_max_7cf53_2 : decode cJ9_max_7cf53 2 = .ok (.if_icmp .lt 7, 3) := by decide +kernel
theorem dJ9_max_7cf53_5 : decode cJ9_max_7cf53 5 = .ok (.iload_n 0, 1) := by decide +kernel
theorem dJ9_max_7cf53_6 : decode cJ9_max_7cf53 6 = .ok (.goto 4, 3) := by decide +kernel
theorem dJ9_max_7cf53_9 : decode cJ9_max_7cf53 9 = .ok (.iload_n 1, 1) := by decide +kernel
theorem dJ9_max_7cf53_10 : decode cJ9_max_7cf53 10 = .ok (.ireturn, 1) := by decide +kernel
theorem dJ9_min_7cf53_0 : decode cJ9_min_7cf53 0 = .ok (.iload_n 0, 1) := by decide +kernel
theorem dJ9_min_7cf53_1 : decode cJ9_min_7cf53 1 = .ok (.iload_n 1, 1) := by decide +kernel
theorem dJ9_min_7cf53_2 : decode cJ9_min_7cf53 2 = .ok (.if_icmp .gt 7, 3) := by decide +kernel
theorem dJ9_min_7cf53_5 : decode cJ9_min_7cf53 5 = .ok (.iload_n 0, 1) := by decide +kernel
theorem dJ9_min_7cf53_6 : decode cJ9_min_7cf53 6 = .ok (.goto 4, 3) := by decide +kernel
theorem dJ9_min_7cf53_9 : decode cJ9_min_7cf53 9 = .ok (.iload_n 1, 1) := by decide +kernel
theorem dJ9_min_7cf53_10 : decode cJ9_min_7cf53 10 = .ok (.ireturn, 1) := by decide +kernel
