theorem dX7_init_0 : decode cX7_init 0 = .ok (.aload_n 0, 1) := by decide +kernel
theorem dX7_init_1 : decode cX7_init 1 = .ok (.invokespecial 3, 3) := by decide +kernel
theorem dX7_init_4 : decode cX7_init 4 = .ok (.aload_n 0, 1) := by decide +kernel
theorem dX7_init_5 : decode cX7_init 5 = .ok (.new 9, 3) := by decide +kernel
theorem dX7_init_8 : decode cX7_init 8 = .ok (.dup, 1) := by decide +kernel
theorem dX7_init_9 : decode cX7_init 9 = .ok (.invokespecial 11, 3) := by decide +kernel
theorem dX7_init_12 : decode cX7_init 12 = .ok (.putfield 12, 3) := by decide +kernel
theorem dX7_init_15 : decode cX7_init 15 = .ok (.aload_n 0, 1) := by decide +kernel
theorem dX7_init_16 : decode cX7_init 16 = .ok (.new 16, 3) := by decide +kernel
theorem dX7_init_19 : decode cX7_init 19 = .ok (.dup, 1) := by decide +kernel
theorem dX7_init_20 : decode cX7_init 20 = .ok (.invokespecial 18, 3) := by decide +kernel
theorem dX7_init_23 : decode cX7_init 23 = .ok (.putfield 19, 3) := by decide +kernel
theorem dX7_init_26 : decode cX7_init 26 = .ok (.aload_n 0, 1) := by decide +kernel
theorem dX7_init_27 : decode cX7_init 27 = .ok (.new 23, 3) := by decide +kernel
theorem dX7_init_30 : decode cX7_init 30 = .ok (.dup, 1) := by decide +kernel
theorem dX7_init_31 : decode cX7_init 31 = .ok (.aload_n 0, 1) := by decide +kernel
theorem dX7_init_32 : decode cX7_init 32 = .ok (.getfield 12, 3) := by decide +kernel
theorem dX7_init_35 : decode cX7_init 35 = .ok (.invokespecial 25, 3) := by decide +kernel
theorem dX7_init_38 : decode cX7_init 38 = .ok (.putfield 28, 3) := by decide +kernel
theorem dX7_init_41 : decode cX7_init 41 = .ok (.aload_n 0, 1) := by decide +kernel
theorem dX7_init_42 : decode cX7_init 42 = .ok (.new 32, 3) := by decide +kernel
theorem dX7_init_45 : decode cX7_init 45 = .ok (.dup, 1) := by decide +kernel
theorem dX7_init_46 : decode cX7_init 46 = .ok (.aload_n 0, 1) := by decide +kernel
theorem dX7_init_47 : decode cX7_init 47 = .ok (.getfield 12, 3) := by decide +kernel
theorem dX7_init_50 : decode cX7_init 50 = .ok (.aload_n 0, 1) := by decide +kernel
theorem dX7_init_51 : decode cX7_init 51 = .ok (.getfield 28, 3) := by decide +kernel
theorem dX7_init_54 : decode cX7_init 54 = .ok (.aload_n 0, 1) := by decide +kernel
theorem dX7_init_55 : decode cX7_init 55 = .ok (.getfield 19, 3) := by decide +kernel
theorem dX7_init_58 : decode cX7_init 58 = .ok (.invokespecial 34, 3) := by decide +kernel
theorem dX7_init_61 : decode cX7_init 61 = .ok (.putfield 37, 3) := by decide +kernel
theorem dX7_init_64 : decode cX7_init 64 = .ok (.aload_n 0, 1) := by decide +kernel
theorem dX7_init_65 : decode cX7_init 65 = .ok (.new 41, 3) := by decide +kernel
theorem dX7_init_68 : decode cX7_init 68 = .ok (.dup, 1) := by decide +kernel
theorem dX7_init_69 : decode cX7_init 69 = .ok (.aload_n 0, 1) := by decide +kernel
theorem dX7_init_70 : decode cX7_init 70 = .ok (.getfield 12, 3) := by decide +kernel
theorem dX7_init_73 : decode cX7_init 73 = .ok (.aload_n 0, 1) := by decide +kernel
theorem dX7_init_74 : decode cX7_init 74 = .ok (.getfield 19, 3) := by decide +kernel
theorem dX7_init_77 : decode cX7_init 77 = .ok (.invokespecial 43, 3) := by decide +kernel
theorem dX7_init_80 : decode cX7_init 80 = .ok (.putfield 46, 3) := by decide +kernel
theorem dX7_init_83 : decode cX7_init 83 = .ok (.aload_n 0, 1) := by decide +kernel
theorem dX7_init_84 : decode cX7_init 84 = .ok (.new 50, 3) := by decide +kernel
theorem dX7_init_87 : decode cX7_init 87 = .ok (.dup, 1) := by decide +kernel
theorem dX7_init_88 : decode cX7_init 88 = .ok (.aload_n 0, 1) := by decide +kernel
theorem dX7_init_89 : decode cX7_init 89 = .ok (.getfield 12, 3) := by decide +kernel
theorem dX7_init_92 : decode cX7_init 92 = .ok (.aload_n 0, 1) := by decide +kernel
theorem dX7_init_93 : decode cX7_init 93 = .ok (.getfield 28, 3) := by decide +kernel
theorem dX7_init_96 : decode cX7_init 96 = .ok (.aload_n 0, 1) := by decide +kernel
theorem dX7_init_97 : decode cX7_init 97 = .ok (.getfield 19, 3) := by decide +kernel
theorem dX7_init_100 : decode cX7_init 100 = .ok (.invokespecial 52, 3) := by decide +kernel
theorem dX7_init_103 : decode cX7_init 103 = .ok (.putfield 53, 3) := by decide +kernel
theorem dX7_init_106 : decode cX7_init 106 = .ok (.aload_n 0, 1) := by decide +kernel
theorem dX7_init_107 : decode cX7_init 107 = .ok (.new 57, 3) := by decide +kernel
theorem dX7_init_110 : decode cX7_init 110 = .ok (.dup, 1) := by decide +kernel
theorem dX7_init_111 : decode cX7_init 111 = .ok (.invokespecial 59, 3) := by decide +kernel
theorem dX7_init_114 : decode cX7_init 114 = .ok (.putfield 60, 3) := by decide +kernel
theorem dX7_init_117 : decode cX7_init 117 = .ok (.return_, 1) := by decide +kernel
theorem dX7_clear_0 : decode cX7_clear 0 = .ok (.aload_n 0, 1) := by decide +kernel
theorem dX7_clear_1 : decode cX7_clear 1 = .ok (.getfield 12, 3) := by decide +kernel
theorem dX7_clear_4 : decode cX7_clear 4 = .ok (.invokevirtual 64, 3) := by decide +kernel
theorem dX7_clear_7 : decode cX7_clear 7 = .ok (.aload_n 0, 1) := by decide +kernel
theorem dX7_clear_8 : decode cX7_clear 8 = .ok (.getfield 60, 3) := by decide +kernel
theorem dX7_clear_11 : decode cX7_clear 11 = .ok (.iconst 0, 1) := by decide +kernel
theorem dX7_clear_12 : decode cX7_clear 12 = .ok (.putfield 67, 3) := by decide +kernel
theorem dX7_clear_15 : decode cX7_clear 15 = .ok (.aload_n 0, 1) := by decide +kernel
theorem dX7_clear_16 : decode cX7_clear 16 = .ok (.invokevirtual 71, 3) := by decide +kernel
theorem dX7_clear_19 : decode cX7_clear 19 = .ok (.return_, 1) := by decide +kernel
theorem dX7_note_0 : decode cX7_note 0 = .ok (.iload_n 1, 1) := by decide +kernel
theorem dX7_note_1 : decode cX7_note 1 = .ok (.iconst 0, 1) := by decide +kernel
theorem dX7_note_2 : decode cX7_note 2 = .ok (.bipush 127, 2) := by decide +kernel
theorem dX7_note_4 : decode cX7_note 4 = .ok (.invokestatic 74, 3) := by decide +kernel
theorem dX7_note_7 : decode cX7_note 7 = .ok (.ifCond .eq 13, 3) := by decide +kernel
theorem dX7_note_10 : decode cX7_note 10 = .ok (.iload_n 2, 1) := by decide +kernel
theorem dX7_note_11 : decode cX7_note 11 = .ok (.iconst 0, 1) := by decide +kernel
theorem dX7_note_12 : decode cX7_note 12 = .ok (.ldc 78, 2) := by decide +kernel
theorem dX7_note_14 : decode cX7_note 14 = .ok (.invokestatic 74, 3) := by decide +kernel
theorem dX7_note_17 : decode cX7_note 17 = .ok (.ifCond .ne 6, 3) := by decide +kernel
theorem dX7_note_20 : decode cX7_note 20 = .ok (.bipush (-2), 2) := by decide +kernel
theorem dX7_note_22 : decode cX7_note 22 = .ok (.ireturn, 1) := by decide +kernel
theorem dX7_note_23 : decode cX7_note 23 = .ok (.iload_n 2, 1) := by decide +kernel
theorem dX7_note_24 : decode cX7_note 24 = .ok (.aload_n 0, 1) := by decide +kernel
theorem dX7_note_25 : decode cX7_note 25 = .ok (.getfield 12, 3) := by decide +kernel
theorem dX7_note_28 : decode cX7_note 28 = .ok (.invokevirtual 79, 3) := by decide +kernel
theorem dX7_note_31 : decode cX7_note 31 = .ok (.if_icmp .gt 6, 3) := by decide +kernel
theorem dX7_note_34 : decode cX7_note 34 = .ok (.bipush (-2), 2) := by decide +kernel
theorem dX7_note_36 : decode cX7_note 36 = .ok (.ireturn, 1) := by decide +kernel
theorem dX7_note_37 : decode cX7_note 37 = .ok (.aload_n 0, 1) := by decide +kernel
theorem dX7_note_38 : decode cX7_note 38 = .ok (.getfield 19, 3) := by decide +kernel
theorem dX7_note_41 : decode cX7_note 41 = .ok (.getfield 83, 3) := by decide +kernel
theorem dX7_note_44 : decode cX7_note 44 = .ok (.ifCond .gt 13, 3) := by decide +kernel
theorem dX7_note_47 : decode cX7_note 47 = .ok (.aload_n 0, 1) := by decide +kernel
theorem dX7_note_48 : decode cX7_note 48 = .ok (.getfield 12, 3) := by decide +kernel
theorem dX7_note_51 : decode cX7_note 51 = .ok (.invokevirtual 86, 3) := by decide +kernel
theorem dX7_note_54 : decode cX7_note 54 = .ok (.ifCond .eq 6, 3) := by decide +kernel
theorem dX7_note_57 : decode cX7_note 57 = .ok (.bipush (-3), 2) := by decide +kernel
theorem dX7_note_59 : decode cX7_note 59 = .ok (.ireturn, 1) := by decide +kernel
theorem dX7_note_60 : decode cX7_note 60 = .ok (.aload_n 0, 1) := by decide +kernel
theorem dX7_note_61 : decode cX7_note 61 = .ok (.getfield 12, 3) := by decide +kernel
theorem dX7_note_64 : decode cX7_note 64 = .ok (.getfield 90, 3) := by decide +kernel
theorem dX7_note_67 : decode cX7_note 67 = .ok (.bipush 60, 2) := by decide +kernel
theorem dX7_note_69 : decode cX7_note 69 = .ok (.if_icmp .lt 6, 3) := by decide +kernel
theorem dX7_note_72 : decode cX7_note 72 = .ok (.bipush (-4), 2) := by decide +kernel
theorem dX7_note_74 : decode cX7_note 74 = .ok (.ireturn, 1) := by decide +kernel
theorem dX7_note_75 : decode cX7_note 75 = .ok (.aload_n 0, 1) := by decide +kernel
theorem dX7_note_76 : decode cX7_note 76 = .ok (.getfield 12, 3) := by decide +kernel
theorem dX7_note_79 : decode cX7_note 79 = .ok (.iload_n 1, 1) := by decide +kernel
theorem dX7_note_80 : decode cX7_note 80 = .ok (.iload_n 2, 1) := by decide +kernel
theorem dX7_note_81 : decode cX7_note 81 = .ok (.invokevirtual 93, 3) := by decide +kernel
theorem dX7_note_84 : decode cX7_note 84 = .ok (.istore_n 3, 1) := by decide +kernel
theorem dX7_note_85 : decode cX7_note 85 = .ok (.aload_n 0, 1) := by decide +kernel
theorem dX7_note_86 : decode cX7_note 86 = .ok (.getfield 60, 3) := by decide +kernel
theorem dX7_note_89 : decode cX7_note 89 = .ok (.iload_n 3, 1) := by decide +kernel
theorem dX7_note_90 : decode cX7_note 90 = .ok (.invokevirtual 97, 3) := by decide +kernel
theorem dX7_note_93 : decode cX7_note 93 = .ok (.iload_n 3, 1) := by decide +kernel
theorem dX7_note_94 : decode cX7_note 94 = .ok (.ireturn, 1) := by decide +kernel
theorem dX7_way_0 : decode cX7_way 0 = .ok (.aload_n 0, 1) := by decide +kernel
theorem dX7_way_1 : decode cX7_way 1 = .ok (.getfield 12, 3) := by decide +kernel
theorem dX7_way_4 : decode cX7_way 4 = .ok (.iload_n 1, 1) := by decide +kernel
theorem dX7_way_5 : decode cX7_way 5 = .ok (.invokevirtual 101, 3) := by decide +kernel
theorem dX7_way_8 : decode cX7_way 8 = .ok (.ifCond .eq 14, 3) := by decide +kernel
theorem dX7_way_11 : decode cX7_way 11 = .ok (.aload_n 0, 1) := by decide +kernel
theorem dX7_way_12 : decode cX7_way 12 = .ok (.getfield 12, 3) := by decide +kernel
theorem dX7_way_15 : decode cX7_way 15 = .ok (.iload_n 2, 1) := by decide +kernel
theorem dX7_way_16 : decode cX7_way 16 = .ok (.invokevirtual 101, 3) := by decide +kernel
theorem dX7_way_19 : decode cX7_way 19 = .ok (.ifCond .ne 6, 3) := by decide +kernel
theorem dX7_way_22 : decode cX7_way 22 = .ok (.bipush (-2), 2) := by decide +kernel
theorem dX7_way_24 : decode cX7_way 24 = .ok (.ireturn, 1) := by decide +kernel
theorem dX7_way_25 : decode cX7_way 25 = .ok (.iload_n 2, 1) := by decide +kernel
theorem dX7_way_26 : decode cX7_way 26 = .ok (.iload_n 1, 1) := by decide +kernel
theorem dX7_way_27 : decode cX7_way 27 = .ok (.iconst 1, 1) := by decide +kernel
theorem dX7_way_28 : decode cX7_way 28 = .ok (.iadd, 1) := by decide +kernel
theorem dX7_way_29 : decode cX7_way 29 = .ok (.if_icmp .eq 15, 3) := by decide +kernel
theorem dX7_way_32 : decode cX7_way 32 = .ok (.aload_n 0, 1) := by decide +kernel
theorem dX7_way_33 : decode cX7_way 33 = .ok (.getfield 12, 3) := by decide +kernel
theorem dX7_way_36 : decode cX7_way 36 = .ok (.iload_n 1, 1) := by decide +kernel
theorem dX7_way_37 : decode cX7_way 37 = .ok (.iload_n 2, 1) := by decide +kernel
theorem dX7_way_38 : decode cX7_way 38 = .ok (.invokevirtual 105, 3) := by decide +kernel
theorem dX7_way_41 : decode cX7_way 41 = .ok (.ifCond .eq 6, 3) := by decide +kernel
theorem dX7_way_44 : decode cX7_way 44 = .ok (.bipush (-2), 2) := by decide +kernel
theorem dX7_way_46 : decode cX7_way 46 = .ok (.ireturn, 1) := by decide +kernel
theorem dX7_way_47 : decode cX7_way 47 = .ok (.aload_n 0, 1) := by decide +kernel
theorem dX7_way_48 : decode cX7_way 48 = .ok (.getfield 19, 3) := by decide +kernel
theorem dX7_way_51 : decode cX7_way 51 = .ok (.getfield 83, 3) := by decide +kernel
theorem dX7_way_54 : decode cX7_way 54 = .ok (.ifCond .le 6, 3) := by decide +kernel
theorem dX7_way_57 : decode cX7_way 57 = .ok (.bipush (-3), 2) := by decide +kernel
theorem dX7_way_59 : decode cX7_way 59 = .ok (.ireturn, 1) := by decide +kernel
theorem dX7_way_60 : decode cX7_way 60 = .ok (.aload_n 0, 1) := by decide +kernel
theorem dX7_way_61 : decode cX7_way 61 = .ok (.getfield 12, 3) := by decide +kernel
theorem dX7_way_64 : decode cX7_way 64 = .ok (.getfield 109, 3) := by decide +kernel
theorem dX7_way_67 : decode cX7_way 67 = .ok (.bipush 12, 2) := by decide +kernel
theorem dX7_way_69 : decode cX7_way 69 = .ok (.if_icmp .lt 6, 3) := by decide +kernel
theorem dX7_way_72 : decode cX7_way 72 = .ok (.bipush (-4), 2) := by decide +kernel
theorem dX7_way_74 : decode cX7_way 74 = .ok (.ireturn, 1) := by decide +kernel
theorem dX7_way_75 : decode cX7_way 75 = .ok (.aload_n 0, 1) := by decide +kernel
theorem dX7_way_76 : decode cX7_way 76 = .ok (.getfield 12, 3) := by decide +kernel
theorem dX7_way_79 : decode cX7_way 79 = .ok (.iload_n 1, 1) := by decide +kernel
theorem dX7_way_80 : decode cX7_way 80 = .ok (.iload_n 2, 1) := by decide +kernel
theorem dX7_way_81 : decode cX7_way 81 = .ok (.invokevirtual 112, 3) := by decide +kernel
theorem dX7_way_84 : decode cX7_way 84 = .ok (.ireturn, 1) := by decide +kernel
theorem dX7_loop_0 : decode cX7_loop 0 = .ok (.iload_n 1, 1) := by decide +kernel
theorem dX7_loop_1 : decode cX7_loop 1 = .ok (.iconst (-1), 1) := by decide +kernel
theorem dX7_loop_2 : decode cX7_loop 2 = .ok (.if_icmp .ne 7, 3) := by decide +kernel
theorem dX7_loop_5 : decode cX7_loop 5 = .ok (.iconst 1, 1) := by decide +kernel
theorem dX7_loop_6 : decode cX7_loop 6 = .ok (.goto 4, 3) := by decide +kernel
theorem dX7_loop_9 : decode cX7_loop 9 = .ok (.iconst 0, 1) := by decide +kernel
theorem dX7_loop_10 : decode cX7_loop 10 = .ok (.istore_n 3, 1) := by decide +kernel
theorem dX7_loop_11 : decode cX7_loop 11 = .ok (.iload_n 3, 1) := by decide +kernel
theorem dX7_loop_12 : decode cX7_loop 12 = .ok (.ifCond .ne 33, 3) := by decide +kernel
theorem dX7_loop_15 : decode cX7_loop 15 = .ok (.aload_n 0, 1) := by decide +kernel
theorem dX7_loop_16 : decode cX7_loop 16 = .ok (.getfield 12, 3) := by decide +kernel
theorem dX7_loop_19 : decode cX7_loop 19 = .ok (.iload_n 1, 1) := by decide +kernel
theorem dX7_loop_20 : decode cX7_loop 20 = .ok (.invokevirtual 101, 3) := by decide +kernel
theorem dX7_loop_23 : decode cX7_loop 23 = .ok (.ifCond .eq 19, 3) := by decide +kernel
theorem dX7_loop_26 : decode cX7_loop 26 = .ok (.aload_n 0, 1) := by decide +kernel
theorem dX7_loop_27 : decode cX7_loop 27 = .ok (.getfield 12, 3) := by decide +kernel
theorem dX7_loop_30 : decode cX7_loop 30 = .ok (.iload_n 2, 1) := by decide +kernel
theorem dX7_loop_31 : decode cX7_loop 31 = .ok (.invokevirtual 101, 3) := by decide +kernel
theorem dX7_loop_34 : decode cX7_loop 34 = .ok (.ifCond .eq 8, 3) := by decide +kernel
theorem dX7_loop_37 : decode cX7_loop 37 = .ok (.iload_n 2, 1) := by decide +kernel
theorem dX7_loop_38 : decode cX7_loop 38 = .ok (.iload_n 1, 1) := by decide +kernel
theorem dX7_loop_39 : decode cX7_loop 39 = .ok (.if_icmp .ge 6, 3) := by decide +kernel
theorem dX7_loop_42 : decode cX7_loop 42 = .ok (.bipush (-2), 2) := by decide +kernel
theorem dX7_loop_44 : decode cX7_loop 44 = .ok (.ireturn, 1) := by decide +kernel
theorem dX7_loop_45 : decode cX7_loop 45 = .ok (.aload_n 0, 1) := by decide +kernel
theorem dX7_loop_46 : decode cX7_loop 46 = .ok (.getfield 19, 3) := by decide +kernel
theorem dX7_loop_49 : decode cX7_loop 49 = .ok (.getfield 83, 3) := by decide +kernel
theorem dX7_loop_52 : decode cX7_loop 52 = .ok (.ifCond .le 6, 3) := by decide +kernel
theorem dX7_loop_55 : decode cX7_loop 55 = .ok (.bipush (-3), 2) := by decide +kernel
theorem dX7_loop_57 : decode cX7_loop 57 = .ok (.ireturn, 1) := by decide +kernel
theorem dX7_loop_58 : decode cX7_loop 58 = .ok (.aload_n 0, 1) := by decide +kernel
theorem dX7_loop_59 : decode cX7_loop 59 = .ok (.getfield 12, 3) := by decide +kernel
theorem dX7_loop_62 : decode cX7_loop 62 = .ok (.invokevirtual 86, 3) := by decide +kernel
theorem dX7_loop_65 : decode cX7_loop 65 = .ok (.ifCond .eq 7, 3) := by decide +kernel
theorem dX7_loop_68 : decode cX7_loop 68 = .ok (.iconst 1, 1) := by decide +kernel
theorem dX7_loop_69 : decode cX7_loop 69 = .ok (.goto 4, 3) := by decide +kernel
theorem dX7_loop_72 : decode cX7_loop 72 = .ok (.iconst 0, 1) := by decide +kernel
theorem dX7_loop_73 : decode cX7_loop 73 = .ok (.istore 4, 2) := by decide +kernel
theorem dX7_loop_75 : decode cX7_loop 75 = .ok (.aload_n 0, 1) := by decide +kernel
theorem dX7_loop_76 : decode cX7_loop 76 = .ok (.getfield 12, 3) := by decide +kernel
theorem dX7_loop_79 : decode cX7_loop 79 = .ok (.iload_n 1, 1) := by decide +kernel
theorem dX7_loop_80 : decode cX7_loop 80 = .ok (.putfield 115, 3) := by decide +kernel
theorem dX7_loop_83 : decode cX7_loop 83 = .ok (.aload_n 0, 1) := by decide +kernel
theorem dX7_loop_84 : decode cX7_loop 84 = .ok (.getfield 12, 3) := by decide +kernel
theorem dX7_loop_87 : decode cX7_loop 87 = .ok (.iload_n 3, 1) := by decide +kernel
theorem dX7_loop_88 : decode cX7_loop 88 = .ok (.ifCond .eq 7, 3) := by decide +kernel
theorem dX7_loop_91 : decode cX7_loop 91 = .ok (.iconst (-1), 1) := by decide +kernel
theorem dX7_loop_92 : decode cX7_loop 92 = .ok (.goto 4, 3) := by decide +kernel
theorem dX7_loop_95 : decode cX7_loop 95 = .ok (.iload_n 2, 1) := by decide +kernel
theorem dX7_loop_96 : decode cX7_loop 96 = .ok (.putfield 118, 3) := by decide +kernel
theorem dX7_loop_99 : decode cX7_loop 99 = .ok (.iload 4, 2) := by decide +kernel
theorem dX7_loop_101 : decode cX7_loop 101 = .ok (.ireturn, 1) := by decide +kernel
theorem dX7_cost_0 : decode cX7_cost 0 = .ok (.iload_n 1, 1) := by decide +kernel
theorem dX7_cost_1 : decode cX7_cost 1 = .ok (.iconst 0, 1) := by decide +kernel
theorem dX7_cost_2 : decode cX7_cost 2 = .ok (.iconst 4, 1) := by decide +kernel
theorem dX7_cost_3 : decode cX7_cost 3 = .ok (.invokestatic 74, 3) := by decide +kernel
theorem dX7_cost_6 : decode cX7_cost 6 = .ok (.ifCond .ne 6, 3) := by decide +kernel
theorem dX7_cost_9 : decode cX7_cost 9 = .ok (.bipush (-2), 2) := by decide +kernel
theorem dX7_cost_11 : decode cX7_cost 11 = .ok (.ireturn, 1) := by decide +kernel
theorem dX7_cost_12 : decode cX7_cost 12 = .ok (.iload_n 1, 1) := by decide +kernel
theorem dX7_cost_13 : decode cX7_cost 13 = .ok (.iconst 1, 1) := by decide +kernel
theorem dX7_cost_14 : decode cX7_cost 14 = .ok (.if_icmp .eq 8, 3) := by decide +kernel
theorem dX7_cost_17 : decode cX7_cost 17 = .ok (.iload_n 1, 1) := by decide +kernel
theorem dX7_cost_18 : decode cX7_cost 18 = .ok (.iconst 2, 1) := by decide +kernel
theorem dX7_cost_19 : decode cX7_cost 19 = .ok (.if_icmp .ne 7, 3) := by decide +kernel
theorem dX7_cost_22 : decode cX7_cost 22 = .ok (.iconst 1, 1) := by decide +kernel
theorem dX7_cost_23 : decode cX7_cost 23 = .ok (.goto 4, 3) := by decide +kernel
theorem dX7_cost_26 : decode cX7_cost 26 = .ok (.iconst 0, 1) := by decide +kernel
theorem dX7_cost_27 : decode cX7_cost 27 = .ok (.istore_n 3, 1) := by decide +kernel
theorem dX7_cost_28 : decode cX7_cost 28 = .ok (.iload_n 2, 1) := by decide +kernel
theorem dX7_cost_29 : decode cX7_cost 29 = .ok (.iload_n 3, 1) := by decide +kernel
theorem dX7_cost_30 : decode cX7_cost 30 = .ok (.sipush 1000, 3) := by decide +kernel
theorem dX7_cost_33 : decode cX7_cost 33 = .ok (.invokestatic 74, 3) := by decide +kernel
theorem dX7_cost_36 : decode cX7_cost 36 = .ok (.ifCond .ne 6, 3) := by decide +kernel
theorem dX7_cost_39 : decode cX7_cost 39 = .ok (.bipush (-2), 2) := by decide +kernel
theorem dX7_cost_41 : decode cX7_cost 41 = .ok (.ireturn, 1) := by decide +kernel
theorem dX7_cost_42 : decode cX7_cost 42 = .ok (.aload_n 0, 1) := by decide +kernel
theorem dX7_cost_43 : decode cX7_cost 43 = .ok (.getfield 19, 3) := by decide +kernel
theorem dX7_cost_46 : decode cX7_cost 46 = .ok (.getfield 83, 3) := by decide +kernel
theorem dX7_cost_49 : decode cX7_cost 49 = .ok (.ifCond .le 6, 3) := by decide +kernel
theorem dX7_cost_52 : decode cX7_cost 52 = .ok (.bipush (-3), 2) := by decide +kernel
theorem dX7_cost_54 : decode cX7_cost 54 = .ok (.ireturn, 1) := by decide +kernel
theorem dX7_cost_55 : decode cX7_cost 55 = .ok (.aload_n 0, 1) := by decide +kernel
theorem dX7_cost_56 : decode cX7_cost 56 = .ok (.getfield 12, 3) := by decide +kernel
theorem dX7_cost_59 : decode cX7_cost 59 = .ok (.getfield 121, 3) := by decide +kernel
theorem dX7_cost_62 : decode cX7_cost 62 = .ok (.iload_n 1, 1) := by decide +kernel
theorem dX7_cost_63 : decode cX7_cost 63 = .ok (.iaload, 1) := by decide +kernel
theorem dX7_cost_64 : decode cX7_cost 64 = .ok (.istore 4, 2) := by decide +kernel
theorem dX7_cost_66 : decode cX7_cost 66 = .ok (.aload_n 0, 1) := by decide +kernel
theorem dX7_cost_67 : decode cX7_cost 67 = .ok (.getfield 12, 3) := by decide +kernel
theorem dX7_cost_70 : decode cX7_cost 70 = .ok (.getfield 121, 3) := by decide +kernel
theorem dX7_cost_73 : decode cX7_cost 73 = .ok (.iload_n 1, 1) := by decide +kernel
theorem dX7_cost_74 : decode cX7_cost 74 = .ok (.iload_n 2, 1) := by decide +kernel
theorem dX7_cost_75 : decode cX7_cost 75 = .ok (.iastore, 1) := by decide +kernel
theorem dX7_cost_76 : decode cX7_cost 76 = .ok (.iload 4, 2) := by decide +kernel
theorem dX7_cost_78 : decode cX7_cost 78 = .ok (.ireturn, 1) := by decide +kernel
theorem dX7_span_0 : decode cX7_span 0 = .ok (.iload_n 1, 1) := by decide +kernel
theorem dX7_span_1 : decode cX7_span 1 = .ok (.iconst 0, 1) := by decide +kernel
theorem dX7_span_2 : decode cX7_span 2 = .ok (.bipush 100, 2) := by decide +kernel
theorem dX7_span_4 : decode cX7_span 4 = .ok (.invokestatic 74, 3) := by decide +kernel
theorem dX7_span_7 : decode cX7_span 7 = .ok (.ifCond .ne 6, 3) := by decide +kernel
theorem dX7_span_10 : decode cX7_span 10 = .ok (.bipush (-2), 2) := by decide +kernel
theorem dX7_span_12 : decode cX7_span 12 = .ok (.ireturn, 1) := by decide +kernel
theorem dX7_span_13 : decode cX7_span 13 = .ok (.aload_n 0, 1) := by decide +kernel
theorem dX7_span_14 : decode cX7_span 14 = .ok (.getfield 19, 3) := by decide +kernel
theorem dX7_span_17 : decode cX7_span 17 = .ok (.getfield 83, 3) := by decide +kernel
theorem dX7_span_20 : decode cX7_span 20 = .ok (.ifCond .le 6, 3) := by decide +kernel
theorem dX7_span_23 : decode cX7_span 23 = .ok (.bipush (-3), 2) := by decide +kernel
theorem dX7_span_25 : decode cX7_span 25 = .ok (.ireturn, 1) := by decide +kernel
theorem dX7_span_26 : decode cX7_span 26 = .ok (.aload_n 0, 1) := by decide +kernel
theorem dX7_span_27 : decode cX7_span 27 = .ok (.getfield 12, 3) := by decide +kernel
theorem dX7_span_30 : decode cX7_span 30 = .ok (.getfield 125, 3) := by decide +kernel
theorem dX7_span_33 : decode cX7_span 33 = .ok (.istore_n 2, 1) := by decide +kernel
theorem dX7_span_34 : decode cX7_span 34 = .ok (.aload_n 0, 1) := by decide +kernel
theorem dX7_span_35 : decode cX7_span 35 = .ok (.getfield 12, 3) := by decide +kernel
theorem dX7_span_38 : decode cX7_span 38 = .ok (.iload_n 1, 1) := by decide +kernel
theorem dX7_span_39 : decode cX7_span 39 = .ok (.putfield 125, 3) := by decide +kernel
theorem dX7_span_42 : decode cX7_span 42 = .ok (.iload_n 2, 1) := by decide +kernel
theorem dX7_span_43 : decode cX7_span 43 = .ok (.ireturn, 1) := by decide +kernel
theorem dX7_hear_0 : decode cX7_hear 0 = .ok (.iload_n 1, 1) := by decide +kernel
theorem dX7_hear_1 : decode cX7_hear 1 = .ok (.iconst 0, 1) := by decide +kernel
theorem dX7_hear_2 : decode cX7_hear 2 = .ok (.bipush 127, 2) := by decide +kernel
theorem dX7_hear_4 : decode cX7_hear 4 = .ok (.invokestatic 74, 3) := by decide +kernel
theorem dX7_hear_7 : decode cX7_hear 7 = .ok (.ifCond .eq 13, 3) := by decide +kernel
theorem dX7_hear_10 : decode cX7_hear 10 = .ok (.iload_n 2, 1) := by decide +kernel
theorem dX7_hear_11 : decode cX7_hear 11 = .ok (.iconst 0, 1) := by decide +kernel
theorem dX7_hear_12 : decode cX7_hear 12 = .ok (.ldc 128, 2) := by decide +kernel
theorem dX7_hear_14 : decode cX7_hear 14 = .ok (.invokestatic 74, 3) := by decide +kernel
theorem dX7_hear_17 : decode cX7_hear 17 = .ok (.ifCond .ne 6, 3) := by decide +kernel
theorem dX7_hear_20 : decode cX7_hear 20 = .ok (.bipush (-2), 2) := by decide +kernel
theorem dX7_hear_22 : decode cX7_hear 22 = .ok (.ireturn, 1) := by decide +kernel
theorem dX7_hear_23 : decode cX7_hear 23 = .ok (.iload_n 2, 1) := by decide +kernel
theorem dX7_hear_24 : decode cX7_hear 24 = .ok (.aload_n 0, 1) := by decide +kernel
theorem dX7_hear_25 : decode cX7_hear 25 = .ok (.getfield 19, 3) := by decide +kernel
theorem dX7_hear_28 : decode cX7_hear 28 = .ok (.invokevirtual 129, 3) := by decide +kernel
theorem dX7_hear_31 : decode cX7_hear 31 = .ok (.if_icmp .ge 6, 3) := by decide +kernel
theorem dX7_hear_34 : decode cX7_hear 34 = .ok (.bipush (-2), 2) := by decide +kernel
theorem dX7_hear_36 : decode cX7_hear 36 = .ok (.ireturn, 1) := by decide +kernel
theorem dX7_hear_37 : decode cX7_hear 37 = .ok (.aload_n 0, 1) := by decide +kernel
theorem dX7_hear_38 : decode cX7_hear 38 = .ok (.getfield 12, 3) := by decide +kernel
theorem dX7_hear_41 : decode cX7_hear 41 = .ok (.getfield 90, 3) := by decide +kernel
theorem dX7_hear_44 : decode cX7_hear 44 = .ok (.ifCond .ne 6, 3) := by decide +kernel
theorem dX7_hear_47 : decode cX7_hear 47 = .ok (.bipush (-3), 2) := by decide +kernel
theorem dX7_hear_49 : decode cX7_hear 49 = .ok (.ireturn, 1) := by decide +kernel
theorem dX7_hear_50 : decode cX7_hear 50 = .ok (.aload_n 0, 1) := by decide +kernel
theorem dX7_hear_51 : decode cX7_hear 51 = .ok (.getfield 19, 3) := by decide +kernel
theorem dX7_hear_54 : decode cX7_hear 54 = .ok (.getfield 83, 3) := by decide +kernel
theorem dX7_hear_57 : decode cX7_hear 57 = .ok (.bipush 120, 2) := by decide +kernel
theorem dX7_hear_59 : decode cX7_hear 59 = .ok (.if_icmp .lt 6, 3) := by decide +kernel
theorem dX7_hear_62 : decode cX7_hear 62 = .ok (.bipush (-4), 2) := by decide +kernel
theorem dX7_hear_64 : decode cX7_hear 64 = .ok (.ireturn, 1) := by decide +kernel
theorem dX7_hear_65 : decode cX7_hear 65 = .ok (.aload_n 0, 1) := by decide +kernel
theorem dX7_hear_66 : decode cX7_hear 66 = .ok (.getfield 19, 3) := by decide +kernel
theorem dX7_hear_69 : decode cX7_hear 69 = .ok (.getfield 83, 3) := by decide +kernel
theorem dX7_hear_72 : decode cX7_hear 72 = .ok (.ifCond .ne 10, 3) := by decide +kernel
theorem dX7_hear_75 : decode cX7_hear 75 = .ok (.aload_n 0, 1) := by decide +kernel
theorem dX7_hear_76 : decode cX7_hear 76 = .ok (.getfield 28, 3) := by decide +kernel
theorem dX7_hear_79 : decode cX7_hear 79 = .ok (.invokevirtual 132, 3) := by decide +kernel
theorem dX7_hear_82 : decode cX7_hear 82 = .ok (.aload_n 0, 1) := by decide +kernel
theorem dX7_hear_83 : decode cX7_hear 83 = .ok (.aload_n 0, 1) := by decide +kernel
theorem dX7_hear_84 : decode cX7_hear 84 = .ok (.getfield 19, 3) := by decide +kernel
theorem dX7_hear_87 : decode cX7_hear 87 = .ok (.iload_n 1, 1) := by decide +kernel
theorem dX7_hear_88 : decode cX7_hear 88 = .ok (.iload_n 2, 1) := by decide +kernel
theorem dX7_hear_89 : decode cX7_hear 89 = .ok (.invokevirtual 135, 3) := by decide +kernel
theorem dX7_hear_92 : decode cX7_hear 92 = .ok (.invokevirtual 138, 3) := by decide +kernel
theorem dX7_hear_95 : decode cX7_hear 95 = .ok (.aload_n 0, 1) := by decide +kernel
theorem dX7_hear_96 : decode cX7_hear 96 = .ok (.getfield 53, 3) := by decide +kernel
theorem dX7_hear_99 : decode cX7_hear 99 = .ok (.iconst 0, 1) := by decide +kernel
theorem dX7_hear_100 : decode cX7_hear 100 = .ok (.putfield 141, 3) := by decide +kernel
theorem dX7_hear_103 : decode cX7_hear 103 = .ok (.aload_n 0, 1) := by decide +kernel
theorem dX7_hear_104 : decode cX7_hear 104 = .ok (.getfield 37, 3) := by decide +kernel
theorem dX7_hear_107 : decode cX7_hear 107 = .ok (.getfield 145, 3) := by decide +kernel
theorem dX7_hear_110 : decode cX7_hear 110 = .ok (.ireturn, 1) := by decide +kernel
theorem dX7_cut_0 : decode cX7_cut 0 = .ok (.iload_n 1, 1) := by decide +kernel
theorem dX7_cut_1 : decode cX7_cut 1 = .ok (.iconst 0, 1) := by decide +kernel
theorem dX7_cut_2 : decode cX7_cut 2 = .ok (.aload_n 0, 1) := by decide +kernel
theorem dX7_cut_3 : decode cX7_cut 3 = .ok (.getfield 19, 3) := by decide +kernel
theorem dX7_cut_6 : decode cX7_cut 6 = .ok (.getfield 83, 3) := by decide +kernel
theorem dX7_cut_9 : decode cX7_cut 9 = .ok (.invokestatic 74, 3) := by decide +kernel
theorem dX7_cut_12 : decode cX7_cut 12 = .ok (.ifCond .ne 6, 3) := by decide +kernel
theorem dX7_cut_15 : decode cX7_cut 15 = .ok (.bipush (-2), 2) := by decide +kernel
theorem dX7_cut_17 : decode cX7_cut 17 = .ok (.ireturn, 1) := by decide +kernel
theorem dX7_cut_18 : decode cX7_cut 18 = .ok (.aload_n 0, 1) := by decide +kernel
theorem dX7_cut_19 : decode cX7_cut 19 = .ok (.invokevirtual 71, 3) := by decide +kernel
theorem dX7_cut_22 : decode cX7_cut 22 = .ok (.aload_n 0, 1) := by decide +kernel
theorem dX7_cut_23 : decode cX7_cut 23 = .ok (.getfield 19, 3) := by decide +kernel
theorem dX7_cut_26 : decode cX7_cut 26 = .ok (.iload_n 1, 1) := by decide +kernel
theorem dX7_cut_27 : decode cX7_cut 27 = .ok (.putfield 83, 3) := by decide +kernel
theorem dX7_cut_30 : decode cX7_cut 30 = .ok (.iconst 0, 1) := by decide +kernel
theorem dX7_cut_31 : decode cX7_cut 31 = .ok (.istore_n 2, 1) := by decide +kernel
theorem dX7_cut_32 : decode cX7_cut 32 = .ok (.iload_n 2, 1) := by decide +kernel
theorem dX7_cut_33 : decode cX7_cut 33 = .ok (.iload_n 1, 1) := by decide +kernel
theorem dX7_cut_34 : decode cX7_cut 34 = .ok (.if_icmp .ge 14, 3) := by decide +kernel
theorem dX7_cut_37 : decode cX7_cut 37 = .ok (.aload_n 0, 1) := by decide +kernel
theorem dX7_cut_38 : decode cX7_cut 38 = .ok (.iload_n 2, 1) := by decide +kernel
theorem dX7_cut_39 : decode cX7_cut 39 = .ok (.invokevirtual 138, 3) := by decide +kernel
theorem dX7_cut_42 : decode cX7_cut 42 = .ok (.iinc 2 1, 3) := by decide +kernel
theorem dX7_cut_45 : decode cX7_cut 45 = .ok (.goto (-13), 3) := by decide +kernel
theorem dX7_cut_48 : decode cX7_cut 48 = .ok (.aload_n 0, 1) := by decide +kernel
theorem dX7_cut_49 : decode cX7_cut 49 = .ok (.getfield 37, 3) := by decide +kernel
theorem dX7_cut_52 : decode cX7_cut 52 = .ok (.getfield 145, 3) := by decide +kernel
theorem dX7_cut_55 : decode cX7_cut 55 = .ok (.ireturn, 1) := by decide +kernel
theorem dX7_valueOf_0 : decode cX7_valueOf 0 = .ok (.iload_n 1, 1) := by decide +kernel
theorem dX7_valueOf_1 : decode cX7_valueOf 1 = .ok (.iconst (-1), 1) := by decide +kernel
theorem dX7_valueOf_2 : decode cX7_valueOf 2 = .ok (.if_icmp .eq 17, 3) := by decide +kernel
theorem dX7_valueOf_5 : decode cX7_valueOf 5 = .ok (.aload_n 0, 1) := by decide +kernel
theorem dX7_valueOf_6 : decode cX7_valueOf 6 = .ok (.getfield 12, 3) := by decide +kernel
theorem dX7_valueOf_9 : decode cX7_valueOf 9 = .ok (.iload_n 1, 1) := by decide +kernel
theorem dX7_valueOf_10 : decode cX7_valueOf 10 = .ok (.invokevirtual 101, 3) := by decide +kernel
theorem dX7_valueOf_13 : decode cX7_valueOf 13 = .ok (.ifCond .ne 6, 3) := by decide +kernel
theorem dX7_valueOf_16 : decode cX7_valueOf 16 = .ok (.bipush (-2), 2) := by decide +kernel
theorem dX7_valueOf_18 : decode cX7_valueOf 18 = .ok (.ireturn, 1) := by decide +kernel
theorem dX7_valueOf_19 : decode cX7_valueOf 19 = .ok (.aload_n 0, 1) := by decide +kernel
theorem dX7_valueOf_20 : decode cX7_valueOf 20 = .ok (.getfield 37, 3) := by decide +kernel
theorem dX7_valueOf_23 : decode cX7_valueOf 23 = .ok (.iload_n 1, 1) := by decide +kernel
theorem dX7_valueOf_24 : decode cX7_valueOf 24 = .ok (.invokevirtual 148, 3) := by decide +kernel
theorem dX7_valueOf_27 : decode cX7_valueOf 27 = .ok (.istore_n 2, 1) := by decide +kernel
theorem dX7_valueOf_28 : decode cX7_valueOf 28 = .ok (.iload_n 2, 1) := by decide +kernel
theorem dX7_valueOf_29 : decode cX7_valueOf 29 = .ok (.ldc 152, 2) := by decide +kernel
theorem dX7_valueOf_31 : decode cX7_valueOf 31 = .ok (.if_icmp .lt 7, 3) := by decide +kernel
theorem dX7_valueOf_34 : decode cX7_valueOf 34 = .ok (.iconst (-1), 1) := by decide +kernel
theorem dX7_valueOf_35 : decode cX7_valueOf 35 = .ok (.goto 4, 3) := by decide +kernel
theorem dX7_valueOf_38 : decode cX7_valueOf 38 = .ok (.iload_n 2, 1) := by decide +kernel
theorem dX7_valueOf_39 : decode cX7_valueOf 39 = .ok (.ireturn, 1) := by decide +kernel
theorem dX7_tempo_0 : decode cX7_tempo 0 = .ok (.iload_n 1, 1) := by decide +kernel
theorem dX7_tempo_1 : decode cX7_tempo 1 = .ok (.iconst 0, 1) := by decide +kernel
theorem dX7_tempo_2 : decode cX7_tempo 2 = .ok (.iconst 1, 1) := by decide +kernel
theorem dX7_tempo_3 : decode cX7_tempo 3 = .ok (.invokestatic 74, 3) := by decide +kernel
theorem dX7_tempo_6 : decode cX7_tempo 6 = .ok (.ifCond .ne 6, 3) := by decide +kernel
theorem dX7_tempo_9 : decode cX7_tempo 9 = .ok (.bipush (-2), 2) := by decide +kernel
theorem dX7_tempo_11 : decode cX7_tempo 11 = .ok (.ireturn, 1) := by decide +kernel
theorem dX7_tempo_12 : decode cX7_tempo 12 = .ok (.aload_n 0, 1) := by decide +kernel
theorem dX7_tempo_13 : decode cX7_tempo 13 = .ok (.getfield 46, 3) := by decide +kernel
theorem dX7_tempo_16 : decode cX7_tempo 16 = .ok (.invokevirtual 153, 3) := by decide +kernel
theorem dX7_tempo_19 : decode cX7_tempo 19 = .ok (.aload_n 0, 1) := by decide +kernel
theorem dX7_tempo_20 : decode cX7_tempo 20 = .ok (.getfield 46, 3) := by decide +kernel
theorem dX7_tempo_23 : decode cX7_tempo 23 = .ok (.invokevirtual 156, 3) := by decide +kernel
theorem dX7_tempo_26 : decode cX7_tempo 26 = .ok (.iload_n 1, 1) := by decide +kernel
theorem dX7_tempo_27 : decode cX7_tempo 27 = .ok (.invokestatic 159, 3) := by decide +kernel
theorem dX7_tempo_30 : decode cX7_tempo 30 = .ok (.ireturn, 1) := by decide +kernel
theorem dX7_ahead_0 : decode cX7_ahead 0 = .ok (.aload_n 0, 1) := by decide +kernel
theorem dX7_ahead_1 : decode cX7_ahead 1 = .ok (.getfield 12, 3) := by decide +kernel
theorem dX7_ahead_4 : decode cX7_ahead 4 = .ok (.iload_n 1, 1) := by decide +kernel
theorem dX7_ahead_5 : decode cX7_ahead 5 = .ok (.invokevirtual 101, 3) := by decide +kernel
theorem dX7_ahead_8 : decode cX7_ahead 8 = .ok (.ifCond .ne 7, 3) := by decide +kernel
theorem dX7_ahead_11 : decode cX7_ahead 11 = .ok (.ldc2_w 163, 3) := by decide +kernel
theorem dX7_ahead_14 : decode cX7_ahead 14 = .ok (.lreturn, 1) := by decide +kernel
theorem dX7_ahead_15 : decode cX7_ahead 15 = .ok (.aload_n 0, 1) := by decide +kernel
theorem dX7_ahead_16 : decode cX7_ahead 16 = .ok (.getfield 46, 3) := by decide +kernel
theorem dX7_ahead_19 : decode cX7_ahead 19 = .ok (.getfield 165, 3) := by decide +kernel
theorem dX7_ahead_22 : decode cX7_ahead 22 = .ok (.ifCond .ne 7, 3) := by decide +kernel
theorem dX7_ahead_25 : decode cX7_ahead 25 = .ok (.ldc2_w 166, 3) := by decide +kernel
theorem dX7_ahead_28 : decode cX7_ahead 28 = .ok (.lreturn, 1) := by decide +kernel
theorem dX7_ahead_29 : decode cX7_ahead 29 = .ok (.aload_n 0, 1) := by decide +kernel
theorem dX7_ahead_30 : decode cX7_ahead 30 = .ok (.getfield 46, 3) := by decide +kernel
theorem dX7_ahead_33 : decode cX7_ahead 33 = .ok (.iload_n 1, 1) := by decide +kernel
theorem dX7_ahead_34 : decode cX7_ahead 34 = .ok (.invokevirtual 168, 3) := by decide +kernel
theorem dX7_ahead_37 : decode cX7_ahead 37 = .ok (.lreturn, 1) := by decide +kernel
theorem dX7_align_0 : decode cX7_align 0 = .ok (.aload_n 0, 1) := by decide +kernel
theorem dX7_align_1 : decode cX7_align 1 = .ok (.getfield 12, 3) := by decide +kernel
theorem dX7_align_4 : decode cX7_align 4 = .ok (.getfield 90, 3) := by decide +kernel
theorem dX7_align_7 : decode cX7_align 7 = .ok (.ifCond .ne 6, 3) := by decide +kernel
theorem dX7_align_10 : decode cX7_align 10 = .ok (.bipush (-3), 2) := by decide +kernel
theorem dX7_align_12 : decode cX7_align 12 = .ok (.ireturn, 1) := by decide +kernel
theorem dX7_align_13 : decode cX7_align 13 = .ok (.aload_n 0, 1) := by decide +kernel
theorem dX7_align_14 : decode cX7_align 14 = .ok (.getfield 53, 3) := by decide +kernel
theorem dX7_align_17 : decode cX7_align 17 = .ok (.getfield 141, 3) := by decide +kernel
theorem dX7_align_20 : decode cX7_align 20 = .ok (.ifCond .ne 10, 3) := by decide +kernel
theorem dX7_align_23 : decode cX7_align 23 = .ok (.aload_n 0, 1) := by decide +kernel
theorem dX7_align_24 : decode cX7_align 24 = .ok (.getfield 53, 3) := by decide +kernel
theorem dX7_align_27 : decode cX7_align 27 = .ok (.invokevirtual 172, 3) := by decide +kernel
theorem dX7_align_30 : decode cX7_align 30 = .ok (.aload_n 0, 1) := by decide +kernel
theorem dX7_align_31 : decode cX7_align 31 = .ok (.getfield 53, 3) := by decide +kernel
theorem dX7_align_34 : decode cX7_align 34 = .ok (.getfield 175, 3) := by decide +kernel
theorem dX7_align_37 : decode cX7_align 37 = .ok (.ireturn, 1) := by decide +kernel
theorem dX7_step_0 : decode cX7_step 0 = .ok (.iload_n 2, 1) := by decide +kernel
theorem dX7_step_1 : decode cX7_step 1 = .ok (.iconst 0, 1) := by decide +kernel
theorem dX7_step_2 : decode cX7_step 2 = .ok (.iconst 3, 1) := by decide +kernel
theorem dX7_step_3 : decode cX7_step 3 = .ok (.invokestatic 74, 3) := by decide +kernel
theorem dX7_step_6 : decode cX7_step 6 = .ok (.ifCond .eq 7, 3) := by decide +kernel
theorem dX7_step_9 : decode cX7_step 9 = .ok (.iload_n 1, 1) := by decide +kernel
theorem dX7_step_10 : decode cX7_step 10 = .ok (.ifCond .ge 6, 3) := by decide +kernel
theorem dX7_step_13 : decode cX7_step 13 = .ok (.bipush (-2), 2) := by decide +kernel
theorem dX7_step_15 : decode cX7_step 15 = .ok (.ireturn, 1) := by decide +kernel
theorem dX7_step_16 : decode cX7_step 16 = .ok (.aload_n 0, 1) := by decide +kernel
theorem dX7_step_17 : decode cX7_step 17 = .ok (.getfield 53, 3) := by decide +kernel
theorem dX7_step_20 : decode cX7_step 20 = .ok (.getfield 141, 3) := by decide +kernel
theorem dX7_step_23 : decode cX7_step 23 = .ok (.ifCond .ne 6, 3) := by decide +kernel
theorem dX7_step_26 : decode cX7_step 26 = .ok (.bipush (-3), 2) := by decide +kernel
theorem dX7_step_28 : decode cX7_step 28 = .ok (.ireturn, 1) := by decide +kernel
theorem dX7_step_29 : decode cX7_step 29 = .ok (.iload_n 1, 1) := by decide +kernel
theorem dX7_step_30 : decode cX7_step 30 = .ok (.aload_n 0, 1) := by decide +kernel
theorem dX7_step_31 : decode cX7_step 31 = .ok (.getfield 53, 3) := by decide +kernel
theorem dX7_step_34 : decode cX7_step 34 = .ok (.getfield 178, 3) := by decide +kernel
theorem dX7_step_37 : decode cX7_step 37 = .ok (.if_icmp .lt 6, 3) := by decide +kernel
theorem dX7_step_40 : decode cX7_step 40 = .ok (.bipush (-2), 2) := by decide +kernel
theorem dX7_step_42 : decode cX7_step 42 = .ok (.ireturn, 1) := by decide +kernel
theorem dX7_step_43 : decode cX7_step 43 = .ok (.aload_n 0, 1) := by decide +kernel
theorem dX7_step_44 : decode cX7_step 44 = .ok (.getfield 53, 3) := by decide +kernel
theorem dX7_step_47 : decode cX7_step 47 = .ok (.iload_n 1, 1) := by decide +kernel
theorem dX7_step_48 : decode cX7_step 48 = .ok (.iload_n 2, 1) := by decide +kernel
theorem dX7_step_49 : decode cX7_step 49 = .ok (.invokevirtual 179, 3) := by decide +kernel
theorem dX7_step_52 : decode cX7_step 52 = .ok (.ireturn, 1) := by decide +kernel
theorem dX7_steps_0 : decode cX7_steps 0 = .ok (.aload_n 0, 1) := by decide +kernel
theorem dX7_steps_1 : decode cX7_steps 1 = .ok (.getfield 53, 3) := by decide +kernel
theorem dX7_steps_4 : decode cX7_steps 4 = .ok (.getfield 141, 3) := by decide +kernel
theorem dX7_steps_7 : decode cX7_steps 7 = .ok (.ifCond .eq 13, 3) := by decide +kernel
theorem dX7_steps_10 : decode cX7_steps 10 = .ok (.aload_n 0, 1) := by decide +kernel
theorem dX7_steps_11 : decode cX7_steps 11 = .ok (.getfield 53, 3) := by decide +kernel
theorem dX7_steps_14 : decode cX7_steps 14 = .ok (.getfield 178, 3) := by decide +kernel
theorem dX7_steps_17 : decode cX7_steps 17 = .ok (.goto 5, 3) := by decide +kernel
theorem dX7_steps_20 : decode cX7_steps 20 = .ok (.bipush (-3), 2) := by decide +kernel
theorem dX7_steps_22 : decode cX7_steps 22 = .ok (.ireturn, 1) := by decide +kernel
theorem dX7_matched_0 : decode cX7_matched 0 = .ok (.iload_n 1, 1) := by decide +kernel
theorem dX7_matched_1 : decode cX7_matched 1 = .ok (.iconst 0, 1) := by decide +kernel
theorem dX7_matched_2 : decode cX7_matched 2 = .ok (.aload_n 0, 1) := by decide +kernel
theorem dX7_matched_3 : decode cX7_matched 3 = .ok (.getfield 19, 3) := by decide +kernel
theorem dX7_matched_6 : decode cX7_matched 6 = .ok (.getfield 83, 3) := by decide +kernel
theorem dX7_matched_9 : decode cX7_matched 9 = .ok (.iconst 1, 1) := by decide +kernel
theorem dX7_matched_10 : decode cX7_matched 10 = .ok (.isub, 1) := by decide +kernel
theorem dX7_matched_11 : decode cX7_matched 11 = .ok (.invokestatic 74, 3) := by decide +kernel
theorem dX7_matched_14 : decode cX7_matched 14 = .ok (.ifCond .ne 6, 3) := by decide +kernel
theorem dX7_matched_17 : decode cX7_matched 17 = .ok (.bipush (-2), 2) := by decide +kernel
theorem dX7_matched_19 : decode cX7_matched 19 = .ok (.ireturn, 1) := by decide +kernel
theorem dX7_matched_20 : decode cX7_matched 20 = .ok (.aload_n 0, 1) := by decide +kernel
theorem dX7_matched_21 : decode cX7_matched 21 = .ok (.getfield 53, 3) := by decide +kernel
theorem dX7_matched_24 : decode cX7_matched 24 = .ok (.getfield 141, 3) := by decide +kernel
theorem dX7_matched_27 : decode cX7_matched 27 = .ok (.ifCond .eq 15, 3) := by decide +kernel
theorem dX7_matched_30 : decode cX7_matched 30 = .ok (.aload_n 0, 1) := by decide +kernel
theorem dX7_matched_31 : decode cX7_matched 31 = .ok (.getfield 53, 3) := by decide +kernel
theorem dX7_matched_34 : decode cX7_matched 34 = .ok (.getfield 182, 3) := by decide +kernel
theorem dX7_matched_37 : decode cX7_matched 37 = .ok (.iload_n 1, 1) := by decide +kernel
theorem dX7_matched_38 : decode cX7_matched 38 = .ok (.iaload, 1) := by decide +kernel
theorem dX7_matched_39 : decode cX7_matched 39 = .ok (.goto 5, 3) := by decide +kernel
theorem dX7_matched_42 : decode cX7_matched 42 = .ok (.bipush (-3), 2) := by decide +kernel
theorem dX7_matched_44 : decode cX7_matched 44 = .ok (.ireturn, 1) := by decide +kernel
theorem dX7_grade_0 : decode cX7_grade 0 = .ok (.aload_n 0, 1) := by decide +kernel
theorem dX7_grade_1 : decode cX7_grade 1 = .ok (.getfield 12, 3) := by decide +kernel
theorem dX7_grade_4 : decode cX7_grade 4 = .ok (.iload_n 1, 1) := by decide +kernel
theorem dX7_grade_5 : decode cX7_grade 5 = .ok (.invokevirtual 101, 3) := by decide +kernel
theorem dX7_grade_8 : decode cX7_grade 8 = .ok (.ifCond .eq 12, 3) := by decide +kernel
theorem dX7_grade_11 : decode cX7_grade 11 = .ok (.iload_n 2, 1) := by decide +kernel
theorem dX7_grade_12 : decode cX7_grade 12 = .ok (.iconst 0, 1) := by decide +kernel
theorem dX7_grade_13 : decode cX7_grade 13 = .ok (.iconst 2, 1) := by decide +kernel
theorem dX7_grade_14 : decode cX7_grade 14 = .ok (.invokestatic 74, 3) := by decide +kernel
theorem dX7_grade_17 : decode cX7_grade 17 = .ok (.ifCond .ne 6, 3) := by decide +kernel
theorem dX7_grade_20 : decode cX7_grade 20 = .ok (.bipush (-2), 2) := by decide +kernel
theorem dX7_grade_22 : decode cX7_grade 22 = .ok (.ireturn, 1) := by decide +kernel
theorem dX7_grade_23 : decode cX7_grade 23 = .ok (.aload_n 0, 1) := by decide +kernel
theorem dX7_grade_24 : decode cX7_grade 24 = .ok (.getfield 53, 3) := by decide +kernel
theorem dX7_grade_27 : decode cX7_grade 27 = .ok (.getfield 141, 3) := by decide +kernel
theorem dX7_grade_30 : decode cX7_grade 30 = .ok (.ifCond .ne 6, 3) := by decide +kernel
theorem dX7_grade_33 : decode cX7_grade 33 = .ok (.bipush (-3), 2) := by decide +kernel
theorem dX7_grade_35 : decode cX7_grade 35 = .ok (.ireturn, 1) := by decide +kernel
theorem dX7_grade_36 : decode cX7_grade 36 = .ok (.iload_n 2, 1) := by decide +kernel
theorem dX7_grade_37 : decode cX7_grade 37 = .ok (.ifCond .ne 13, 3) := by decide +kernel
theorem dX7_grade_40 : decode cX7_grade 40 = .ok (.aload_n 0, 1) := by decide +kernel
theorem dX7_grade_41 : decode cX7_grade 41 = .ok (.getfield 53, 3) := by decide +kernel
theorem dX7_grade_44 : decode cX7_grade 44 = .ok (.getfield 185, 3) := by decide +kernel
theorem dX7_grade_47 : decode cX7_grade 47 = .ok (.iload_n 1, 1) := by decide +kernel
theorem dX7_grade_48 : decode cX7_grade 48 = .ok (.iaload, 1) := by decide +kernel
theorem dX7_grade_49 : decode cX7_grade 49 = .ok (.ireturn, 1) := by decide +kernel
theorem dX7_grade_50 : decode cX7_grade 50 = .ok (.iload_n 2, 1) := by decide +kernel
theorem dX7_grade_51 : decode cX7_grade 51 = .ok (.iconst 1, 1) := by decide +kernel
theorem dX7_grade_52 : decode cX7_grade 52 = .ok (.if_icmp .ne 15, 3) := by decide +kernel
theorem dX7_grade_55 : decode cX7_grade 55 = .ok (.aload_n 0, 1) := by decide +kernel
theorem dX7_grade_56 : decode cX7_grade 56 = .ok (.getfield 53, 3) := by decide +kernel
theorem dX7_grade_59 : decode cX7_grade 59 = .ok (.getfield 188, 3) := by decide +kernel
theorem dX7_grade_62 : decode cX7_grade 62 = .ok (.iload_n 1, 1) := by decide +kernel
theorem dX7_grade_63 : decode cX7_grade 63 = .ok (.iaload, 1) := by decide +kernel
theorem dX7_grade_64 : decode cX7_grade 64 = .ok (.goto 12, 3) := by decide +kernel
theorem dX7_grade_67 : decode cX7_grade 67 = .ok (.aload_n 0, 1) := by decide +kernel
theorem dX7_grade_68 : decode cX7_grade 68 = .ok (.getfield 53, 3) := by decide +kernel
theorem dX7_grade_71 : decode cX7_grade 71 = .ok (.getfield 191, 3) := by decide +kernel
theorem dX7_grade_74 : decode cX7_grade 74 = .ok (.iload_n 1, 1) := by decide +kernel
theorem dX7_grade_75 : decode cX7_grade 75 = .ok (.iaload, 1) := by decide +kernel
theorem dX7_grade_76 : decode cX7_grade 76 = .ok (.ireturn, 1) := by decide +kernel
theorem dX7_mean_0 : decode cX7_mean 0 = .ok (.iload_n 1, 1) := by decide +kernel
theorem dX7_mean_1 : decode cX7_mean 1 = .ok (.iconst 0, 1) := by decide +kernel
theorem dX7_mean_2 : decode cX7_mean 2 = .ok (.iconst 1, 1) := by decide +kernel
theorem dX7_mean_3 : decode cX7_mean 3 = .ok (.invokestatic 74, 3) := by decide +kernel
theorem dX7_mean_6 : decode cX7_mean 6 = .ok (.ifCond .ne 6, 3) := by decide +kernel
theorem dX7_mean_9 : decode cX7_mean 9 = .ok (.bipush (-2), 2) := by decide +kernel
theorem dX7_mean_11 : decode cX7_mean 11 = .ok (.ireturn, 1) := by decide +kernel
theorem dX7_mean_12 : decode cX7_mean 12 = .ok (.aload_n 0, 1) := by decide +kernel
theorem dX7_mean_13 : decode cX7_mean 13 = .ok (.getfield 53, 3) := by decide +kernel
theorem dX7_mean_16 : decode cX7_mean 16 = .ok (.getfield 141, 3) := by decide +kernel
theorem dX7_mean_19 : decode cX7_mean 19 = .ok (.ifCond .ne 6, 3) := by decide +kernel
theorem dX7_mean_22 : decode cX7_mean 22 = .ok (.bipush (-3), 2) := by decide +kernel
theorem dX7_mean_24 : decode cX7_mean 24 = .ok (.ireturn, 1) := by decide +kernel
theorem dX7_mean_25 : decode cX7_mean 25 = .ok (.aload_n 0, 1) := by decide +kernel
theorem dX7_mean_26 : decode cX7_mean 26 = .ok (.getfield 53, 3) := by decide +kernel
theorem dX7_mean_29 : decode cX7_mean 29 = .ok (.getfield 185, 3) := by decide +kernel
theorem dX7_mean_32 : decode cX7_mean 32 = .ok (.aload_n 0, 1) := by decide +kernel
theorem dX7_mean_33 : decode cX7_mean 33 = .ok (.getfield 12, 3) := by decide +kernel
theorem dX7_mean_36 : decode cX7_mean 36 = .ok (.getfield 90, 3) := by decide +kernel
theorem dX7_mean_39 : decode cX7_mean 39 = .ok (.invokestatic 194, 3) := by decide +kernel
theorem dX7_mean_42 : decode cX7_mean 42 = .ok (.istore_n 2, 1) := by decide +kernel
theorem dX7_mean_43 : decode cX7_mean 43 = .ok (.iload_n 2, 1) := by decide +kernel
theorem dX7_mean_44 : decode cX7_mean 44 = .ok (.ifCond .ne 13, 3) := by decide +kernel
theorem dX7_mean_47 : decode cX7_mean 47 = .ok (.new 198, 3) := by decide +kernel
theorem dX7_mean_50 : decode cX7_mean 50 = .ok (.dup, 1) := by decide +kernel
theorem dX7_mean_51 : decode cX7_mean 51 = .ok (.ldc 200, 2) := by decide +kernel
theorem dX7_mean_53 : decode cX7_mean 53 = .ok (.invokespecial 202, 3) := by decide +kernel
theorem dX7_mean_56 : decode cX7_mean 56 = .ok (.athrow, 1) := by decide +kernel
theorem dX7_mean_57 : decode cX7_mean 57 = .ok (.aload_n 0, 1) := by decide +kernel
theorem dX7_mean_58 : decode cX7_mean 58 = .ok (.getfield 53, 3) := by decide +kernel
theorem dX7_mean_61 : decode cX7_mean 61 = .ok (.getfield 188, 3) := by decide +kernel
theorem dX7_mean_64 : decode cX7_mean 64 = .ok (.aload_n 0, 1) := by decide +kernel
theorem dX7_mean_65 : decode cX7_mean 65 = .ok (.getfield 12, 3) := by decide +kernel
theorem dX7_mean_68 : decode cX7_mean 68 = .ok (.getfield 90, 3) := by decide +kernel
theorem dX7_mean_71 : decode cX7_mean 71 = .ok (.invokestatic 194, 3) := by decide +kernel
theorem dX7_mean_74 : decode cX7_mean 74 = .ok (.iload_n 2, 1) := by decide +kernel
theorem dX7_mean_75 : decode cX7_mean 75 = .ok (.iload_n 1, 1) := by decide +kernel
theorem dX7_mean_76 : decode cX7_mean 76 = .ok (.invokestatic 159, 3) := by decide +kernel
theorem dX7_mean_79 : decode cX7_mean 79 = .ok (.ireturn, 1) := by decide +kernel
theorem dX7_end_0 : decode cX7_end 0 = .ok (.aload_n 0, 1) := by decide +kernel
theorem dX7_end_1 : decode cX7_end 1 = .ok (.getfield 53, 3) := by decide +kernel
theorem dX7_end_4 : decode cX7_end 4 = .ok (.getfield 141, 3) := by decide +kernel
theorem dX7_end_7 : decode cX7_end 7 = .ok (.ifCond .eq 13, 3) := by decide +kernel
theorem dX7_end_10 : decode cX7_end 10 = .ok (.aload_n 0, 1) := by decide +kernel
theorem dX7_end_11 : decode cX7_end 11 = .ok (.getfield 19, 3) := by decide +kernel
theorem dX7_end_14 : decode cX7_end 14 = .ok (.getfield 83, 3) := by decide +kernel
theorem dX7_end_17 : decode cX7_end 17 = .ok (.ifCond .ne 6, 3) := by decide +kernel
theorem dX7_end_20 : decode cX7_end 20 = .ok (.bipush (-3), 2) := by decide +kernel
theorem dX7_end_22 : decode cX7_end 22 = .ok (.ireturn, 1) := by decide +kernel
theorem dX7_end_23 : decode cX7_end 23 = .ok (.iconst 0, 1) := by decide +kernel
theorem dX7_end_24 : decode cX7_end 24 = .ok (.istore_n 1, 1) := by decide +kernel
theorem dX7_end_25 : decode cX7_end 25 = .ok (.iload_n 1, 1) := by decide +kernel
theorem dX7_end_26 : decode cX7_end 26 = .ok (.aload_n 0, 1) := by decide +kernel
theorem dX7_end_27 : decode cX7_end 27 = .ok (.getfield 12, 3) := by decide +kernel
theorem dX7_end_30 : decode cX7_end 30 = .ok (.getfield 90, 3) := by decide +kernel
theorem dX7_end_33 : decode cX7_end 33 = .ok (.if_icmp .ge 50, 3) := by decide +kernel
theorem dX7_end_36 : decode cX7_end 36 = .ok (.aload_n 0, 1) := by decide +kernel
theorem dX7_end_37 : decode cX7_end 37 = .ok (.getfield 53, 3) := by decide +kernel
theorem dX7_end_40 : decode cX7_end 40 = .ok (.iload_n 1, 1) := by decide +kernel
theorem dX7_end_41 : decode cX7_end 41 = .ok (.invokevirtual 205, 3) := by decide +kernel
theorem dX7_end_44 : decode cX7_end 44 = .ok (.ifCond .eq 14, 3) := by decide +kernel
theorem dX7_end_47 : decode cX7_end 47 = .ok (.aload_n 0, 1) := by decide +kernel
theorem dX7_end_48 : decode cX7_end 48 = .ok (.getfield 60, 3) := by decide +kernel
theorem dX7_end_51 : decode cX7_end 51 = .ok (.iload_n 1, 1) := by decide +kernel
theorem dX7_end_52 : decode cX7_end 52 = .ok (.invokevirtual 208, 3) := by decide +kernel
theorem dX7_end_55 : decode cX7_end 55 = .ok (.goto 22, 3) := by decide +kernel
theorem dX7_end_58 : decode cX7_end 58 = .ok (.aload_n 0, 1) := by decide +kernel
theorem dX7_end_59 : decode cX7_end 59 = .ok (.getfield 53, 3) := by decide +kernel
theorem dX7_end_62 : decode cX7_end 62 = .ok (.iload_n 1, 1) := by decide +kernel
theorem dX7_end_63 : decode cX7_end 63 = .ok (.invokevirtual 211, 3) := by decide +kernel
theorem dX7_end_66 : decode cX7_end 66 = .ok (.ifCond .eq 11, 3) := by decide +kernel
theorem dX7_end_69 : decode cX7_end 69 = .ok (.aload_n 0, 1) := by decide +kernel
theorem dX7_end_70 : decode cX7_end 70 = .ok (.getfield 60, 3) := by decide +kernel
theorem dX7_end_73 : decode cX7_end 73 = .ok (.iload_n 1, 1) := by decide +kernel
theorem dX7_end_74 : decode cX7_end 74 = .ok (.invokevirtual 214, 3) := by decide +kernel
theorem dX7_end_77 : decode cX7_end 77 = .ok (.iinc 1 1, 3) := by decide +kernel
theorem dX7_end_80 : decode cX7_end 80 = .ok (.goto (-55), 3) := by decide +kernel
theorem dX7_end_83 : decode cX7_end 83 = .ok (.aload_n 0, 1) := by decide +kernel
theorem dX7_end_84 : decode cX7_end 84 = .ok (.getfield 60, 3) := by decide +kernel
theorem dX7_end_87 : decode cX7_end 87 = .ok (.dup, 1) := by decide +kernel
theorem dX7_end_88 : decode cX7_end 88 = .ok (.getfield 67, 3) := by decide +kernel
theorem dX7_end_91 : decode cX7_end 91 = .ok (.iconst 1, 1) := by decide +kernel
theorem dX7_end_92 : decode cX7_end 92 = .ok (.iadd, 1) := by decide +kernel
theorem dX7_end_93 : decode cX7_end 93 = .ok (.putfield 67, 3) := by decide +kernel
theorem dX7_end_96 : decode cX7_end 96 = .ok (.aload_n 0, 1) := by decide +kernel
theorem dX7_end_97 : decode cX7_end 97 = .ok (.invokevirtual 71, 3) := by decide +kernel
theorem dX7_end_100 : decode cX7_end 100 = .ok (.aload_n 0, 1) := by decide +kernel
theorem dX7_end_101 : decode cX7_end 101 = .ok (.getfield 60, 3) := by decide +kernel
theorem dX7_end_104 : decode cX7_end 104 = .ok (.aload_n 0, 1) := by decide +kernel
theorem dX7_end_105 : decode cX7_end 105 = .ok (.getfield 12, 3) := by decide +kernel
theorem dX7_end_108 : decode cX7_end 108 = .ok (.getfield 90, 3) := by decide +kernel
theorem dX7_end_111 : decode cX7_end 111 = .ok (.invokevirtual 217, 3) := by decide +kernel
theorem dX7_end_114 : decode cX7_end 114 = .ok (.ireturn, 1) := by decide +kernel
theorem dX7_due_0 : decode cX7_due 0 = .ok (.iload_n 1, 1) := by decide +kernel
theorem dX7_due_1 : decode cX7_due 1 = .ok (.ifCond .ge 6, 3) := by decide +kernel
theorem dX7_due_4 : decode cX7_due 4 = .ok (.bipush (-2), 2) := by decide +kernel
theorem dX7_due_6 : decode cX7_due 6 = .ok (.ireturn, 1) := by decide +kernel
theorem dX7_due_7 : decode cX7_due 7 = .ok (.aload_n 0, 1) := by decide +kernel
theorem dX7_due_8 : decode cX7_due 8 = .ok (.getfield 60, 3) := by decide +kernel
theorem dX7_due_11 : decode cX7_due 11 = .ok (.iload_n 1, 1) := by decide +kernel
theorem dX7_due_12 : decode cX7_due 12 = .ok (.aload_n 0, 1) := by decide +kernel
theorem dX7_due_13 : decode cX7_due 13 = .ok (.getfield 12, 3) := by decide +kernel
theorem dX7_due_16 : decode cX7_due 16 = .ok (.getfield 90, 3) := by decide +kernel
theorem dX7_due_19 : decode cX7_due 19 = .ok (.invokevirtual 220, 3) := by decide +kernel
theorem dX7_due_22 : decode cX7_due 22 = .ok (.ireturn, 1) := by decide +kernel
theorem dX7_of_0 : decode cX7_of 0 = .ok (.aload_n 0, 1) := by decide +kernel
theorem dX7_of_1 : decode cX7_of 1 = .ok (.getfield 12, 3) := by decide +kernel
theorem dX7_of_4 : decode cX7_of 4 = .ok (.iload_n 1, 1) := by decide +kernel
theorem dX7_of_5 : decode cX7_of 5 = .ok (.invokevirtual 101, 3) := by decide +kernel
theorem dX7_of_8 : decode cX7_of 8 = .ok (.ifCond .ne 6, 3) := by decide +kernel
theorem dX7_of_11 : decode cX7_of 11 = .ok (.bipush (-2), 2) := by decide +kernel
theorem dX7_of_13 : decode cX7_of 13 = .ok (.ireturn, 1) := by decide +kernel
theorem dX7_of_14 : decode cX7_of 14 = .ok (.iload_n 2, 1) := by decide +kernel
theorem dX7_of_15 : decode cX7_of 15 = .ok (.tableswitch 69 0 3 #[29, 39, 49, 59], 29) := by decide +kernel
theorem dX7_of_44 : decode cX7_of 44 = .ok (.aload_n 0, 1) := by decide +kernel
theorem dX7_of_45 : decode cX7_of 45 = .ok (.getfield 12, 3) := by decide +kernel
theorem dX7_of_48 : decode cX7_of 48 = .ok (.getfield 223, 3) := by decide +kernel
theorem dX7_of_51 : decode cX7_of 51 = .ok (.iload_n 1, 1) := by decide +kernel
theorem dX7_of_52 : decode cX7_of 52 = .ok (.iaload, 1) := by decide +kernel
theorem dX7_of_53 : decode cX7_of 53 = .ok (.ireturn, 1) := by decide +kernel
theorem dX7_of_54 : decode cX7_of 54 = .ok (.aload_n 0, 1) := by decide +kernel
theorem dX7_of_55 : decode cX7_of 55 = .ok (.getfield 12, 3) := by decide +kernel
theorem dX7_of_58 : decode cX7_of 58 = .ok (.getfield 226, 3) := by decide +kernel
theorem dX7_of_61 : decode cX7_of 61 = .ok (.iload_n 1, 1) := by decide +kernel
theorem dX7_of_62 : decode cX7_of 62 = .ok (.iaload, 1) := by decide +kernel
theorem dX7_of_63 : decode cX7_of 63 = .ok (.ireturn, 1) := by decide +kernel
theorem dX7_of_64 : decode cX7_of 64 = .ok (.aload_n 0, 1) := by decide +kernel
theorem dX7_of_65 : decode cX7_of 65 = .ok (.getfield 60, 3) := by decide +kernel
theorem dX7_of_68 : decode cX7_of 68 = .ok (.getfield 229, 3) := by decide +kernel
theorem dX7_of_71 : decode cX7_of 71 = .ok (.iload_n 1, 1) := by decide +kernel
theorem dX7_of_72 : decode cX7_of 72 = .ok (.iaload, 1) := by decide +kernel
theorem dX7_of_73 : decode cX7_of 73 = .ok (.ireturn, 1) := by decide +kernel
theorem dX7_of_74 : decode cX7_of 74 = .ok (.aload_n 0, 1) := by decide +kernel
theorem dX7_of_75 : decode cX7_of 75 = .ok (.getfield 60, 3) := by decide +kernel
theorem dX7_of_78 : decode cX7_of 78 = .ok (.getfield 232, 3) := by decide +kernel
theorem dX7_of_81 : decode cX7_of 81 = .ok (.iload_n 1, 1) := by decide +kernel
theorem dX7_of_82 : decode cX7_of 82 = .ok (.iaload, 1) := by decide +kernel
theorem dX7_of_83 : decode cX7_of 83 = .ok (.ireturn, 1) := by decide +kernel
theorem dX7_of_84 : decode cX7_of 84 = .ok (.bipush (-2), 2) := by decide +kernel
theorem dX7_of_86 : decode cX7_of 86 = .ok (.ireturn, 1) := by decide +kernel
theorem dX7_told_0 : decode cX7_told 0 = .ok (.iload_n 1, 1) := by decide +kernel
theorem dX7_told_1 : decode cX7_told 1 = .ok (.tableswitch 123 0 8 #[51, 59, 67, 75, 83, 91, 99, 107, 115], 51) := by decide +kernel
theorem dX7_told_52 : decode cX7_told 52 = .ok (.aload_n 0, 1) := by decide +kernel
theorem dX7_told_53 : decode cX7_told 53 = .ok (.getfield 12, 3) := by decide +kernel
theorem dX7_told_56 : decode cX7_told 56 = .ok (.getfield 90, 3) := by decide +kernel
theorem dX7_told_59 : decode cX7_told 59 = .ok (.ireturn, 1) := by decide +kernel
theorem dX7_told_60 : decode cX7_told 60 = .ok (.aload_n 0, 1) := by decide +kernel
theorem dX7_told_61 : decode cX7_told 61 = .ok (.getfield 12, 3) := by decide +kernel
theorem dX7_told_64 : decode cX7_told 64 = .ok (.getfield 109, 3) := by decide +kernel
theorem dX7_told_67 : decode cX7_told 67 = .ok (.ireturn, 1) := by decide +kernel
theorem dX7_told_68 : decode cX7_told 68 = .ok (.aload_n 0, 1) := by decide +kernel
theorem dX7_told_69 : decode cX7_told 69 = .ok (.getfield 19, 3) := by decide +kernel
theorem dX7_told_72 : decode cX7_told 72 = .ok (.getfield 83, 3) := by decide +kernel
theorem dX7_told_75 : decode cX7_told 75 = .ok (.ireturn, 1) := by decide +kernel
theorem dX7_told_76 : decode cX7_told 76 = .ok (.aload_n 0, 1) := by decide +kernel
theorem dX7_told_77 : decode cX7_told 77 = .ok (.getfield 37, 3) := by decide +kernel
theorem dX7_told_80 : decode cX7_told 80 = .ok (.getfield 145, 3) := by decide +kernel
theorem dX7_told_83 : decode cX7_told 83 = .ok (.ireturn, 1) := by decide +kernel
theorem dX7_told_84 : decode cX7_told 84 = .ok (.aload_n 0, 1) := by decide +kernel
theorem dX7_told_85 : decode cX7_told 85 = .ok (.getfield 60, 3) := by decide +kernel
theorem dX7_told_88 : decode cX7_told 88 = .ok (.getfield 67, 3) := by decide +kernel
theorem dX7_told_91 : decode cX7_told 91 = .ok (.ireturn, 1) := by decide +kernel
theorem dX7_told_92 : decode cX7_told 92 = .ok (.aload_n 0, 1) := by decide +kernel
theorem dX7_told_93 : decode cX7_told 93 = .ok (.getfield 46, 3) := by decide +kernel
theorem dX7_told_96 : decode cX7_told 96 = .ok (.getfield 165, 3) := by decide +kernel
theorem dX7_told_99 : decode cX7_told 99 = .ok (.ireturn, 1) := by decide +kernel
theorem dX7_told_100 : decode cX7_told 100 = .ok (.aload_n 0, 1) := by decide +kernel
theorem dX7_told_101 : decode cX7_told 101 = .ok (.getfield 12, 3) := by decide +kernel
theorem dX7_told_104 : decode cX7_told 104 = .ok (.getfield 115, 3) := by decide +kernel
theorem dX7_told_107 : decode cX7_told 107 = .ok (.ireturn, 1) := by decide +kernel
theorem dX7_told_108 : decode cX7_told 108 = .ok (.aload_n 0, 1) := by decide +kernel
theorem dX7_told_109 : decode cX7_told 109 = .ok (.getfield 12, 3) := by decide +kernel
theorem dX7_told_112 : decode cX7_told 112 = .ok (.getfield 118, 3) := by decide +kernel
theorem dX7_told_115 : decode cX7_told 115 = .ok (.ireturn, 1) := by decide +kernel
theorem dX7_told_116 : decode cX7_told 116 = .ok (.aload_n 0, 1) := by decide +kernel
theorem dX7_told_117 : decode cX7_told 117 = .ok (.getfield 12, 3) := by decide +kernel
theorem dX7_told_120 : decode cX7_told 120 = .ok (.getfield 125, 3) := by decide +kernel
theorem dX7_told_123 : decode cX7_told 123 = .ok (.ireturn, 1) := by decide +kernel
theorem dX7_told_124 : decode cX7_told 124 = .ok (.bipush (-2), 2) := by decide +kernel
theorem dX7_told_126 : decode cX7_told 126 = .ok (.ireturn, 1) := by decide +kernel
theorem dX7_hearNothing_0 : decode cX7_hearNothing 0 = .ok (.aload_n 0, 1) := by decide +kernel
theorem dX7_hearNothing_1 : decode cX7_hearNothing 1 = .ok (.getfield 19, 3) := by decide +kernel
theorem dX7_hearNothing_4 : decode cX7_hearNothing 4 = .ok (.iconst 0, 1) := by decide +kernel
theorem dX7_hearNothing_5 : decode cX7_hearNothing 5 = .ok (.putfield 83, 3) := by decide +kernel
theorem dX7_hearNothing_8 : decode cX7_hearNothing 8 = .ok (.aload_n 0, 1) := by decide +kernel
theorem dX7_hearNothing_9 : decode cX7_hearNothing 9 = .ok (.getfield 37, 3) := by decide +kernel
theorem dX7_hearNothing_12 : decode cX7_hearNothing 12 = .ok (.invokevirtual 235, 3) := by decide +kernel
theorem dX7_hearNothing_15 : decode cX7_hearNothing 15 = .ok (.aload_n 0, 1) := by decide +kernel
theorem dX7_hearNothing_16 : decode cX7_hearNothing 16 = .ok (.getfield 46, 3) := by decide +kernel
theorem dX7_hearNothing_19 : decode cX7_hearNothing 19 = .ok (.iconst 0, 1) := by decide +kernel
theorem dX7_hearNothing_20 : decode cX7_hearNothing 20 = .ok (.putfield 165, 3) := by decide +kernel
theorem dX7_hearNothing_23 : decode cX7_hearNothing 23 = .ok (.aload_n 0, 1) := by decide +kernel
theorem dX7_hearNothing_24 : decode cX7_hearNothing 24 = .ok (.getfield 53, 3) := by decide +kernel
theorem dX7_hearNothing_27 : decode cX7_hearNothing 27 = .ok (.iconst 0, 1) := by decide +kernel
theorem dX7_hearNothing_28 : decode cX7_hearNothing 28 = .ok (.putfield 141, 3) := by decide +kernel
theorem dX7_hearNothing_31 : decode cX7_hearNothing 31 = .ok (.return_, 1) := by decide +kernel
theorem dX7_followOn_0 : decode cX7_followOn 0 = .ok (.aload_n 0, 1) := by decide +kernel
theorem dX7_followOn_1 : decode cX7_followOn 1 = .ok (.getfield 37, 3) := by decide +kernel
theorem dX7_followOn_4 : decode cX7_followOn 4 = .ok (.iload_n 1, 1) := by decide +kernel
theorem dX7_followOn_5 : decode cX7_followOn 5 = .ok (.invokevirtual 238, 3) := by decide +kernel
theorem dX7_followOn_8 : decode cX7_followOn 8 = .ok (.aload_n 0, 1) := by decide +kernel
theorem dX7_followOn_9 : decode cX7_followOn 9 = .ok (.getfield 46, 3) := by decide +kernel
theorem dX7_followOn_12 : decode cX7_followOn 12 = .ok (.iload_n 1, 1) := by decide +kernel
theorem dX7_followOn_13 : decode cX7_followOn 13 = .ok (.aload_n 0, 1) := by decide +kernel
theorem dX7_followOn_14 : decode cX7_followOn 14 = .ok (.getfield 37, 3) := by decide +kernel
theorem dX7_followOn_17 : decode cX7_followOn 17 = .ok (.getfield 145, 3) := by decide +kernel
theorem dX7_followOn_20 : decode cX7_followOn 20 = .ok (.invokevirtual 241, 3) := by decide +kernel
theorem dX7_followOn_23 : decode cX7_followOn 23 = .ok (.return_, 1) := by decide +kernel
theorem dX7_isWithin_0 : decode cX7_isWithin 0 = .ok (.iload_n 0, 1) := by decide +kernel
theorem dX7_isWithin_1 : decode cX7_isWithin 1 = .ok (.iload_n 1, 1) := by decide +kernel
theorem dX7_isWithin_2 : decode cX7_isWithin 2 = .ok (.if_icmp .lt 12, 3) := by decide +kernel
theorem dX7_isWithin_5 : decode cX7_isWithin 5 = .ok (.iload_n 0, 1) := by decide +kernel
theorem dX7_isWithin_6 : decode cX7_isWithin 6 = .ok (.iload_n 2, 1) := by decide +kernel
theorem dX7_isWithin_7 : decode cX7_isWithin 7 = .ok (.if_icmp .gt 7, 3) := by decide +kernel
theorem dX7_isWithin_10 : decode cX7_isWithin 10 = .ok (.iconst 1, 1) := by decide +kernel
theorem dX7_isWithin_11 : decode cX7_isWithin 11 = .ok (.goto 4, 3) := by decide +kernel
theorem dX7_isWithin_14 : decode cX7_isWithin 14 = .ok (.iconst 0, 1) := by decide +kernel
theorem dX7_isWithin_15 : decode cX7_isWithin 15 = .ok (.ireturn, 1) := by decide +kernel
theorem dX7_sumOf_0 : decode cX7_sumOf 0 = .ok (.iconst 0, 1) := by decide +kernel
theorem dX7_sumOf_1 : decode cX7_sumOf 1 = .ok (.istore_n 2, 1) := by decide +kernel
theorem dX7_sumOf_2 : decode cX7_sumOf 2 = .ok (.iconst 0, 1) := by decide +kernel
theorem dX7_sumOf_3 : decode cX7_sumOf 3 = .ok (.istore_n 3, 1) := by decide +kernel
theorem dX7_sumOf_4 : decode cX7_sumOf 4 = .ok (.iload_n 3, 1) := by decide +kernel
theorem dX7_sumOf_5 : decode cX7_sumOf 5 = .ok (.iload_n 1, 1) := by decide +kernel
theorem dX7_sumOf_6 : decode cX7_sumOf 6 = .ok (.if_icmp .ge 21, 3) := by decide +kernel
theorem dX7_sumOf_9 : decode cX7_sumOf 9 = .ok (.iload_n 3, 1) := by decide +kernel
theorem dX7_sumOf_10 : decode cX7_sumOf 10 = .ok (.aload_n 0, 1) := by decide +kernel
theorem dX7_sumOf_11 : decode cX7_sumOf 11 = .ok (.arraylength, 1) := by decide +kernel
theorem dX7_sumOf_12 : decode cX7_sumOf 12 = .ok (.if_icmp .ge 15, 3) := by decide +kernel
theorem dX7_sumOf_15 : decode cX7_sumOf 15 = .ok (.iload_n 2, 1) := by decide +kernel
theorem dX7_sumOf_16 : decode cX7_sumOf 16 = .ok (.aload_n 0, 1) := by decide +kernel
theorem dX7_sumOf_17 : decode cX7_sumOf 17 = .ok (.iload_n 3, 1) := by decide +kernel
theorem dX7_sumOf_18 : decode cX7_sumOf 18 = .ok (.iaload, 1) := by decide +kernel
theorem dX7_sumOf_19 : decode cX7_sumOf 19 = .ok (.iadd, 1) := by decide +kernel
theorem dX7_sumOf_20 : decode cX7_sumOf 20 = .ok (.istore_n 2, 1) := by decide +kernel
theorem dX7_sumOf_21 : decode cX7_sumOf 21 = .ok (.iinc 3 1, 3) := by decide +kernel
theorem dX7_sumOf_24 : decode cX7_sumOf 24 = .ok (.goto (-20), 3) := by decide +kernel
theorem dX7_sumOf_27 : decode cX7_sumOf 27 = .ok (.iload_n 2, 1) := by decide +kernel
theorem dX7_sumOf_28 : decode cX7_sumOf 28 = .ok (.ireturn, 1) := by decide +kernel
theorem dX7_lowestTerms_0 : decode cX7_lowestTerms 0 = .ok (.iload_n 0, 1) := by decide +kernel
theorem dX7_lowestTerms_1 : decode cX7_lowestTerms 1 = .ok (.iload_n 1, 1) := by decide +kernel
theorem dX7_lowestTerms_2 : decode cX7_lowestTerms 2 = .ok (.invokestatic 245, 3) := by decide +kernel
theorem dX7_lowestTerms_5 : decode cX7_lowestTerms 5 = .ok (.istore_n 3, 1) := by decide +kernel
theorem dX7_lowestTerms_6 : decode cX7_lowestTerms 6 = .ok (.iload_n 2, 1) := by decide +kernel
theorem dX7_lowestTerms_7 : decode cX7_lowestTerms 7 = .ok (.ifCond .ne 7, 3) := by decide +kernel
theorem dX7_lowestTerms_10 : decode cX7_lowestTerms 10 = .ok (.iload_n 0, 1) := by decide +kernel
theorem dX7_lowestTerms_11 : decode cX7_lowestTerms 11 = .ok (.goto 4, 3) := by decide +kernel
theorem dX7_lowestTerms_14 : decode cX7_lowestTerms 14 = .ok (.iload_n 1, 1) := by decide +kernel
theorem dX7_lowestTerms_15 : decode cX7_lowestTerms 15 = .ok (.istore 4, 2) := by decide +kernel
theorem dX7_lowestTerms_17 : decode cX7_lowestTerms 17 = .ok (.iload_n 3, 1) := by decide +kernel
theorem dX7_lowestTerms_18 : decode cX7_lowestTerms 18 = .ok (.ifCond .ne 8, 3) := by decide +kernel
theorem dX7_lowestTerms_21 : decode cX7_lowestTerms 21 = .ok (.iload 4, 2) := by decide +kernel
theorem dX7_lowestTerms_23 : decode cX7_lowestTerms 23 = .ok (.goto 7, 3) := by decide +kernel
theorem dX7_lowestTerms_26 : decode cX7_lowestTerms 26 = .ok (.iload 4, 2) := by decide +kernel
theorem dX7_lowestTerms_28 : decode cX7_lowestTerms 28 = .ok (.iload_n 3, 1) := by decide +kernel
theorem dX7_lowestTerms_29 : decode cX7_lowestTerms 29 = .ok (.idiv, 1) := by decide +kernel
theorem dX7_lowestTerms_30 : decode cX7_lowestTerms 30 = .ok (.ireturn, 1) := by decide +kernel
theorem dX7_commonDivisor_0 : decode cX7_commonDivisor 0 = .ok (.iload_n 0, 1) := by decide +kernel
theorem dX7_commonDivisor_1 : decode cX7_commonDivisor 1 = .ok (.istore_n 2, 1) := by decide +kernel
theorem dX7_commonDivisor_2 : decode cX7_commonDivisor 2 = .ok (.iload_n 1, 1) := by decide +kernel
theorem dX7_commonDivisor_3 : decode cX7_commonDivisor 3 = .ok (.istore_n 3, 1) := by decide +kernel
theorem dX7_commonDivisor_4 : decode cX7_commonDivisor 4 = .ok (.iconst 0, 1) := by decide +kernel
theorem dX7_commonDivisor_5 : decode cX7_commonDivisor 5 = .ok (.istore 4, 2) := by decide +kernel
theorem dX7_commonDivisor_7 : decode cX7_commonDivisor 7 = .ok (.iload 4, 2) := by decide +kernel
theorem dX7_commonDivisor_9 : decode cX7_commonDivisor 9 = .ok (.bipush 64, 2) := by decide +kernel
theorem dX7_commonDivisor_11 : decode cX7_commonDivisor 11 = .ok (.if_icmp .ge 23, 3) := by decide +kernel
theorem dX7_commonDivisor_14 : decode cX7_commonDivisor 14 = .ok (.iload_n 3, 1) := by decide +kernel
theorem dX7_commonDivisor_15 : decode cX7_commonDivisor 15 = .ok (.ifCond .eq 19, 3) := by decide +kernel
theorem dX7_commonDivisor_18 : decode cX7_commonDivisor 18 = .ok (.iload_n 2, 1) := by decide +kernel
theorem dX7_commonDivisor_19 : decode cX7_commonDivisor 19 = .ok (.iload_n 3, 1) := by decide +kernel
theorem dX7_commonDivisor_20 : decode cX7_commonDivisor 20 = .ok (.irem, 1) := by decide +kernel
theorem dX7_commonDivisor_21 : decode cX7_commonDivisor 21 = .ok (.istore 5, 2) := by decide +kernel
theorem dX7_commonDivisor_23 : decode cX7_commonDivisor 23 = .ok (.iload_n 3, 1) := by decide +kernel
theorem dX7_commonDivisor_24 : decode cX7_commonDivisor 24 = .ok (.istore_n 2, 1) := by decide +kernel
theorem dX7_commonDivisor_25 : decode cX7_commonDivisor 25 = .ok (.iload 5, 2) := by decide +kernel
theorem dX7_commonDivisor_27 : decode cX7_commonDivisor 27 = .ok (.istore_n 3, 1) := by decide +kernel
theorem dX7_commonDivisor_28 : decode cX7_commonDivisor 28 = .ok (.iinc 4 1, 3) := by decide +kernel
theorem dX7_commonDivisor_31 : decode cX7_commonDivisor 31 = .ok (.goto (-24), 3) := by decide +kernel
theorem dX7_commonDivisor_34 : decode cX7_commonDivisor 34 = .ok (.iload_n 2, 1) := by decide +kernel
theorem dX7_commonDivisor_35 : decode cX7_commonDivisor 35 = .ok (.ireturn, 1) := by decide +kernel
