theorem dX8_init_0 : decode cX8_init 0 = .ok (.aload_n 0, 1) := by decide +kernel
theorem dX8_init_1 : decode cX8_init 1 = .ok (.invokespecial 1, 3) := by decide +kernel
theorem dX8_init_4 : decode cX8_init 4 = .ok (.aload_n 0, 1) := by decide +kernel
theorem dX8_init_5 : decode cX8_init 5 = .ok (.bipush 60, 2) := by decide +kernel
theorem dX8_init_7 : decode cX8_init 7 = .ok (.newarray .int, 2) := by decide +kernel
theorem dX8_init_9 : decode cX8_init 9 = .ok (.putfield 7, 3) := by decide +kernel
theorem dX8_init_12 : decode cX8_init 12 = .ok (.aload_n 0, 1) := by decide +kernel
theorem dX8_init_13 : decode cX8_init 13 = .ok (.bipush 60, 2) := by decide +kernel
theorem dX8_init_15 : decode cX8_init 15 = .ok (.newarray .int, 2) := by decide +kernel
theorem dX8_init_17 : decode cX8_init 17 = .ok (.putfield 13, 3) := by decide +kernel
theorem dX8_init_20 : decode cX8_init 20 = .ok (.aload_n 0, 1) := by decide +kernel
theorem dX8_init_21 : decode cX8_init 21 = .ok (.bipush 60, 2) := by decide +kernel
theorem dX8_init_23 : decode cX8_init 23 = .ok (.newarray .int, 2) := by decide +kernel
theorem dX8_init_25 : decode cX8_init 25 = .ok (.putfield 16, 3) := by decide +kernel
theorem dX8_init_28 : decode cX8_init 28 = .ok (.aload_n 0, 1) := by decide +kernel
theorem dX8_init_29 : decode cX8_init 29 = .ok (.bipush 60, 2) := by decide +kernel
theorem dX8_init_31 : decode cX8_init 31 = .ok (.newarray .int, 2) := by decide +kernel
theorem dX8_init_33 : decode cX8_init 33 = .ok (.putfield 19, 3) := by decide +kernel
theorem dX8_init_36 : decode cX8_init 36 = .ok (.aload_n 0, 1) := by decide +kernel
theorem dX8_init_37 : decode cX8_init 37 = .ok (.bipush 12, 2) := by decide +kernel
theorem dX8_init_39 : decode cX8_init 39 = .ok (.newarray .int, 2) := by decide +kernel
theorem dX8_init_41 : decode cX8_init 41 = .ok (.putfield 22, 3) := by decide +kernel
theorem dX8_init_44 : decode cX8_init 44 = .ok (.aload_n 0, 1) := by decide +kernel
theorem dX8_init_45 : decode cX8_init 45 = .ok (.bipush 12, 2) := by decide +kernel
theorem dX8_init_47 : decode cX8_init 47 = .ok (.newarray .int, 2) := by decide +kernel
theorem dX8_init_49 : decode cX8_init 49 = .ok (.putfield 25, 3) := by decide +kernel
theorem dX8_init_52 : decode cX8_init 52 = .ok (.aload_n 0, 1) := by decide +kernel
theorem dX8_init_53 : decode cX8_init 53 = .ok (.iconst (-1), 1) := by decide +kernel
theorem dX8_init_54 : decode cX8_init 54 = .ok (.putfield 28, 3) := by decide +kernel
theorem dX8_init_57 : decode cX8_init 57 = .ok (.aload_n 0, 1) := by decide +kernel
theorem dX8_init_58 : decode cX8_init 58 = .ok (.iconst (-1), 1) := by decide +kernel
theorem dX8_init_59 : decode cX8_init 59 = .ok (.putfield 32, 3) := by decide +kernel
theorem dX8_init_62 : decode cX8_init 62 = .ok (.aload_n 0, 1) := by decide +kernel
theorem dX8_init_63 : decode cX8_init 63 = .ok (.iconst 5, 1) := by decide +kernel
theorem dX8_init_64 : decode cX8_init 64 = .ok (.newarray .int, 2) := by decide +kernel
theorem dX8_init_66 : decode cX8_init 66 = .ok (.putfield 35, 3) := by decide +kernel
theorem dX8_init_69 : decode cX8_init 69 = .ok (.aload_n 0, 1) := by decide +kernel
theorem dX8_init_70 : decode cX8_init 70 = .ok (.bipush 120, 2) := by decide +kernel
theorem dX8_init_72 : decode cX8_init 72 = .ok (.newarray .int, 2) := by decide +kernel
theorem dX8_init_74 : decode cX8_init 74 = .ok (.putfield 38, 3) := by decide +kernel
theorem dX8_init_77 : decode cX8_init 77 = .ok (.aload_n 0, 1) := by decide +kernel
theorem dX8_init_78 : decode cX8_init 78 = .ok (.bipush 120, 2) := by decide +kernel
theorem dX8_init_80 : decode cX8_init 80 = .ok (.newarray .int, 2) := by decide +kernel
theorem dX8_init_82 : decode cX8_init 82 = .ok (.putfield 41, 3) := by decide +kernel
theorem dX8_init_85 : decode cX8_init 85 = .ok (.aload_n 0, 1) := by decide +kernel
theorem dX8_init_86 : decode cX8_init 86 = .ok (.bipush 61, 2) := by decide +kernel
theorem dX8_init_88 : decode cX8_init 88 = .ok (.newarray .int, 2) := by decide +kernel
theorem dX8_init_90 : decode cX8_init 90 = .ok (.putfield 44, 3) := by decide +kernel
theorem dX8_init_93 : decode cX8_init 93 = .ok (.aload_n 0, 1) := by decide +kernel
theorem dX8_init_94 : decode cX8_init 94 = .ok (.bipush 61, 2) := by decide +kernel
theorem dX8_init_96 : decode cX8_init 96 = .ok (.newarray .int, 2) := by decide +kernel
theorem dX8_init_98 : decode cX8_init 98 = .ok (.putfield 47, 3) := by decide +kernel
theorem dX8_init_101 : decode cX8_init 101 = .ok (.aload_n 0, 1) := by decide +kernel
theorem dX8_init_102 : decode cX8_init 102 = .ok (.bipush 61, 2) := by decide +kernel
theorem dX8_init_104 : decode cX8_init 104 = .ok (.newarray .int, 2) := by decide +kernel
theorem dX8_init_106 : decode cX8_init 106 = .ok (.putfield 50, 3) := by decide +kernel
theorem dX8_init_109 : decode cX8_init 109 = .ok (.aload_n 0, 1) := by decide +kernel
theorem dX8_init_110 : decode cX8_init 110 = .ok (.bipush 120, 2) := by decide +kernel
theorem dX8_init_112 : decode cX8_init 112 = .ok (.newarray .int, 2) := by decide +kernel
theorem dX8_init_114 : decode cX8_init 114 = .ok (.putfield 53, 3) := by decide +kernel
theorem dX8_init_117 : decode cX8_init 117 = .ok (.aload_n 0, 1) := by decide +kernel
theorem dX8_init_118 : decode cX8_init 118 = .ok (.bipush 120, 2) := by decide +kernel
theorem dX8_init_120 : decode cX8_init 120 = .ok (.newarray .int, 2) := by decide +kernel
theorem dX8_init_122 : decode cX8_init 122 = .ok (.putfield 56, 3) := by decide +kernel
theorem dX8_init_125 : decode cX8_init 125 = .ok (.aload_n 0, 1) := by decide +kernel
theorem dX8_init_126 : decode cX8_init 126 = .ok (.bipush 14, 2) := by decide +kernel
theorem dX8_init_128 : decode cX8_init 128 = .ok (.newarray .int, 2) := by decide +kernel
theorem dX8_init_130 : decode cX8_init 130 = .ok (.putfield 59, 3) := by decide +kernel
theorem dX8_init_133 : decode cX8_init 133 = .ok (.aload_n 0, 1) := by decide +kernel
theorem dX8_init_134 : decode cX8_init 134 = .ok (.bipush 14, 2) := by decide +kernel
theorem dX8_init_136 : decode cX8_init 136 = .ok (.newarray .int, 2) := by decide +kernel
theorem dX8_init_138 : decode cX8_init 138 = .ok (.putfield 62, 3) := by decide +kernel
theorem dX8_init_141 : decode cX8_init 141 = .ok (.aload_n 0, 1) := by decide +kernel
theorem dX8_init_142 : decode cX8_init 142 = .ok (.sipush 7381, 3) := by decide +kernel
theorem dX8_init_145 : decode cX8_init 145 = .ok (.newarray .int, 2) := by decide +kernel
theorem dX8_init_147 : decode cX8_init 147 = .ok (.putfield 65, 3) := by decide +kernel
theorem dX8_init_150 : decode cX8_init 150 = .ok (.aload_n 0, 1) := by decide +kernel
theorem dX8_init_151 : decode cX8_init 151 = .ok (.sipush 7400, 3) := by decide +kernel
theorem dX8_init_154 : decode cX8_init 154 = .ok (.newarray .int, 2) := by decide +kernel
theorem dX8_init_156 : decode cX8_init 156 = .ok (.putfield 68, 3) := by decide +kernel
theorem dX8_init_159 : decode cX8_init 159 = .ok (.aload_n 0, 1) := by decide +kernel
theorem dX8_init_160 : decode cX8_init 160 = .ok (.sipush 7400, 3) := by decide +kernel
theorem dX8_init_163 : decode cX8_init 163 = .ok (.newarray .int, 2) := by decide +kernel
theorem dX8_init_165 : decode cX8_init 165 = .ok (.putfield 71, 3) := by decide +kernel
theorem dX8_init_168 : decode cX8_init 168 = .ok (.aload_n 0, 1) := by decide +kernel
theorem dX8_init_169 : decode cX8_init 169 = .ok (.sipush 7400, 3) := by decide +kernel
theorem dX8_init_172 : decode cX8_init 172 = .ok (.newarray .int, 2) := by decide +kernel
theorem dX8_init_174 : decode cX8_init 174 = .ok (.putfield 74, 3) := by decide +kernel
theorem dX8_init_177 : decode cX8_init 177 = .ok (.aload_n 0, 1) := by decide +kernel
theorem dX8_init_178 : decode cX8_init 178 = .ok (.sipush 7400, 3) := by decide +kernel
theorem dX8_init_181 : decode cX8_init 181 = .ok (.newarray .int, 2) := by decide +kernel
theorem dX8_init_183 : decode cX8_init 183 = .ok (.putfield 77, 3) := by decide +kernel
theorem dX8_init_186 : decode cX8_init 186 = .ok (.aload_n 0, 1) := by decide +kernel
theorem dX8_init_187 : decode cX8_init 187 = .ok (.invokevirtual 80, 3) := by decide +kernel
theorem dX8_init_190 : decode cX8_init 190 = .ok (.return_, 1) := by decide +kernel
theorem dX8_thrown_0 : decode cX8_thrown 0 = .ok (.aload_n 0, 1) := by decide +kernel
theorem dX8_thrown_1 : decode cX8_thrown 1 = .ok (.getfield 83, 3) := by decide +kernel
theorem dX8_thrown_4 : decode cX8_thrown 4 = .ok (.ireturn, 1) := by decide +kernel
theorem dX8_begin_0 : decode cX8_begin 0 = .ok (.aload_n 0, 1) := by decide +kernel
theorem dX8_begin_1 : decode cX8_begin 1 = .ok (.iconst 0, 1) := by decide +kernel
theorem dX8_begin_2 : decode cX8_begin 2 = .ok (.putfield 86, 3) := by decide +kernel
theorem dX8_begin_5 : decode cX8_begin 5 = .ok (.aload_n 0, 1) := by decide +kernel
theorem dX8_begin_6 : decode cX8_begin 6 = .ok (.iconst 0, 1) := by decide +kernel
theorem dX8_begin_7 : decode cX8_begin 7 = .ok (.putfield 89, 3) := by decide +kernel
theorem dX8_begin_10 : decode cX8_begin 10 = .ok (.aload_n 0, 1) := by decide +kernel
theorem dX8_begin_11 : decode cX8_begin 11 = .ok (.iconst (-1), 1) := by decide +kernel
theorem dX8_begin_12 : decode cX8_begin 12 = .ok (.putfield 28, 3) := by decide +kernel
theorem dX8_begin_15 : decode cX8_begin 15 = .ok (.aload_n 0, 1) := by decide +kernel
theorem dX8_begin_16 : decode cX8_begin 16 = .ok (.iconst (-1), 1) := by decide +kernel
theorem dX8_begin_17 : decode cX8_begin 17 = .ok (.putfield 32, 3) := by decide +kernel
theorem dX8_begin_20 : decode cX8_begin 20 = .ok (.aload_n 0, 1) := by decide +kernel
theorem dX8_begin_21 : decode cX8_begin 21 = .ok (.getfield 35, 3) := by decide +kernel
theorem dX8_begin_24 : decode cX8_begin 24 = .ok (.iconst 0, 1) := by decide +kernel
theorem dX8_begin_25 : decode cX8_begin 25 = .ok (.iconst 3, 1) := by decide +kernel
theorem dX8_begin_26 : decode cX8_begin 26 = .ok (.iastore, 1) := by decide +kernel
theorem dX8_begin_27 : decode cX8_begin 27 = .ok (.aload_n 0, 1) := by decide +kernel
theorem dX8_begin_28 : decode cX8_begin 28 = .ok (.getfield 35, 3) := by decide +kernel
theorem dX8_begin_31 : decode cX8_begin 31 = .ok (.iconst 1, 1) := by decide +kernel
theorem dX8_begin_32 : decode cX8_begin 32 = .ok (.iconst 2, 1) := by decide +kernel
theorem dX8_begin_33 : decode cX8_begin 33 = .ok (.iastore, 1) := by decide +kernel
theorem dX8_begin_34 : decode cX8_begin 34 = .ok (.aload_n 0, 1) := by decide +kernel
theorem dX8_begin_35 : decode cX8_begin 35 = .ok (.getfield 35, 3) := by decide +kernel
theorem dX8_begin_38 : decode cX8_begin 38 = .ok (.iconst 2, 1) := by decide +kernel
theorem dX8_begin_39 : decode cX8_begin 39 = .ok (.iconst 2, 1) := by decide +kernel
theorem dX8_begin_40 : decode cX8_begin 40 = .ok (.iastore, 1) := by decide +kernel
theorem dX8_begin_41 : decode cX8_begin 41 = .ok (.aload_n 0, 1) := by decide +kernel
theorem dX8_begin_42 : decode cX8_begin 42 = .ok (.getfield 35, 3) := by decide +kernel
theorem dX8_begin_45 : decode cX8_begin 45 = .ok (.iconst 3, 1) := by decide +kernel
theorem dX8_begin_46 : decode cX8_begin 46 = .ok (.iconst 1, 1) := by decide +kernel
theorem dX8_begin_47 : decode cX8_begin 47 = .ok (.iastore, 1) := by decide +kernel
theorem dX8_begin_48 : decode cX8_begin 48 = .ok (.aload_n 0, 1) := by decide +kernel
theorem dX8_begin_49 : decode cX8_begin 49 = .ok (.getfield 35, 3) := by decide +kernel
theorem dX8_begin_52 : decode cX8_begin 52 = .ok (.iconst 4, 1) := by decide +kernel
theorem dX8_begin_53 : decode cX8_begin 53 = .ok (.bipush 6, 2) := by decide +kernel
theorem dX8_begin_55 : decode cX8_begin 55 = .ok (.iastore, 1) := by decide +kernel
theorem dX8_begin_56 : decode cX8_begin 56 = .ok (.aload_n 0, 1) := by decide +kernel
theorem dX8_begin_57 : decode cX8_begin 57 = .ok (.bipush 8, 2) := by decide +kernel
theorem dX8_begin_59 : decode cX8_begin 59 = .ok (.putfield 92, 3) := by decide +kernel
theorem dX8_begin_62 : decode cX8_begin 62 = .ok (.aload_n 0, 1) := by decide +kernel
theorem dX8_begin_63 : decode cX8_begin 63 = .ok (.iconst 0, 1) := by decide +kernel
theorem dX8_begin_64 : decode cX8_begin 64 = .ok (.putfield 95, 3) := by decide +kernel
theorem dX8_begin_67 : decode cX8_begin 67 = .ok (.aload_n 0, 1) := by decide +kernel
theorem dX8_begin_68 : decode cX8_begin 68 = .ok (.invokevirtual 98, 3) := by decide +kernel
theorem dX8_begin_71 : decode cX8_begin 71 = .ok (.return_, 1) := by decide +kernel
theorem dX8_fresh_0 : decode cX8_fresh 0 = .ok (.aload_n 0, 1) := by decide +kernel
theorem dX8_fresh_1 : decode cX8_fresh 1 = .ok (.iconst 0, 1) := by decide +kernel
theorem dX8_fresh_2 : decode cX8_fresh 2 = .ok (.putfield 101, 3) := by decide +kernel
theorem dX8_fresh_5 : decode cX8_fresh 5 = .ok (.aload_n 0, 1) := by decide +kernel
theorem dX8_fresh_6 : decode cX8_fresh 6 = .ok (.iconst 0, 1) := by decide +kernel
theorem dX8_fresh_7 : decode cX8_fresh 7 = .ok (.putfield 104, 3) := by decide +kernel
theorem dX8_fresh_10 : decode cX8_fresh 10 = .ok (.aload_n 0, 1) := by decide +kernel
theorem dX8_fresh_11 : decode cX8_fresh 11 = .ok (.invokevirtual 108, 3) := by decide +kernel
theorem dX8_fresh_14 : decode cX8_fresh 14 = .ok (.return_, 1) := by decide +kernel
theorem dX8_clear_0 : decode cX8_clear 0 = .ok (.aload_n 0, 1) := by decide +kernel
theorem dX8_clear_1 : decode cX8_clear 1 = .ok (.iconst 0, 1) := by decide +kernel
theorem dX8_clear_2 : decode cX8_clear 2 = .ok (.putfield 83, 3) := by decide +kernel
theorem dX8_clear_5 : decode cX8_clear 5 = .ok (.aload_n 0, 1) := by decide +kernel
theorem dX8_clear_6 : decode cX8_clear 6 = .ok (.invokevirtual 80, 3) := by decide +kernel
theorem dX8_clear_9 : decode cX8_clear 9 = .ok (.return_, 1) := by decide +kernel
theorem dX8_isThere_0 : decode cX8_isThere 0 = .ok (.iload_n 1, 1) := by decide +kernel
theorem dX8_isThere_1 : decode cX8_isThere 1 = .ok (.ifCond .lt 38, 3) := by decide +kernel
theorem dX8_isThere_4 : decode cX8_isThere 4 = .ok (.iload_n 1, 1) := by decide +kernel
theorem dX8_isThere_5 : decode cX8_isThere 5 = .ok (.aload_n 0, 1) := by decide +kernel
theorem dX8_isThere_6 : decode cX8_isThere 6 = .ok (.getfield 86, 3) := by decide +kernel
theorem dX8_isThere_9 : decode cX8_isThere 9 = .ok (.if_icmp .ge 30, 3) := by decide +kernel
theorem dX8_isThere_12 : decode cX8_isThere 12 = .ok (.aload_n 0, 1) := by decide +kernel
theorem dX8_isThere_13 : decode cX8_isThere 13 = .ok (.getfield 28, 3) := by decide +kernel
theorem dX8_isThere_16 : decode cX8_isThere 16 = .ok (.ifCond .lt 19, 3) := by decide +kernel
theorem dX8_isThere_19 : decode cX8_isThere 19 = .ok (.iload_n 1, 1) := by decide +kernel
theorem dX8_isThere_20 : decode cX8_isThere 20 = .ok (.aload_n 0, 1) := by decide +kernel
theorem dX8_isThere_21 : decode cX8_isThere 21 = .ok (.getfield 28, 3) := by decide +kernel
theorem dX8_isThere_24 : decode cX8_isThere 24 = .ok (.if_icmp .lt 15, 3) := by decide +kernel
theorem dX8_isThere_27 : decode cX8_isThere 27 = .ok (.iload_n 1, 1) := by decide +kernel
theorem dX8_isThere_28 : decode cX8_isThere 28 = .ok (.aload_n 0, 1) := by decide +kernel
theorem dX8_isThere_29 : decode cX8_isThere 29 = .ok (.getfield 32, 3) := by decide +kernel
theorem dX8_isThere_32 : decode cX8_isThere 32 = .ok (.if_icmp .gt 7, 3) := by decide +kernel
theorem dX8_isThere_35 : decode cX8_isThere 35 = .ok (.iconst 1, 1) := by decide +kernel
theorem dX8_isThere_36 : decode cX8_isThere 36 = .ok (.goto 4, 3) := by decide +kernel
theorem dX8_isThere_39 : decode cX8_isThere 39 = .ok (.iconst 0, 1) := by decide +kernel
theorem dX8_isThere_40 : decode cX8_isThere 40 = .ok (.ireturn, 1) := by decide +kernel
theorem dX8_note_0 : decode cX8_note 0 = .ok (.aload_n 0, 1) := by decide +kernel
theorem dX8_note_1 : decode cX8_note 1 = .ok (.iconst 0, 1) := by decide +kernel
theorem dX8_note_2 : decode cX8_note 2 = .ok (.putfield 83, 3) := by decide +kernel
theorem dX8_note_5 : decode cX8_note 5 = .ok (.iload_n 1, 1) := by decide +kernel
theorem dX8_note_6 : decode cX8_note 6 = .ok (.ifCond .lt 41, 3) := by decide +kernel
theorem dX8_note_9 : decode cX8_note 9 = .ok (.iload_n 1, 1) := by decide +kernel
theorem dX8_note_10 : decode cX8_note 10 = .ok (.bipush 127, 2) := by decide +kernel
theorem dX8_note_12 : decode cX8_note 12 = .ok (.if_icmp .gt 35, 3) := by decide +kernel
theorem dX8_note_15 : decode cX8_note 15 = .ok (.iload_n 2, 1) := by decide +kernel
theorem dX8_note_16 : decode cX8_note 16 = .ok (.ifCond .lt 31, 3) := by decide +kernel
theorem dX8_note_19 : decode cX8_note 19 = .ok (.iload_n 2, 1) := by decide +kernel
theorem dX8_note_20 : decode cX8_note 20 = .ok (.ldc 111, 2) := by decide +kernel
theorem dX8_note_22 : decode cX8_note 22 = .ok (.if_icmp .gt 25, 3) := by decide +kernel
theorem dX8_note_25 : decode cX8_note 25 = .ok (.aload_n 0, 1) := by decide +kernel
theorem dX8_note_26 : decode cX8_note 26 = .ok (.getfield 86, 3) := by decide +kernel
theorem dX8_note_29 : decode cX8_note 29 = .ok (.ifCond .le 21, 3) := by decide +kernel
theorem dX8_note_32 : decode cX8_note 32 = .ok (.iload_n 2, 1) := by decide +kernel
theorem dX8_note_33 : decode cX8_note 33 = .ok (.aload_n 0, 1) := by decide +kernel
theorem dX8_note_34 : decode cX8_note 34 = .ok (.getfield 13, 3) := by decide +kernel
theorem dX8_note_37 : decode cX8_note 37 = .ok (.aload_n 0, 1) := by decide +kernel
theorem dX8_note_38 : decode cX8_note 38 = .ok (.getfield 86, 3) := by decide +kernel
theorem dX8_note_41 : decode cX8_note 41 = .ok (.iconst 1, 1) := by decide +kernel
theorem dX8_note_42 : decode cX8_note 42 = .ok (.isub, 1) := by decide +kernel
theorem dX8_note_43 : decode cX8_note 43 = .ok (.iaload, 1) := by decide +kernel
theorem dX8_note_44 : decode cX8_note 44 = .ok (.if_icmp .gt 6, 3) := by decide +kernel
theorem dX8_note_47 : decode cX8_note 47 = .ok (.bipush (-2), 2) := by decide +kernel
theorem dX8_note_49 : decode cX8_note 49 = .ok (.ireturn, 1) := by decide +kernel
theorem dX8_note_50 : decode cX8_note 50 = .ok (.aload_n 0, 1) := by decide +kernel
theorem dX8_note_51 : decode cX8_note 51 = .ok (.getfield 101, 3) := by decide +kernel
theorem dX8_note_54 : decode cX8_note 54 = .ok (.ifCond .gt 10, 3) := by decide +kernel
theorem dX8_note_57 : decode cX8_note 57 = .ok (.aload_n 0, 1) := by decide +kernel
theorem dX8_note_58 : decode cX8_note 58 = .ok (.getfield 28, 3) := by decide +kernel
theorem dX8_note_61 : decode cX8_note 61 = .ok (.ifCond .lt 6, 3) := by decide +kernel
theorem dX8_note_64 : decode cX8_note 64 = .ok (.bipush (-3), 2) := by decide +kernel
theorem dX8_note_66 : decode cX8_note 66 = .ok (.ireturn, 1) := by decide +kernel
theorem dX8_note_67 : decode cX8_note 67 = .ok (.aload_n 0, 1) := by decide +kernel
theorem dX8_note_68 : decode cX8_note 68 = .ok (.getfield 86, 3) := by decide +kernel
theorem dX8_note_71 : decode cX8_note 71 = .ok (.bipush 60, 2) := by decide +kernel
theorem dX8_note_73 : decode cX8_note 73 = .ok (.if_icmp .ne 6, 3) := by decide +kernel
theorem dX8_note_76 : decode cX8_note 76 = .ok (.bipush (-4), 2) := by decide +kernel
theorem dX8_note_78 : decode cX8_note 78 = .ok (.ireturn, 1) := by decide +kernel
theorem dX8_note_79 : decode cX8_note 79 = .ok (.aload_n 0, 1) := by decide +kernel
theorem dX8_note_80 : decode cX8_note 80 = .ok (.getfield 7, 3) := by decide +kernel
theorem dX8_note_83 : decode cX8_note 83 = .ok (.aload_n 0, 1) := by decide +kernel
theorem dX8_note_84 : decode cX8_note 84 = .ok (.getfield 86, 3) := by decide +kernel
theorem dX8_note_87 : decode cX8_note 87 = .ok (.iload_n 1, 1) := by decide +kernel
theorem dX8_note_88 : decode cX8_note 88 = .ok (.iastore, 1) := by decide +kernel
theorem dX8_note_89 : decode cX8_note 89 = .ok (.aload_n 0, 1) := by decide +kernel
theorem dX8_note_90 : decode cX8_note 90 = .ok (.getfield 13, 3) := by decide +kernel
theorem dX8_note_93 : decode cX8_note 93 = .ok (.aload_n 0, 1) := by decide +kernel
theorem dX8_note_94 : decode cX8_note 94 = .ok (.getfield 86, 3) := by decide +kernel
theorem dX8_note_97 : decode cX8_note 97 = .ok (.iload_n 2, 1) := by decide +kernel
theorem dX8_note_98 : decode cX8_note 98 = .ok (.iastore, 1) := by decide +kernel
theorem dX8_note_99 : decode cX8_note 99 = .ok (.aload_n 0, 1) := by decide +kernel
theorem dX8_note_100 : decode cX8_note 100 = .ok (.getfield 16, 3) := by decide +kernel
theorem dX8_note_103 : decode cX8_note 103 = .ok (.aload_n 0, 1) := by decide +kernel
theorem dX8_note_104 : decode cX8_note 104 = .ok (.getfield 86, 3) := by decide +kernel
theorem dX8_note_107 : decode cX8_note 107 = .ok (.iconst 0, 1) := by decide +kernel
theorem dX8_note_108 : decode cX8_note 108 = .ok (.iastore, 1) := by decide +kernel
theorem dX8_note_109 : decode cX8_note 109 = .ok (.aload_n 0, 1) := by decide +kernel
theorem dX8_note_110 : decode cX8_note 110 = .ok (.getfield 19, 3) := by decide +kernel
theorem dX8_note_113 : decode cX8_note 113 = .ok (.aload_n 0, 1) := by decide +kernel
theorem dX8_note_114 : decode cX8_note 114 = .ok (.getfield 86, 3) := by decide +kernel
theorem dX8_note_117 : decode cX8_note 117 = .ok (.iconst 0, 1) := by decide +kernel
theorem dX8_note_118 : decode cX8_note 118 = .ok (.iastore, 1) := by decide +kernel
theorem dX8_note_119 : decode cX8_note 119 = .ok (.aload_n 0, 1) := by decide +kernel
theorem dX8_note_120 : decode cX8_note 120 = .ok (.dup, 1) := by decide +kernel
theorem dX8_note_121 : decode cX8_note 121 = .ok (.getfield 86, 3) := by decide +kernel
theorem dX8_note_124 : decode cX8_note 124 = .ok (.iconst 1, 1) := by decide +kernel
theorem dX8_note_125 : decode cX8_note 125 = .ok (.iadd, 1) := by decide +kernel
theorem dX8_note_126 : decode cX8_note 126 = .ok (.putfield 86, 3) := by decide +kernel
theorem dX8_note_129 : decode cX8_note 129 = .ok (.aload_n 0, 1) := by decide +kernel
theorem dX8_note_130 : decode cX8_note 130 = .ok (.invokevirtual 108, 3) := by decide +kernel
theorem dX8_note_133 : decode cX8_note 133 = .ok (.aload_n 0, 1) := by decide +kernel
theorem dX8_note_134 : decode cX8_note 134 = .ok (.getfield 86, 3) := by decide +kernel
theorem dX8_note_137 : decode cX8_note 137 = .ok (.iconst 1, 1) := by decide +kernel
theorem dX8_note_138 : decode cX8_note 138 = .ok (.isub, 1) := by decide +kernel
theorem dX8_note_139 : decode cX8_note 139 = .ok (.ireturn, 1) := by decide +kernel
theorem dX8_way_0 : decode cX8_way 0 = .ok (.aload_n 0, 1) := by decide +kernel
theorem dX8_way_1 : decode cX8_way 1 = .ok (.iconst 0, 1) := by decide +kernel
theorem dX8_way_2 : decode cX8_way 2 = .ok (.putfield 83, 3) := by decide +kernel
theorem dX8_way_5 : decode cX8_way 5 = .ok (.iload_n 1, 1) := by decide +kernel
theorem dX8_way_6 : decode cX8_way 6 = .ok (.ifCond .lt 34, 3) := by decide +kernel
theorem dX8_way_9 : decode cX8_way 9 = .ok (.iload_n 1, 1) := by decide +kernel
theorem dX8_way_10 : decode cX8_way 10 = .ok (.aload_n 0, 1) := by decide +kernel
theorem dX8_way_11 : decode cX8_way 11 = .ok (.getfield 86, 3) := by decide +kernel
theorem dX8_way_14 : decode cX8_way 14 = .ok (.if_icmp .ge 26, 3) := by decide +kernel
theorem dX8_way_17 : decode cX8_way 17 = .ok (.iload_n 2, 1) := by decide +kernel
theorem dX8_way_18 : decode cX8_way 18 = .ok (.ifCond .lt 22, 3) := by decide +kernel
theorem dX8_way_21 : decode cX8_way 21 = .ok (.iload_n 2, 1) := by decide +kernel
theorem dX8_way_22 : decode cX8_way 22 = .ok (.aload_n 0, 1) := by decide +kernel
theorem dX8_way_23 : decode cX8_way 23 = .ok (.getfield 86, 3) := by decide +kernel
theorem dX8_way_26 : decode cX8_way 26 = .ok (.if_icmp .ge 14, 3) := by decide +kernel
theorem dX8_way_29 : decode cX8_way 29 = .ok (.iload_n 2, 1) := by decide +kernel
theorem dX8_way_30 : decode cX8_way 30 = .ok (.iload_n 1, 1) := by decide +kernel
theorem dX8_way_31 : decode cX8_way 31 = .ok (.iconst 1, 1) := by decide +kernel
theorem dX8_way_32 : decode cX8_way 32 = .ok (.iadd, 1) := by decide +kernel
theorem dX8_way_33 : decode cX8_way 33 = .ok (.if_icmp .eq 7, 3) := by decide +kernel
theorem dX8_way_36 : decode cX8_way 36 = .ok (.iconst 1, 1) := by decide +kernel
theorem dX8_way_37 : decode cX8_way 37 = .ok (.goto 4, 3) := by decide +kernel
theorem dX8_way_40 : decode cX8_way 40 = .ok (.iconst 0, 1) := by decide +kernel
theorem dX8_way_41 : decode cX8_way 41 = .ok (.istore_n 3, 1) := by decide +kernel
theorem dX8_way_42 : decode cX8_way 42 = .ok (.iconst 0, 1) := by decide +kernel
theorem dX8_way_43 : decode cX8_way 43 = .ok (.istore 4, 2) := by decide +kernel
theorem dX8_way_45 : decode cX8_way 45 = .ok (.iload 4, 2) := by decide +kernel
theorem dX8_way_47 : decode cX8_way 47 = .ok (.aload_n 0, 1) := by decide +kernel
theorem dX8_way_48 : decode cX8_way 48 = .ok (.getfield 89, 3) := by decide +kernel
theorem dX8_way_51 : decode cX8_way 51 = .ok (.if_icmp .ge 39, 3) := by decide +kernel
theorem dX8_way_54 : decode cX8_way 54 = .ok (.iload_n 3, 1) := by decide +kernel
theorem dX8_way_55 : decode cX8_way 55 = .ok (.aload_n 0, 1) := by decide +kernel
theorem dX8_way_56 : decode cX8_way 56 = .ok (.getfield 22, 3) := by decide +kernel
theorem dX8_way_59 : decode cX8_way 59 = .ok (.iload 4, 2) := by decide +kernel
theorem dX8_way_61 : decode cX8_way 61 = .ok (.iaload, 1) := by decide +kernel
theorem dX8_way_62 : decode cX8_way 62 = .ok (.iload_n 1, 1) := by decide +kernel
theorem dX8_way_63 : decode cX8_way 63 = .ok (.if_icmp .ne 14, 3) := by decide +kernel
theorem dX8_way_66 : decode cX8_way 66 = .ok (.aload_n 0, 1) := by decide +kernel
theorem dX8_way_67 : decode cX8_way 67 = .ok (.getfield 25, 3) := by decide +kernel
theorem dX8_way_70 : decode cX8_way 70 = .ok (.iload 4, 2) := by decide +kernel
theorem dX8_way_72 : decode cX8_way 72 = .ok (.iaload, 1) := by decide +kernel
theorem dX8_way_73 : decode cX8_way 73 = .ok (.iload_n 2, 1) := by decide +kernel
theorem dX8_way_74 : decode cX8_way 74 = .ok (.if_icmp .eq 7, 3) := by decide +kernel
theorem dX8_way_77 : decode cX8_way 77 = .ok (.iconst 1, 1) := by decide +kernel
theorem dX8_way_78 : decode cX8_way 78 = .ok (.goto 4, 3) := by decide +kernel
theorem dX8_way_81 : decode cX8_way 81 = .ok (.iconst 0, 1) := by decide +kernel
theorem dX8_way_82 : decode cX8_way 82 = .ok (.iand, 1) := by decide +kernel
theorem dX8_way_83 : decode cX8_way 83 = .ok (.istore_n 3, 1) := by decide +kernel
theorem dX8_way_84 : decode cX8_way 84 = .ok (.iinc 4 1, 3) := by decide +kernel
theorem dX8_way_87 : decode cX8_way 87 = .ok (.goto (-42), 3) := by decide +kernel
theorem dX8_way_90 : decode cX8_way 90 = .ok (.iload_n 3, 1) := by decide +kernel
theorem dX8_way_91 : decode cX8_way 91 = .ok (.ifCond .ne 6, 3) := by decide +kernel
theorem dX8_way_94 : decode cX8_way 94 = .ok (.bipush (-2), 2) := by decide +kernel
theorem dX8_way_96 : decode cX8_way 96 = .ok (.ireturn, 1) := by decide +kernel
theorem dX8_way_97 : decode cX8_way 97 = .ok (.aload_n 0, 1) := by decide +kernel
theorem dX8_way_98 : decode cX8_way 98 = .ok (.getfield 101, 3) := by decide +kernel
theorem dX8_way_101 : decode cX8_way 101 = .ok (.ifCond .le 6, 3) := by decide +kernel
theorem dX8_way_104 : decode cX8_way 104 = .ok (.bipush (-3), 2) := by decide +kernel
theorem dX8_way_106 : decode cX8_way 106 = .ok (.ireturn, 1) := by decide +kernel
theorem dX8_way_107 : decode cX8_way 107 = .ok (.aload_n 0, 1) := by decide +kernel
theorem dX8_way_108 : decode cX8_way 108 = .ok (.getfield 89, 3) := by decide +kernel
theorem dX8_way_111 : decode cX8_way 111 = .ok (.bipush 12, 2) := by decide +kernel
theorem dX8_way_113 : decode cX8_way 113 = .ok (.if_icmp .ne 6, 3) := by decide +kernel
theorem dX8_way_116 : decode cX8_way 116 = .ok (.bipush (-4), 2) := by decide +kernel
theorem dX8_way_118 : decode cX8_way 118 = .ok (.ireturn, 1) := by decide +kernel
theorem dX8_way_119 : decode cX8_way 119 = .ok (.aload_n 0, 1) := by decide +kernel
theorem dX8_way_120 : decode cX8_way 120 = .ok (.getfield 22, 3) := by decide +kernel
theorem dX8_way_123 : decode cX8_way 123 = .ok (.aload_n 0, 1) := by decide +kernel
theorem dX8_way_124 : decode cX8_way 124 = .ok (.getfield 89, 3) := by decide +kernel
theorem dX8_way_127 : decode cX8_way 127 = .ok (.iload_n 1, 1) := by decide +kernel
theorem dX8_way_128 : decode cX8_way 128 = .ok (.iastore, 1) := by decide +kernel
theorem dX8_way_129 : decode cX8_way 129 = .ok (.aload_n 0, 1) := by decide +kernel
theorem dX8_way_130 : decode cX8_way 130 = .ok (.getfield 25, 3) := by decide +kernel
theorem dX8_way_133 : decode cX8_way 133 = .ok (.aload_n 0, 1) := by decide +kernel
theorem dX8_way_134 : decode cX8_way 134 = .ok (.getfield 89, 3) := by decide +kernel
theorem dX8_way_137 : decode cX8_way 137 = .ok (.iload_n 2, 1) := by decide +kernel
theorem dX8_way_138 : decode cX8_way 138 = .ok (.iastore, 1) := by decide +kernel
theorem dX8_way_139 : decode cX8_way 139 = .ok (.aload_n 0, 1) := by decide +kernel
theorem dX8_way_140 : decode cX8_way 140 = .ok (.dup, 1) := by decide +kernel
theorem dX8_way_141 : decode cX8_way 141 = .ok (.getfield 89, 3) := by decide +kernel
theorem dX8_way_144 : decode cX8_way 144 = .ok (.iconst 1, 1) := by decide +kernel
theorem dX8_way_145 : decode cX8_way 145 = .ok (.iadd, 1) := by decide +kernel
theorem dX8_way_146 : decode cX8_way 146 = .ok (.putfield 89, 3) := by decide +kernel
theorem dX8_way_149 : decode cX8_way 149 = .ok (.aload_n 0, 1) := by decide +kernel
theorem dX8_way_150 : decode cX8_way 150 = .ok (.getfield 89, 3) := by decide +kernel
theorem dX8_way_153 : decode cX8_way 153 = .ok (.iconst 1, 1) := by decide +kernel
theorem dX8_way_154 : decode cX8_way 154 = .ok (.isub, 1) := by decide +kernel
theorem dX8_way_155 : decode cX8_way 155 = .ok (.ireturn, 1) := by decide +kernel
theorem dX8_loop_0 : decode cX8_loop 0 = .ok (.aload_n 0, 1) := by decide +kernel
theorem dX8_loop_1 : decode cX8_loop 1 = .ok (.iconst 0, 1) := by decide +kernel
theorem dX8_loop_2 : decode cX8_loop 2 = .ok (.putfield 83, 3) := by decide +kernel
theorem dX8_loop_5 : decode cX8_loop 5 = .ok (.iload_n 1, 1) := by decide +kernel
theorem dX8_loop_6 : decode cX8_loop 6 = .ok (.iconst (-1), 1) := by decide +kernel
theorem dX8_loop_7 : decode cX8_loop 7 = .ok (.if_icmp .eq 31, 3) := by decide +kernel
theorem dX8_loop_10 : decode cX8_loop 10 = .ok (.iload_n 1, 1) := by decide +kernel
theorem dX8_loop_11 : decode cX8_loop 11 = .ok (.ifCond .lt 24, 3) := by decide +kernel
theorem dX8_loop_14 : decode cX8_loop 14 = .ok (.iload_n 1, 1) := by decide +kernel
theorem dX8_loop_15 : decode cX8_loop 15 = .ok (.aload_n 0, 1) := by decide +kernel
theorem dX8_loop_16 : decode cX8_loop 16 = .ok (.getfield 86, 3) := by decide +kernel
theorem dX8_loop_19 : decode cX8_loop 19 = .ok (.if_icmp .ge 16, 3) := by decide +kernel
theorem dX8_loop_22 : decode cX8_loop 22 = .ok (.iload_n 2, 1) := by decide +kernel
theorem dX8_loop_23 : decode cX8_loop 23 = .ok (.iload_n 1, 1) := by decide +kernel
theorem dX8_loop_24 : decode cX8_loop 24 = .ok (.if_icmp .lt 11, 3) := by decide +kernel
theorem dX8_loop_27 : decode cX8_loop 27 = .ok (.iload_n 2, 1) := by decide +kernel
theorem dX8_loop_28 : decode cX8_loop 28 = .ok (.aload_n 0, 1) := by decide +kernel
theorem dX8_loop_29 : decode cX8_loop 29 = .ok (.getfield 86, 3) := by decide +kernel
theorem dX8_loop_32 : decode cX8_loop 32 = .ok (.if_icmp .lt 6, 3) := by decide +kernel
theorem dX8_loop_35 : decode cX8_loop 35 = .ok (.bipush (-2), 2) := by decide +kernel
theorem dX8_loop_37 : decode cX8_loop 37 = .ok (.ireturn, 1) := by decide +kernel
theorem dX8_loop_38 : decode cX8_loop 38 = .ok (.aload_n 0, 1) := by decide +kernel
theorem dX8_loop_39 : decode cX8_loop 39 = .ok (.getfield 101, 3) := by decide +kernel
theorem dX8_loop_42 : decode cX8_loop 42 = .ok (.ifCond .le 6, 3) := by decide +kernel
theorem dX8_loop_45 : decode cX8_loop 45 = .ok (.bipush (-3), 2) := by decide +kernel
theorem dX8_loop_47 : decode cX8_loop 47 = .ok (.ireturn, 1) := by decide +kernel
theorem dX8_loop_48 : decode cX8_loop 48 = .ok (.aload_n 0, 1) := by decide +kernel
theorem dX8_loop_49 : decode cX8_loop 49 = .ok (.getfield 28, 3) := by decide +kernel
theorem dX8_loop_52 : decode cX8_loop 52 = .ok (.ifCond .lt 7, 3) := by decide +kernel
theorem dX8_loop_55 : decode cX8_loop 55 = .ok (.iconst 1, 1) := by decide +kernel
theorem dX8_loop_56 : decode cX8_loop 56 = .ok (.goto 4, 3) := by decide +kernel
theorem dX8_loop_59 : decode cX8_loop 59 = .ok (.iconst 0, 1) := by decide +kernel
theorem dX8_loop_60 : decode cX8_loop 60 = .ok (.istore_n 3, 1) := by decide +kernel
theorem dX8_loop_61 : decode cX8_loop 61 = .ok (.aload_n 0, 1) := by decide +kernel
theorem dX8_loop_62 : decode cX8_loop 62 = .ok (.iload_n 1, 1) := by decide +kernel
theorem dX8_loop_63 : decode cX8_loop 63 = .ok (.putfield 28, 3) := by decide +kernel
theorem dX8_loop_66 : decode cX8_loop 66 = .ok (.aload_n 0, 1) := by decide +kernel
theorem dX8_loop_67 : decode cX8_loop 67 = .ok (.iload_n 1, 1) := by decide +kernel
theorem dX8_loop_68 : decode cX8_loop 68 = .ok (.ifCond .ge 7, 3) := by decide +kernel
theorem dX8_loop_71 : decode cX8_loop 71 = .ok (.iconst (-1), 1) := by decide +kernel
theorem dX8_loop_72 : decode cX8_loop 72 = .ok (.goto 4, 3) := by decide +kernel
theorem dX8_loop_75 : decode cX8_loop 75 = .ok (.iload_n 2, 1) := by decide +kernel
theorem dX8_loop_76 : decode cX8_loop 76 = .ok (.putfield 32, 3) := by decide +kernel
theorem dX8_loop_79 : decode cX8_loop 79 = .ok (.aload_n 0, 1) := by decide +kernel
theorem dX8_loop_80 : decode cX8_loop 80 = .ok (.invokevirtual 108, 3) := by decide +kernel
theorem dX8_loop_83 : decode cX8_loop 83 = .ok (.iload_n 3, 1) := by decide +kernel
theorem dX8_loop_84 : decode cX8_loop 84 = .ok (.ireturn, 1) := by decide +kernel
theorem dX8_cost_0 : decode cX8_cost 0 = .ok (.aload_n 0, 1) := by decide +kernel
theorem dX8_cost_1 : decode cX8_cost 1 = .ok (.iconst 0, 1) := by decide +kernel
theorem dX8_cost_2 : decode cX8_cost 2 = .ok (.putfield 83, 3) := by decide +kernel
theorem dX8_cost_5 : decode cX8_cost 5 = .ok (.iload_n 1, 1) := by decide +kernel
theorem dX8_cost_6 : decode cX8_cost 6 = .ok (.ifCond .lt 34, 3) := by decide +kernel
theorem dX8_cost_9 : decode cX8_cost 9 = .ok (.iload_n 1, 1) := by decide +kernel
theorem dX8_cost_10 : decode cX8_cost 10 = .ok (.iconst 4, 1) := by decide +kernel
theorem dX8_cost_11 : decode cX8_cost 11 = .ok (.if_icmp .gt 29, 3) := by decide +kernel
theorem dX8_cost_14 : decode cX8_cost 14 = .ok (.iload_n 2, 1) := by decide +kernel
theorem dX8_cost_15 : decode cX8_cost 15 = .ok (.iload_n 1, 1) := by decide +kernel
theorem dX8_cost_16 : decode cX8_cost 16 = .ok (.iconst 1, 1) := by decide +kernel
theorem dX8_cost_17 : decode cX8_cost 17 = .ok (.if_icmp .eq 8, 3) := by decide +kernel
theorem dX8_cost_20 : decode cX8_cost 20 = .ok (.iload_n 1, 1) := by decide +kernel
theorem dX8_cost_21 : decode cX8_cost 21 = .ok (.iconst 2, 1) := by decide +kernel
theorem dX8_cost_22 : decode cX8_cost 22 = .ok (.if_icmp .ne 7, 3) := by decide +kernel
theorem dX8_cost_25 : decode cX8_cost 25 = .ok (.iconst 1, 1) := by decide +kernel
theorem dX8_cost_26 : decode cX8_cost 26 = .ok (.goto 4, 3) := by decide +kernel
theorem dX8_cost_29 : decode cX8_cost 29 = .ok (.iconst 0, 1) := by decide +kernel
theorem dX8_cost_30 : decode cX8_cost 30 = .ok (.if_icmp .lt 10, 3) := by decide +kernel
theorem dX8_cost_33 : decode cX8_cost 33 = .ok (.iload_n 2, 1) := by decide +kernel
theorem dX8_cost_34 : decode cX8_cost 34 = .ok (.sipush 1000, 3) := by decide +kernel
theorem dX8_cost_37 : decode cX8_cost 37 = .ok (.if_icmp .le 6, 3) := by decide +kernel
theorem dX8_cost_40 : decode cX8_cost 40 = .ok (.bipush (-2), 2) := by decide +kernel
theorem dX8_cost_42 : decode cX8_cost 42 = .ok (.ireturn, 1) := by decide +kernel
theorem dX8_cost_43 : decode cX8_cost 43 = .ok (.aload_n 0, 1) := by decide +kernel
theorem dX8_cost_44 : decode cX8_cost 44 = .ok (.getfield 101, 3) := by decide +kernel
theorem dX8_cost_47 : decode cX8_cost 47 = .ok (.ifCond .le 6, 3) := by decide +kernel
theorem dX8_cost_50 : decode cX8_cost 50 = .ok (.bipush (-3), 2) := by decide +kernel
theorem dX8_cost_52 : decode cX8_cost 52 = .ok (.ireturn, 1) := by decide +kernel
theorem dX8_cost_53 : decode cX8_cost 53 = .ok (.aload_n 0, 1) := by decide +kernel
theorem dX8_cost_54 : decode cX8_cost 54 = .ok (.getfield 35, 3) := by decide +kernel
theorem dX8_cost_57 : decode cX8_cost 57 = .ok (.iload_n 1, 1) := by decide +kernel
theorem dX8_cost_58 : decode cX8_cost 58 = .ok (.iaload, 1) := by decide +kernel
theorem dX8_cost_59 : decode cX8_cost 59 = .ok (.istore_n 3, 1) := by decide +kernel
theorem dX8_cost_60 : decode cX8_cost 60 = .ok (.aload_n 0, 1) := by decide +kernel
theorem dX8_cost_61 : decode cX8_cost 61 = .ok (.getfield 35, 3) := by decide +kernel
theorem dX8_cost_64 : decode cX8_cost 64 = .ok (.iload_n 1, 1) := by decide +kernel
theorem dX8_cost_65 : decode cX8_cost 65 = .ok (.iload_n 2, 1) := by decide +kernel
theorem dX8_cost_66 : decode cX8_cost 66 = .ok (.iastore, 1) := by decide +kernel
theorem dX8_cost_67 : decode cX8_cost 67 = .ok (.iload_n 3, 1) := by decide +kernel
theorem dX8_cost_68 : decode cX8_cost 68 = .ok (.ireturn, 1) := by decide +kernel
theorem dX8_span_0 : decode cX8_span 0 = .ok (.aload_n 0, 1) := by decide +kernel
theorem dX8_span_1 : decode cX8_span 1 = .ok (.iconst 0, 1) := by decide +kernel
theorem dX8_span_2 : decode cX8_span 2 = .ok (.putfield 83, 3) := by decide +kernel
theorem dX8_span_5 : decode cX8_span 5 = .ok (.iload_n 1, 1) := by decide +kernel
theorem dX8_span_6 : decode cX8_span 6 = .ok (.ifCond .lt 9, 3) := by decide +kernel
theorem dX8_span_9 : decode cX8_span 9 = .ok (.iload_n 1, 1) := by decide +kernel
theorem dX8_span_10 : decode cX8_span 10 = .ok (.bipush 100, 2) := by decide +kernel
theorem dX8_span_12 : decode cX8_span 12 = .ok (.if_icmp .le 6, 3) := by decide +kernel
theorem dX8_span_15 : decode cX8_span 15 = .ok (.bipush (-2), 2) := by decide +kernel
theorem dX8_span_17 : decode cX8_span 17 = .ok (.ireturn, 1) := by decide +kernel
theorem dX8_span_18 : decode cX8_span 18 = .ok (.aload_n 0, 1) := by decide +kernel
theorem dX8_span_19 : decode cX8_span 19 = .ok (.getfield 101, 3) := by decide +kernel
theorem dX8_span_22 : decode cX8_span 22 = .ok (.ifCond .le 6, 3) := by decide +kernel
theorem dX8_span_25 : decode cX8_span 25 = .ok (.bipush (-3), 2) := by decide +kernel
theorem dX8_span_27 : decode cX8_span 27 = .ok (.ireturn, 1) := by decide +kernel
theorem dX8_span_28 : decode cX8_span 28 = .ok (.aload_n 0, 1) := by decide +kernel
theorem dX8_span_29 : decode cX8_span 29 = .ok (.getfield 92, 3) := by decide +kernel
theorem dX8_span_32 : decode cX8_span 32 = .ok (.istore_n 2, 1) := by decide +kernel
theorem dX8_span_33 : decode cX8_span 33 = .ok (.aload_n 0, 1) := by decide +kernel
theorem dX8_span_34 : decode cX8_span 34 = .ok (.iload_n 1, 1) := by decide +kernel
theorem dX8_span_35 : decode cX8_span 35 = .ok (.putfield 92, 3) := by decide +kernel
theorem dX8_span_38 : decode cX8_span 38 = .ok (.iload_n 2, 1) := by decide +kernel
theorem dX8_span_39 : decode cX8_span 39 = .ok (.ireturn, 1) := by decide +kernel
theorem dX8_nextsOf_0 : decode cX8_nextsOf 0 = .ok (.aload_n 0, 1) := by decide +kernel
theorem dX8_nextsOf_1 : decode cX8_nextsOf 1 = .ok (.iconst 0, 1) := by decide +kernel
theorem dX8_nextsOf_2 : decode cX8_nextsOf 2 = .ok (.putfield 112, 3) := by decide +kernel
theorem dX8_nextsOf_5 : decode cX8_nextsOf 5 = .ok (.iload_n 1, 1) := by decide +kernel
theorem dX8_nextsOf_6 : decode cX8_nextsOf 6 = .ok (.ifCond .lt 9, 3) := by decide +kernel
theorem dX8_nextsOf_9 : decode cX8_nextsOf 9 = .ok (.iload_n 1, 1) := by decide +kernel
theorem dX8_nextsOf_10 : decode cX8_nextsOf 10 = .ok (.iconst 1, 1) := by decide +kernel
theorem dX8_nextsOf_11 : decode cX8_nextsOf 11 = .ok (.iadd, 1) := by decide +kernel
theorem dX8_nextsOf_12 : decode cX8_nextsOf 12 = .ok (.goto 18, 3) := by decide +kernel
theorem dX8_nextsOf_15 : decode cX8_nextsOf 15 = .ok (.aload_n 0, 1) := by decide +kernel
theorem dX8_nextsOf_16 : decode cX8_nextsOf 16 = .ok (.getfield 28, 3) := by decide +kernel
theorem dX8_nextsOf_19 : decode cX8_nextsOf 19 = .ok (.ifCond .lt 10, 3) := by decide +kernel
theorem dX8_nextsOf_22 : decode cX8_nextsOf 22 = .ok (.aload_n 0, 1) := by decide +kernel
theorem dX8_nextsOf_23 : decode cX8_nextsOf 23 = .ok (.getfield 28, 3) := by decide +kernel
theorem dX8_nextsOf_26 : decode cX8_nextsOf 26 = .ok (.goto 4, 3) := by decide +kernel
theorem dX8_nextsOf_29 : decode cX8_nextsOf 29 = .ok (.iconst 0, 1) := by decide +kernel
theorem dX8_nextsOf_30 : decode cX8_nextsOf 30 = .ok (.istore_n 2, 1) := by decide +kernel
theorem dX8_nextsOf_31 : decode cX8_nextsOf 31 = .ok (.aload_n 0, 1) := by decide +kernel
theorem dX8_nextsOf_32 : decode cX8_nextsOf 32 = .ok (.iload_n 2, 1) := by decide +kernel
theorem dX8_nextsOf_33 : decode cX8_nextsOf 33 = .ok (.invokevirtual 115, 3) := by decide +kernel
theorem dX8_nextsOf_36 : decode cX8_nextsOf 36 = .ok (.ifCond .eq 9, 3) := by decide +kernel
theorem dX8_nextsOf_39 : decode cX8_nextsOf 39 = .ok (.aload_n 0, 1) := by decide +kernel
theorem dX8_nextsOf_40 : decode cX8_nextsOf 40 = .ok (.iload_n 2, 1) := by decide +kernel
theorem dX8_nextsOf_41 : decode cX8_nextsOf 41 = .ok (.iconst 0, 1) := by decide +kernel
theorem dX8_nextsOf_42 : decode cX8_nextsOf 42 = .ok (.invokevirtual 119, 3) := by decide +kernel
theorem dX8_nextsOf_45 : decode cX8_nextsOf 45 = .ok (.aload_n 0, 1) := by decide +kernel
theorem dX8_nextsOf_46 : decode cX8_nextsOf 46 = .ok (.getfield 28, 3) := by decide +kernel
theorem dX8_nextsOf_49 : decode cX8_nextsOf 49 = .ok (.ifCond .lt 20, 3) := by decide +kernel
theorem dX8_nextsOf_52 : decode cX8_nextsOf 52 = .ok (.iload_n 1, 1) := by decide +kernel
theorem dX8_nextsOf_53 : decode cX8_nextsOf 53 = .ok (.aload_n 0, 1) := by decide +kernel
theorem dX8_nextsOf_54 : decode cX8_nextsOf 54 = .ok (.getfield 32, 3) := by decide +kernel
theorem dX8_nextsOf_57 : decode cX8_nextsOf 57 = .ok (.if_icmp .ne 12, 3) := by decide +kernel
theorem dX8_nextsOf_60 : decode cX8_nextsOf 60 = .ok (.aload_n 0, 1) := by decide +kernel
theorem dX8_nextsOf_61 : decode cX8_nextsOf 61 = .ok (.aload_n 0, 1) := by decide +kernel
theorem dX8_nextsOf_62 : decode cX8_nextsOf 62 = .ok (.getfield 28, 3) := by decide +kernel
theorem dX8_nextsOf_65 : decode cX8_nextsOf 65 = .ok (.iconst 0, 1) := by decide +kernel
theorem dX8_nextsOf_66 : decode cX8_nextsOf 66 = .ok (.invokevirtual 119, 3) := by decide +kernel
theorem dX8_nextsOf_69 : decode cX8_nextsOf 69 = .ok (.iconst 0, 1) := by decide +kernel
theorem dX8_nextsOf_70 : decode cX8_nextsOf 70 = .ok (.istore_n 3, 1) := by decide +kernel
theorem dX8_nextsOf_71 : decode cX8_nextsOf 71 = .ok (.iload_n 3, 1) := by decide +kernel
theorem dX8_nextsOf_72 : decode cX8_nextsOf 72 = .ok (.aload_n 0, 1) := by decide +kernel
theorem dX8_nextsOf_73 : decode cX8_nextsOf 73 = .ok (.getfield 89, 3) := by decide +kernel
theorem dX8_nextsOf_76 : decode cX8_nextsOf 76 = .ok (.if_icmp .ge 56, 3) := by decide +kernel
theorem dX8_nextsOf_79 : decode cX8_nextsOf 79 = .ok (.aload_n 0, 1) := by decide +kernel
theorem dX8_nextsOf_80 : decode cX8_nextsOf 80 = .ok (.getfield 22, 3) := by decide +kernel
theorem dX8_nextsOf_83 : decode cX8_nextsOf 83 = .ok (.iload_n 3, 1) := by decide +kernel
theorem dX8_nextsOf_84 : decode cX8_nextsOf 84 = .ok (.iaload, 1) := by decide +kernel
theorem dX8_nextsOf_85 : decode cX8_nextsOf 85 = .ok (.iload_n 1, 1) := by decide +kernel
theorem dX8_nextsOf_86 : decode cX8_nextsOf 86 = .ok (.if_icmp .ne 40, 3) := by decide +kernel
theorem dX8_nextsOf_89 : decode cX8_nextsOf 89 = .ok (.aload_n 0, 1) := by decide +kernel
theorem dX8_nextsOf_90 : decode cX8_nextsOf 90 = .ok (.iload_n 1, 1) := by decide +kernel
theorem dX8_nextsOf_91 : decode cX8_nextsOf 91 = .ok (.invokevirtual 115, 3) := by decide +kernel
theorem dX8_nextsOf_94 : decode cX8_nextsOf 94 = .ok (.ifCond .eq 32, 3) := by decide +kernel
theorem dX8_nextsOf_97 : decode cX8_nextsOf 97 = .ok (.aload_n 0, 1) := by decide +kernel
theorem dX8_nextsOf_98 : decode cX8_nextsOf 98 = .ok (.aload_n 0, 1) := by decide +kernel
theorem dX8_nextsOf_99 : decode cX8_nextsOf 99 = .ok (.getfield 25, 3) := by decide +kernel
theorem dX8_nextsOf_102 : decode cX8_nextsOf 102 = .ok (.iload_n 3, 1) := by decide +kernel
theorem dX8_nextsOf_103 : decode cX8_nextsOf 103 = .ok (.iaload, 1) := by decide +kernel
theorem dX8_nextsOf_104 : decode cX8_nextsOf 104 = .ok (.invokevirtual 115, 3) := by decide +kernel
theorem dX8_nextsOf_107 : decode cX8_nextsOf 107 = .ok (.ifCond .eq 19, 3) := by decide +kernel
theorem dX8_nextsOf_110 : decode cX8_nextsOf 110 = .ok (.aload_n 0, 1) := by decide +kernel
theorem dX8_nextsOf_111 : decode cX8_nextsOf 111 = .ok (.aload_n 0, 1) := by decide +kernel
theorem dX8_nextsOf_112 : decode cX8_nextsOf 112 = .ok (.getfield 25, 3) := by decide +kernel
theorem dX8_nextsOf_115 : decode cX8_nextsOf 115 = .ok (.iload_n 3, 1) := by decide +kernel
theorem dX8_nextsOf_116 : decode cX8_nextsOf 116 = .ok (.iaload, 1) := by decide +kernel
theorem dX8_nextsOf_117 : decode cX8_nextsOf 117 = .ok (.aload_n 0, 1) := by decide +kernel
theorem dX8_nextsOf_118 : decode cX8_nextsOf 118 = .ok (.getfield 35, 3) := by decide +kernel
theorem dX8_nextsOf_121 : decode cX8_nextsOf 121 = .ok (.iconst 3, 1) := by decide +kernel
theorem dX8_nextsOf_122 : decode cX8_nextsOf 122 = .ok (.iaload, 1) := by decide +kernel
theorem dX8_nextsOf_123 : decode cX8_nextsOf 123 = .ok (.invokevirtual 119, 3) := by decide +kernel
theorem dX8_nextsOf_126 : decode cX8_nextsOf 126 = .ok (.iinc 3 1, 3) := by decide +kernel
theorem dX8_nextsOf_129 : decode cX8_nextsOf 129 = .ok (.goto (-58), 3) := by decide +kernel
theorem dX8_nextsOf_132 : decode cX8_nextsOf 132 = .ok (.return_, 1) := by decide +kernel
theorem dX8_lay_0 : decode cX8_lay 0 = .ok (.aload_n 0, 1) := by decide +kernel
theorem dX8_lay_1 : decode cX8_lay 1 = .ok (.getfield 59, 3) := by decide +kernel
theorem dX8_lay_4 : decode cX8_lay 4 = .ok (.aload_n 0, 1) := by decide +kernel
theorem dX8_lay_5 : decode cX8_lay 5 = .ok (.getfield 112, 3) := by decide +kernel
theorem dX8_lay_8 : decode cX8_lay 8 = .ok (.iload_n 1, 1) := by decide +kernel
theorem dX8_lay_9 : decode cX8_lay 9 = .ok (.iastore, 1) := by decide +kernel
theorem dX8_lay_10 : decode cX8_lay 10 = .ok (.aload_n 0, 1) := by decide +kernel
theorem dX8_lay_11 : decode cX8_lay 11 = .ok (.getfield 62, 3) := by decide +kernel
theorem dX8_lay_14 : decode cX8_lay 14 = .ok (.aload_n 0, 1) := by decide +kernel
theorem dX8_lay_15 : decode cX8_lay 15 = .ok (.getfield 112, 3) := by decide +kernel
theorem dX8_lay_18 : decode cX8_lay 18 = .ok (.iload_n 2, 1) := by decide +kernel
theorem dX8_lay_19 : decode cX8_lay 19 = .ok (.iastore, 1) := by decide +kernel
theorem dX8_lay_20 : decode cX8_lay 20 = .ok (.aload_n 0, 1) := by decide +kernel
theorem dX8_lay_21 : decode cX8_lay 21 = .ok (.dup, 1) := by decide +kernel
theorem dX8_lay_22 : decode cX8_lay 22 = .ok (.getfield 112, 3) := by decide +kernel
theorem dX8_lay_25 : decode cX8_lay 25 = .ok (.iconst 1, 1) := by decide +kernel
theorem dX8_lay_26 : decode cX8_lay 26 = .ok (.iadd, 1) := by decide +kernel
theorem dX8_lay_27 : decode cX8_lay 27 = .ok (.putfield 112, 3) := by decide +kernel
theorem dX8_lay_30 : decode cX8_lay 30 = .ok (.return_, 1) := by decide +kernel
theorem dX8_wrong_0 : decode cX8_wrong 0 = .ok (.aload_n 0, 1) := by decide +kernel
theorem dX8_wrong_1 : decode cX8_wrong 1 = .ok (.getfield 7, 3) := by decide +kernel
theorem dX8_wrong_4 : decode cX8_wrong 4 = .ok (.iload_n 1, 1) := by decide +kernel
theorem dX8_wrong_5 : decode cX8_wrong 5 = .ok (.iaload, 1) := by decide +kernel
theorem dX8_wrong_6 : decode cX8_wrong 6 = .ok (.aload_n 0, 1) := by decide +kernel
theorem dX8_wrong_7 : decode cX8_wrong 7 = .ok (.getfield 38, 3) := by decide +kernel
theorem dX8_wrong_10 : decode cX8_wrong 10 = .ok (.iload_n 2, 1) := by decide +kernel
theorem dX8_wrong_11 : decode cX8_wrong 11 = .ok (.iaload, 1) := by decide +kernel
theorem dX8_wrong_12 : decode cX8_wrong 12 = .ok (.if_icmp .eq 12, 3) := by decide +kernel
theorem dX8_wrong_15 : decode cX8_wrong 15 = .ok (.aload_n 0, 1) := by decide +kernel
theorem dX8_wrong_16 : decode cX8_wrong 16 = .ok (.getfield 35, 3) := by decide +kernel
theorem dX8_wrong_19 : decode cX8_wrong 19 = .ok (.iconst 0, 1) := by decide +kernel
theorem dX8_wrong_20 : decode cX8_wrong 20 = .ok (.iaload, 1) := by decide +kernel
theorem dX8_wrong_21 : decode cX8_wrong 21 = .ok (.goto 4, 3) := by decide +kernel
theorem dX8_wrong_24 : decode cX8_wrong 24 = .ok (.iconst 0, 1) := by decide +kernel
theorem dX8_wrong_25 : decode cX8_wrong 25 = .ok (.ireturn, 1) := by decide +kernel
theorem dX8_follow_0 : decode cX8_follow 0 = .ok (.iconst 0, 1) := by decide +kernel
theorem dX8_follow_1 : decode cX8_follow 1 = .ok (.istore_n 1, 1) := by decide +kernel
theorem dX8_follow_2 : decode cX8_follow 2 = .ok (.iload_n 1, 1) := by decide +kernel
theorem dX8_follow_3 : decode cX8_follow 3 = .ok (.bipush 61, 2) := by decide +kernel
theorem dX8_follow_5 : decode cX8_follow 5 = .ok (.if_icmp .ge 25, 3) := by decide +kernel
theorem dX8_follow_8 : decode cX8_follow 8 = .ok (.aload_n 0, 1) := by decide +kernel
theorem dX8_follow_9 : decode cX8_follow 9 = .ok (.getfield 44, 3) := by decide +kernel
theorem dX8_follow_12 : decode cX8_follow 12 = .ok (.iload_n 1, 1) := by decide +kernel
theorem dX8_follow_13 : decode cX8_follow 13 = .ok (.iload_n 1, 1) := by decide +kernel
theorem dX8_follow_14 : decode cX8_follow 14 = .ok (.ifCond .ne 7, 3) := by decide +kernel
theorem dX8_follow_17 : decode cX8_follow 17 = .ok (.iconst 0, 1) := by decide +kernel
theorem dX8_follow_18 : decode cX8_follow 18 = .ok (.goto 5, 3) := by decide +kernel
theorem dX8_follow_21 : decode cX8_follow 21 = .ok (.ldc 123, 2) := by decide +kernel
theorem dX8_follow_23 : decode cX8_follow 23 = .ok (.iastore, 1) := by decide +kernel
theorem dX8_follow_24 : decode cX8_follow 24 = .ok (.iinc 1 1, 3) := by decide +kernel
theorem dX8_follow_27 : decode cX8_follow 27 = .ok (.goto (-25), 3) := by decide +kernel
theorem dX8_follow_30 : decode cX8_follow 30 = .ok (.aload_n 0, 1) := by decide +kernel
theorem dX8_follow_31 : decode cX8_follow 31 = .ok (.iconst (-1), 1) := by decide +kernel
theorem dX8_follow_32 : decode cX8_follow 32 = .ok (.putfield 124, 3) := by decide +kernel
theorem dX8_follow_35 : decode cX8_follow 35 = .ok (.aload_n 0, 1) := by decide +kernel
theorem dX8_follow_36 : decode cX8_follow 36 = .ok (.iconst 0, 1) := by decide +kernel
theorem dX8_follow_37 : decode cX8_follow 37 = .ok (.putfield 127, 3) := by decide +kernel
theorem dX8_follow_40 : decode cX8_follow 40 = .ok (.iconst 0, 1) := by decide +kernel
theorem dX8_follow_41 : decode cX8_follow 41 = .ok (.istore_n 1, 1) := by decide +kernel
theorem dX8_follow_42 : decode cX8_follow 42 = .ok (.iload_n 1, 1) := by decide +kernel
theorem dX8_follow_43 : decode cX8_follow 43 = .ok (.aload_n 0, 1) := by decide +kernel
theorem dX8_follow_44 : decode cX8_follow 44 = .ok (.getfield 101, 3) := by decide +kernel
theorem dX8_follow_47 : decode cX8_follow 47 = .ok (.if_icmp .ge 14, 3) := by decide +kernel
theorem dX8_follow_50 : decode cX8_follow 50 = .ok (.aload_n 0, 1) := by decide +kernel
theorem dX8_follow_51 : decode cX8_follow 51 = .ok (.iload_n 1, 1) := by decide +kernel
theorem dX8_follow_52 : decode cX8_follow 52 = .ok (.invokevirtual 130, 3) := by decide +kernel
theorem dX8_follow_55 : decode cX8_follow 55 = .ok (.iinc 1 1, 3) := by decide +kernel
theorem dX8_follow_58 : decode cX8_follow 58 = .ok (.goto (-16), 3) := by decide +kernel
theorem dX8_follow_61 : decode cX8_follow 61 = .ok (.return_, 1) := by decide +kernel
theorem dX8_further_0 : decode cX8_further 0 = .ok (.aload_n 0, 1) := by decide +kernel
theorem dX8_further_1 : decode cX8_further 1 = .ok (.invokevirtual 134, 3) := by decide +kernel
theorem dX8_further_4 : decode cX8_further 4 = .ok (.aload_n 0, 1) := by decide +kernel
theorem dX8_further_5 : decode cX8_further 5 = .ok (.iload_n 1, 1) := by decide +kernel
theorem dX8_further_6 : decode cX8_further 6 = .ok (.invokevirtual 137, 3) := by decide +kernel
theorem dX8_further_9 : decode cX8_further 9 = .ok (.aload_n 0, 1) := by decide +kernel
theorem dX8_further_10 : decode cX8_further 10 = .ok (.invokevirtual 140, 3) := by decide +kernel
theorem dX8_further_13 : decode cX8_further 13 = .ok (.aload_n 0, 1) := by decide +kernel
theorem dX8_further_14 : decode cX8_further 14 = .ok (.iload_n 1, 1) := by decide +kernel
theorem dX8_further_15 : decode cX8_further 15 = .ok (.invokevirtual 143, 3) := by decide +kernel
theorem dX8_further_18 : decode cX8_further 18 = .ok (.return_, 1) := by decide +kernel
theorem dX8_pass_0 : decode cX8_pass 0 = .ok (.iconst 0, 1) := by decide +kernel
theorem dX8_pass_1 : decode cX8_pass 1 = .ok (.istore_n 1, 1) := by decide +kernel
theorem dX8_pass_2 : decode cX8_pass 2 = .ok (.iload_n 1, 1) := by decide +kernel
theorem dX8_pass_3 : decode cX8_pass 3 = .ok (.bipush 61, 2) := by decide +kernel
theorem dX8_pass_5 : decode cX8_pass 5 = .ok (.if_icmp .ge 21, 3) := by decide +kernel
theorem dX8_pass_8 : decode cX8_pass 8 = .ok (.aload_n 0, 1) := by decide +kernel
theorem dX8_pass_9 : decode cX8_pass 9 = .ok (.getfield 47, 3) := by decide +kernel
theorem dX8_pass_12 : decode cX8_pass 12 = .ok (.iload_n 1, 1) := by decide +kernel
theorem dX8_pass_13 : decode cX8_pass 13 = .ok (.aload_n 0, 1) := by decide +kernel
theorem dX8_pass_14 : decode cX8_pass 14 = .ok (.getfield 44, 3) := by decide +kernel
theorem dX8_pass_17 : decode cX8_pass 17 = .ok (.iload_n 1, 1) := by decide +kernel
theorem dX8_pass_18 : decode cX8_pass 18 = .ok (.iaload, 1) := by decide +kernel
theorem dX8_pass_19 : decode cX8_pass 19 = .ok (.iastore, 1) := by decide +kernel
theorem dX8_pass_20 : decode cX8_pass 20 = .ok (.iinc 1 1, 3) := by decide +kernel
theorem dX8_pass_23 : decode cX8_pass 23 = .ok (.goto (-21), 3) := by decide +kernel
theorem dX8_pass_26 : decode cX8_pass 26 = .ok (.iconst 1, 1) := by decide +kernel
theorem dX8_pass_27 : decode cX8_pass 27 = .ok (.istore_n 1, 1) := by decide +kernel
theorem dX8_pass_28 : decode cX8_pass 28 = .ok (.iload_n 1, 1) := by decide +kernel
theorem dX8_pass_29 : decode cX8_pass 29 = .ok (.ifCond .eq 117, 3) := by decide +kernel
theorem dX8_pass_32 : decode cX8_pass 32 = .ok (.iconst 0, 1) := by decide +kernel
theorem dX8_pass_33 : decode cX8_pass 33 = .ok (.istore_n 1, 1) := by decide +kernel
theorem dX8_pass_34 : decode cX8_pass 34 = .ok (.iconst (-1), 1) := by decide +kernel
theorem dX8_pass_35 : decode cX8_pass 35 = .ok (.istore_n 2, 1) := by decide +kernel
theorem dX8_pass_36 : decode cX8_pass 36 = .ok (.iload_n 2, 1) := by decide +kernel
theorem dX8_pass_37 : decode cX8_pass 37 = .ok (.aload_n 0, 1) := by decide +kernel
theorem dX8_pass_38 : decode cX8_pass 38 = .ok (.getfield 86, 3) := by decide +kernel
theorem dX8_pass_41 : decode cX8_pass 41 = .ok (.if_icmp .ge 102, 3) := by decide +kernel
theorem dX8_pass_44 : decode cX8_pass 44 = .ok (.aload_n 0, 1) := by decide +kernel
theorem dX8_pass_45 : decode cX8_pass 45 = .ok (.iload_n 2, 1) := by decide +kernel
theorem dX8_pass_46 : decode cX8_pass 46 = .ok (.invokevirtual 146, 3) := by decide +kernel
theorem dX8_pass_49 : decode cX8_pass 49 = .ok (.iconst 0, 1) := by decide +kernel
theorem dX8_pass_50 : decode cX8_pass 50 = .ok (.istore_n 3, 1) := by decide +kernel
theorem dX8_pass_51 : decode cX8_pass 51 = .ok (.iload_n 3, 1) := by decide +kernel
theorem dX8_pass_52 : decode cX8_pass 52 = .ok (.aload_n 0, 1) := by decide +kernel
theorem dX8_pass_53 : decode cX8_pass 53 = .ok (.getfield 112, 3) := by decide +kernel
theorem dX8_pass_56 : decode cX8_pass 56 = .ok (.if_icmp .ge 81, 3) := by decide +kernel
theorem dX8_pass_59 : decode cX8_pass 59 = .ok (.aload_n 0, 1) := by decide +kernel
theorem dX8_pass_60 : decode cX8_pass 60 = .ok (.getfield 47, 3) := by decide +kernel
theorem dX8_pass_63 : decode cX8_pass 63 = .ok (.iload_n 2, 1) := by decide +kernel
theorem dX8_pass_64 : decode cX8_pass 64 = .ok (.iconst 1, 1) := by decide +kernel
theorem dX8_pass_65 : decode cX8_pass 65 = .ok (.iadd, 1) := by decide +kernel
theorem dX8_pass_66 : decode cX8_pass 66 = .ok (.iaload, 1) := by decide +kernel
theorem dX8_pass_67 : decode cX8_pass 67 = .ok (.ldc 123, 2) := by decide +kernel
theorem dX8_pass_69 : decode cX8_pass 69 = .ok (.if_icmp .ge 68, 3) := by decide +kernel
theorem dX8_pass_72 : decode cX8_pass 72 = .ok (.aload_n 0, 1) := by decide +kernel
theorem dX8_pass_73 : decode cX8_pass 73 = .ok (.getfield 47, 3) := by decide +kernel
theorem dX8_pass_76 : decode cX8_pass 76 = .ok (.iload_n 2, 1) := by decide +kernel
theorem dX8_pass_77 : decode cX8_pass 77 = .ok (.iconst 1, 1) := by decide +kernel
theorem dX8_pass_78 : decode cX8_pass 78 = .ok (.iadd, 1) := by decide +kernel
theorem dX8_pass_79 : decode cX8_pass 79 = .ok (.iaload, 1) := by decide +kernel
theorem dX8_pass_80 : decode cX8_pass 80 = .ok (.aload_n 0, 1) := by decide +kernel
theorem dX8_pass_81 : decode cX8_pass 81 = .ok (.getfield 62, 3) := by decide +kernel
theorem dX8_pass_84 : decode cX8_pass 84 = .ok (.iload_n 3, 1) := by decide +kernel
theorem dX8_pass_85 : decode cX8_pass 85 = .ok (.iaload, 1) := by decide +kernel
theorem dX8_pass_86 : decode cX8_pass 86 = .ok (.iadd, 1) := by decide +kernel
theorem dX8_pass_87 : decode cX8_pass 87 = .ok (.aload_n 0, 1) := by decide +kernel
theorem dX8_pass_88 : decode cX8_pass 88 = .ok (.getfield 35, 3) := by decide +kernel
theorem dX8_pass_91 : decode cX8_pass 91 = .ok (.iconst 2, 1) := by decide +kernel
theorem dX8_pass_92 : decode cX8_pass 92 = .ok (.iaload, 1) := by decide +kernel
theorem dX8_pass_93 : decode cX8_pass 93 = .ok (.iadd, 1) := by decide +kernel
theorem dX8_pass_94 : decode cX8_pass 94 = .ok (.istore 4, 2) := by decide +kernel
theorem dX8_pass_96 : decode cX8_pass 96 = .ok (.iload 4, 2) := by decide +kernel
theorem dX8_pass_98 : decode cX8_pass 98 = .ok (.aload_n 0, 1) := by decide +kernel
theorem dX8_pass_99 : decode cX8_pass 99 = .ok (.getfield 47, 3) := by decide +kernel
theorem dX8_pass_102 : decode cX8_pass 102 = .ok (.aload_n 0, 1) := by decide +kernel
theorem dX8_pass_103 : decode cX8_pass 103 = .ok (.getfield 59, 3) := by decide +kernel
theorem dX8_pass_106 : decode cX8_pass 106 = .ok (.iload_n 3, 1) := by decide +kernel
theorem dX8_pass_107 : decode cX8_pass 107 = .ok (.iaload, 1) := by decide +kernel
theorem dX8_pass_108 : decode cX8_pass 108 = .ok (.iconst 1, 1) := by decide +kernel
theorem dX8_pass_109 : decode cX8_pass 109 = .ok (.iadd, 1) := by decide +kernel
theorem dX8_pass_110 : decode cX8_pass 110 = .ok (.iaload, 1) := by decide +kernel
theorem dX8_pass_111 : decode cX8_pass 111 = .ok (.if_icmp .ge 20, 3) := by decide +kernel
theorem dX8_pass_114 : decode cX8_pass 114 = .ok (.aload_n 0, 1) := by decide +kernel
theorem dX8_pass_115 : decode cX8_pass 115 = .ok (.getfield 47, 3) := by decide +kernel
theorem dX8_pass_118 : decode cX8_pass 118 = .ok (.aload_n 0, 1) := by decide +kernel
theorem dX8_pass_119 : decode cX8_pass 119 = .ok (.getfield 59, 3) := by decide +kernel
theorem dX8_pass_122 : decode cX8_pass 122 = .ok (.iload_n 3, 1) := by decide +kernel
theorem dX8_pass_123 : decode cX8_pass 123 = .ok (.iaload, 1) := by decide +kernel
theorem dX8_pass_124 : decode cX8_pass 124 = .ok (.iconst 1, 1) := by decide +kernel
theorem dX8_pass_125 : decode cX8_pass 125 = .ok (.iadd, 1) := by decide +kernel
theorem dX8_pass_126 : decode cX8_pass 126 = .ok (.iload 4, 2) := by decide +kernel
theorem dX8_pass_128 : decode cX8_pass 128 = .ok (.iastore, 1) := by decide +kernel
theorem dX8_pass_129 : decode cX8_pass 129 = .ok (.iconst 1, 1) := by decide +kernel
theorem dX8_pass_130 : decode cX8_pass 130 = .ok (.istore_n 1, 1) := by decide +kernel
theorem dX8_pass_131 : decode cX8_pass 131 = .ok (.iinc 3 1, 3) := by decide +kernel
theorem dX8_pass_134 : decode cX8_pass 134 = .ok (.goto (-83), 3) := by decide +kernel
theorem dX8_pass_137 : decode cX8_pass 137 = .ok (.iinc 2 1, 3) := by decide +kernel
theorem dX8_pass_140 : decode cX8_pass 140 = .ok (.goto (-104), 3) := by decide +kernel
theorem dX8_pass_143 : decode cX8_pass 143 = .ok (.goto (-115), 3) := by decide +kernel
theorem dX8_pass_146 : decode cX8_pass 146 = .ok (.return_, 1) := by decide +kernel
theorem dX8_take_0 : decode cX8_take 0 = .ok (.ldc 123, 2) := by decide +kernel
theorem dX8_take_2 : decode cX8_take 2 = .ok (.istore_n 2, 1) := by decide +kernel
theorem dX8_take_3 : decode cX8_take 3 = .ok (.iconst 0, 1) := by decide +kernel
theorem dX8_take_4 : decode cX8_take 4 = .ok (.istore_n 3, 1) := by decide +kernel
theorem dX8_take_5 : decode cX8_take 5 = .ok (.iload_n 3, 1) := by decide +kernel
theorem dX8_take_6 : decode cX8_take 6 = .ok (.bipush 61, 2) := by decide +kernel
theorem dX8_take_8 : decode cX8_take 8 = .ok (.if_icmp .ge 65, 3) := by decide +kernel
theorem dX8_take_11 : decode cX8_take 11 = .ok (.aload_n 0, 1) := by decide +kernel
theorem dX8_take_12 : decode cX8_take 12 = .ok (.getfield 47, 3) := by decide +kernel
theorem dX8_take_15 : decode cX8_take 15 = .ok (.iload_n 3, 1) := by decide +kernel
theorem dX8_take_16 : decode cX8_take 16 = .ok (.iaload, 1) := by decide +kernel
theorem dX8_take_17 : decode cX8_take 17 = .ok (.iload_n 2, 1) := by decide +kernel
theorem dX8_take_18 : decode cX8_take 18 = .ok (.if_icmp .ge 12, 3) := by decide +kernel
theorem dX8_take_21 : decode cX8_take 21 = .ok (.aload_n 0, 1) := by decide +kernel
theorem dX8_take_22 : decode cX8_take 22 = .ok (.getfield 47, 3) := by decide +kernel
theorem dX8_take_25 : decode cX8_take 25 = .ok (.iload_n 3, 1) := by decide +kernel
theorem dX8_take_26 : decode cX8_take 26 = .ok (.iaload, 1) := by decide +kernel
theorem dX8_take_27 : decode cX8_take 27 = .ok (.goto 4, 3) := by decide +kernel
theorem dX8_take_30 : decode cX8_take 30 = .ok (.iload_n 2, 1) := by decide +kernel
theorem dX8_take_31 : decode cX8_take 31 = .ok (.istore_n 2, 1) := by decide +kernel
theorem dX8_take_32 : decode cX8_take 32 = .ok (.aload_n 0, 1) := by decide +kernel
theorem dX8_take_33 : decode cX8_take 33 = .ok (.getfield 50, 3) := by decide +kernel
theorem dX8_take_36 : decode cX8_take 36 = .ok (.iload_n 3, 1) := by decide +kernel
theorem dX8_take_37 : decode cX8_take 37 = .ok (.aload_n 0, 1) := by decide +kernel
theorem dX8_take_38 : decode cX8_take 38 = .ok (.getfield 47, 3) := by decide +kernel
theorem dX8_take_41 : decode cX8_take 41 = .ok (.iload_n 3, 1) := by decide +kernel
theorem dX8_take_42 : decode cX8_take 42 = .ok (.iaload, 1) := by decide +kernel
theorem dX8_take_43 : decode cX8_take 43 = .ok (.ldc 123, 2) := by decide +kernel
theorem dX8_take_45 : decode cX8_take 45 = .ok (.if_icmp .ge 19, 3) := by decide +kernel
theorem dX8_take_48 : decode cX8_take 48 = .ok (.aload_n 0, 1) := by decide +kernel
theorem dX8_take_49 : decode cX8_take 49 = .ok (.getfield 47, 3) := by decide +kernel
theorem dX8_take_52 : decode cX8_take 52 = .ok (.iload_n 3, 1) := by decide +kernel
theorem dX8_take_53 : decode cX8_take 53 = .ok (.iaload, 1) := by decide +kernel
theorem dX8_take_54 : decode cX8_take 54 = .ok (.aload_n 0, 1) := by decide +kernel
theorem dX8_take_55 : decode cX8_take 55 = .ok (.getfield 35, 3) := by decide +kernel
theorem dX8_take_58 : decode cX8_take 58 = .ok (.iconst 1, 1) := by decide +kernel
theorem dX8_take_59 : decode cX8_take 59 = .ok (.iaload, 1) := by decide +kernel
theorem dX8_take_60 : decode cX8_take 60 = .ok (.iadd, 1) := by decide +kernel
theorem dX8_take_61 : decode cX8_take 61 = .ok (.goto 5, 3) := by decide +kernel
theorem dX8_take_64 : decode cX8_take 64 = .ok (.ldc 123, 2) := by decide +kernel
theorem dX8_take_66 : decode cX8_take 66 = .ok (.iastore, 1) := by decide +kernel
theorem dX8_take_67 : decode cX8_take 67 = .ok (.iinc 3 1, 3) := by decide +kernel
theorem dX8_take_70 : decode cX8_take 70 = .ok (.goto (-65), 3) := by decide +kernel
theorem dX8_take_73 : decode cX8_take 73 = .ok (.iconst 0, 1) := by decide +kernel
theorem dX8_take_74 : decode cX8_take 74 = .ok (.istore_n 3, 1) := by decide +kernel
theorem dX8_take_75 : decode cX8_take 75 = .ok (.iload_n 3, 1) := by decide +kernel
theorem dX8_take_76 : decode cX8_take 76 = .ok (.aload_n 0, 1) := by decide +kernel
theorem dX8_take_77 : decode cX8_take 77 = .ok (.getfield 86, 3) := by decide +kernel
theorem dX8_take_80 : decode cX8_take 80 = .ok (.if_icmp .ge 68, 3) := by decide +kernel
theorem dX8_take_83 : decode cX8_take 83 = .ok (.aload_n 0, 1) := by decide +kernel
theorem dX8_take_84 : decode cX8_take 84 = .ok (.iload_n 3, 1) := by decide +kernel
theorem dX8_take_85 : decode cX8_take 85 = .ok (.invokevirtual 115, 3) := by decide +kernel
theorem dX8_take_88 : decode cX8_take 88 = .ok (.ifCond .eq 54, 3) := by decide +kernel
theorem dX8_take_91 : decode cX8_take 91 = .ok (.iload_n 2, 1) := by decide +kernel
theorem dX8_take_92 : decode cX8_take 92 = .ok (.aload_n 0, 1) := by decide +kernel
theorem dX8_take_93 : decode cX8_take 93 = .ok (.getfield 35, 3) := by decide +kernel
theorem dX8_take_96 : decode cX8_take 96 = .ok (.iconst 4, 1) := by decide +kernel
theorem dX8_take_97 : decode cX8_take 97 = .ok (.iaload, 1) := by decide +kernel
theorem dX8_take_98 : decode cX8_take 98 = .ok (.iadd, 1) := by decide +kernel
theorem dX8_take_99 : decode cX8_take 99 = .ok (.aload_n 0, 1) := by decide +kernel
theorem dX8_take_100 : decode cX8_take 100 = .ok (.iload_n 3, 1) := by decide +kernel
theorem dX8_take_101 : decode cX8_take 101 = .ok (.iload_n 1, 1) := by decide +kernel
theorem dX8_take_102 : decode cX8_take 102 = .ok (.invokevirtual 149, 3) := by decide +kernel
theorem dX8_take_105 : decode cX8_take 105 = .ok (.iadd, 1) := by decide +kernel
theorem dX8_take_106 : decode cX8_take 106 = .ok (.istore 4, 2) := by decide +kernel
theorem dX8_take_108 : decode cX8_take 108 = .ok (.aload_n 0, 1) := by decide +kernel
theorem dX8_take_109 : decode cX8_take 109 = .ok (.getfield 50, 3) := by decide +kernel
theorem dX8_take_112 : decode cX8_take 112 = .ok (.iload_n 3, 1) := by decide +kernel
theorem dX8_take_113 : decode cX8_take 113 = .ok (.iconst 1, 1) := by decide +kernel
theorem dX8_take_114 : decode cX8_take 114 = .ok (.iadd, 1) := by decide +kernel
theorem dX8_take_115 : decode cX8_take 115 = .ok (.iload 4, 2) := by decide +kernel
theorem dX8_take_117 : decode cX8_take 117 = .ok (.aload_n 0, 1) := by decide +kernel
theorem dX8_take_118 : decode cX8_take 118 = .ok (.getfield 50, 3) := by decide +kernel
theorem dX8_take_121 : decode cX8_take 121 = .ok (.iload_n 3, 1) := by decide +kernel
theorem dX8_take_122 : decode cX8_take 122 = .ok (.iconst 1, 1) := by decide +kernel
theorem dX8_take_123 : decode cX8_take 123 = .ok (.iadd, 1) := by decide +kernel
theorem dX8_take_124 : decode cX8_take 124 = .ok (.iaload, 1) := by decide +kernel
theorem dX8_take_125 : decode cX8_take 125 = .ok (.if_icmp .ge 8, 3) := by decide +kernel
theorem dX8_take_128 : decode cX8_take 128 = .ok (.iload 4, 2) := by decide +kernel
theorem dX8_take_130 : decode cX8_take 130 = .ok (.goto 11, 3) := by decide +kernel
theorem dX8_take_133 : decode cX8_take 133 = .ok (.aload_n 0, 1) := by decide +kernel
theorem dX8_take_134 : decode cX8_take 134 = .ok (.getfield 50, 3) := by decide +kernel
theorem dX8_take_137 : decode cX8_take 137 = .ok (.iload_n 3, 1) := by decide +kernel
theorem dX8_take_138 : decode cX8_take 138 = .ok (.iconst 1, 1) := by decide +kernel
theorem dX8_take_139 : decode cX8_take 139 = .ok (.iadd, 1) := by decide +kernel
theorem dX8_take_140 : decode cX8_take 140 = .ok (.iaload, 1) := by decide +kernel
theorem dX8_take_141 : decode cX8_take 141 = .ok (.iastore, 1) := by decide +kernel
theorem dX8_take_142 : decode cX8_take 142 = .ok (.iinc 3 1, 3) := by decide +kernel
theorem dX8_take_145 : decode cX8_take 145 = .ok (.goto (-70), 3) := by decide +kernel
theorem dX8_take_148 : decode cX8_take 148 = .ok (.iconst (-1), 1) := by decide +kernel
theorem dX8_take_149 : decode cX8_take 149 = .ok (.istore_n 3, 1) := by decide +kernel
theorem dX8_take_150 : decode cX8_take 150 = .ok (.iload_n 3, 1) := by decide +kernel
theorem dX8_take_151 : decode cX8_take 151 = .ok (.aload_n 0, 1) := by decide +kernel
theorem dX8_take_152 : decode cX8_take 152 = .ok (.getfield 86, 3) := by decide +kernel
theorem dX8_take_155 : decode cX8_take 155 = .ok (.if_icmp .ge 128, 3) := by decide +kernel
theorem dX8_take_158 : decode cX8_take 158 = .ok (.aload_n 0, 1) := by decide +kernel
theorem dX8_take_159 : decode cX8_take 159 = .ok (.iload_n 3, 1) := by decide +kernel
theorem dX8_take_160 : decode cX8_take 160 = .ok (.invokevirtual 146, 3) := by decide +kernel
theorem dX8_take_163 : decode cX8_take 163 = .ok (.iconst 0, 1) := by decide +kernel
theorem dX8_take_164 : decode cX8_take 164 = .ok (.istore 4, 2) := by decide +kernel
theorem dX8_take_166 : decode cX8_take 166 = .ok (.iload 4, 2) := by decide +kernel
theorem dX8_take_168 : decode cX8_take 168 = .ok (.aload_n 0, 1) := by decide +kernel
theorem dX8_take_169 : decode cX8_take 169 = .ok (.getfield 112, 3) := by decide +kernel
theorem dX8_take_172 : decode cX8_take 172 = .ok (.if_icmp .ge 105, 3) := by decide +kernel
theorem dX8_take_175 : decode cX8_take 175 = .ok (.aload_n 0, 1) := by decide +kernel
theorem dX8_take_176 : decode cX8_take 176 = .ok (.getfield 47, 3) := by decide +kernel
theorem dX8_take_179 : decode cX8_take 179 = .ok (.iload_n 3, 1) := by decide +kernel
theorem dX8_take_180 : decode cX8_take 180 = .ok (.iconst 1, 1) := by decide +kernel
theorem dX8_take_181 : decode cX8_take 181 = .ok (.iadd, 1) := by decide +kernel
theorem dX8_take_182 : decode cX8_take 182 = .ok (.iaload, 1) := by decide +kernel
theorem dX8_take_183 : decode cX8_take 183 = .ok (.ldc 123, 2) := by decide +kernel
theorem dX8_take_185 : decode cX8_take 185 = .ok (.if_icmp .ge 92, 3) := by decide +kernel
theorem dX8_take_188 : decode cX8_take 188 = .ok (.aload_n 0, 1) := by decide +kernel
theorem dX8_take_189 : decode cX8_take 189 = .ok (.getfield 47, 3) := by decide +kernel
theorem dX8_take_192 : decode cX8_take 192 = .ok (.iload_n 3, 1) := by decide +kernel
theorem dX8_take_193 : decode cX8_take 193 = .ok (.iconst 1, 1) := by decide +kernel
theorem dX8_take_194 : decode cX8_take 194 = .ok (.iadd, 1) := by decide +kernel
theorem dX8_take_195 : decode cX8_take 195 = .ok (.iaload, 1) := by decide +kernel
theorem dX8_take_196 : decode cX8_take 196 = .ok (.aload_n 0, 1) := by decide +kernel
theorem dX8_take_197 : decode cX8_take 197 = .ok (.getfield 62, 3) := by decide +kernel
theorem dX8_take_200 : decode cX8_take 200 = .ok (.iload 4, 2) := by decide +kernel
theorem dX8_take_202 : decode cX8_take 202 = .ok (.iaload, 1) := by decide +kernel
theorem dX8_take_203 : decode cX8_take 203 = .ok (.iadd, 1) := by decide +kernel
theorem dX8_take_204 : decode cX8_take 204 = .ok (.aload_n 0, 1) := by decide +kernel
theorem dX8_take_205 : decode cX8_take 205 = .ok (.aload_n 0, 1) := by decide +kernel
theorem dX8_take_206 : decode cX8_take 206 = .ok (.getfield 59, 3) := by decide +kernel
theorem dX8_take_209 : decode cX8_take 209 = .ok (.iload 4, 2) := by decide +kernel
theorem dX8_take_211 : decode cX8_take 211 = .ok (.iaload, 1) := by decide +kernel
theorem dX8_take_212 : decode cX8_take 212 = .ok (.iload_n 1, 1) := by decide +kernel
theorem dX8_take_213 : decode cX8_take 213 = .ok (.invokevirtual 149, 3) := by decide +kernel
theorem dX8_take_216 : decode cX8_take 216 = .ok (.iadd, 1) := by decide +kernel
theorem dX8_take_217 : decode cX8_take 217 = .ok (.istore 5, 2) := by decide +kernel
theorem dX8_take_219 : decode cX8_take 219 = .ok (.aload_n 0, 1) := by decide +kernel
theorem dX8_take_220 : decode cX8_take 220 = .ok (.getfield 50, 3) := by decide +kernel
theorem dX8_take_223 : decode cX8_take 223 = .ok (.aload_n 0, 1) := by decide +kernel
theorem dX8_take_224 : decode cX8_take 224 = .ok (.getfield 59, 3) := by decide +kernel
theorem dX8_take_227 : decode cX8_take 227 = .ok (.iload 4, 2) := by decide +kernel
theorem dX8_take_229 : decode cX8_take 229 = .ok (.iaload, 1) := by decide +kernel
theorem dX8_take_230 : decode cX8_take 230 = .ok (.iconst 1, 1) := by decide +kernel
theorem dX8_take_231 : decode cX8_take 231 = .ok (.iadd, 1) := by decide +kernel
theorem dX8_take_232 : decode cX8_take 232 = .ok (.iload 5, 2) := by decide +kernel
theorem dX8_take_234 : decode cX8_take 234 = .ok (.aload_n 0, 1) := by decide +kernel
theorem dX8_take_235 : decode cX8_take 235 = .ok (.getfield 50, 3) := by decide +kernel
theorem dX8_take_238 : decode cX8_take 238 = .ok (.aload_n 0, 1) := by decide +kernel
theorem dX8_take_239 : decode cX8_take 239 = .ok (.getfield 59, 3) := by decide +kernel
theorem dX8_take_242 : decode cX8_take 242 = .ok (.iload 4, 2) := by decide +kernel
theorem dX8_take_244 : decode cX8_take 244 = .ok (.iaload, 1) := by decide +kernel
theorem dX8_take_245 : decode cX8_take 245 = .ok (.iconst 1, 1) := by decide +kernel
theorem dX8_take_246 : decode cX8_take 246 = .ok (.iadd, 1) := by decide +kernel
theorem dX8_take_247 : decode cX8_take 247 = .ok (.iaload, 1) := by decide +kernel
theorem dX8_take_248 : decode cX8_take 248 = .ok (.if_icmp .ge 8, 3) := by decide +kernel
theorem dX8_take_251 : decode cX8_take 251 = .ok (.iload 5, 2) := by decide +kernel
theorem dX8_take_253 : decode cX8_take 253 = .ok (.goto 17, 3) := by decide +kernel
theorem dX8_take_256 : decode cX8_take 256 = .ok (.aload_n 0, 1) := by decide +kernel
theorem dX8_take_257 : decode cX8_take 257 = .ok (.getfield 50, 3) := by decide +kernel
theorem dX8_take_260 : decode cX8_take 260 = .ok (.aload_n 0, 1) := by decide +kernel
theorem dX8_take_261 : decode cX8_take 261 = .ok (.getfield 59, 3) := by decide +kernel
theorem dX8_take_264 : decode cX8_take 264 = .ok (.iload 4, 2) := by decide +kernel
theorem dX8_take_266 : decode cX8_take 266 = .ok (.iaload, 1) := by decide +kernel
theorem dX8_take_267 : decode cX8_take 267 = .ok (.iconst 1, 1) := by decide +kernel
theorem dX8_take_268 : decode cX8_take 268 = .ok (.iadd, 1) := by decide +kernel
theorem dX8_take_269 : decode cX8_take 269 = .ok (.iaload, 1) := by decide +kernel
theorem dX8_take_270 : decode cX8_take 270 = .ok (.iastore, 1) := by decide +kernel
theorem dX8_take_271 : decode cX8_take 271 = .ok (.iinc 4 1, 3) := by decide +kernel
theorem dX8_take_274 : decode cX8_take 274 = .ok (.goto (-108), 3) := by decide +kernel
theorem dX8_take_277 : decode cX8_take 277 = .ok (.iinc 3 1, 3) := by decide +kernel
theorem dX8_take_280 : decode cX8_take 280 = .ok (.goto (-130), 3) := by decide +kernel
theorem dX8_take_283 : decode cX8_take 283 = .ok (.iconst 0, 1) := by decide +kernel
theorem dX8_take_284 : decode cX8_take 284 = .ok (.istore_n 3, 1) := by decide +kernel
theorem dX8_take_285 : decode cX8_take 285 = .ok (.iload_n 3, 1) := by decide +kernel
theorem dX8_take_286 : decode cX8_take 286 = .ok (.bipush 61, 2) := by decide +kernel
theorem dX8_take_288 : decode cX8_take 288 = .ok (.if_icmp .ge 21, 3) := by decide +kernel
theorem dX8_take_291 : decode cX8_take 291 = .ok (.aload_n 0, 1) := by decide +kernel
theorem dX8_take_292 : decode cX8_take 292 = .ok (.getfield 44, 3) := by decide +kernel
theorem dX8_take_295 : decode cX8_take 295 = .ok (.iload_n 3, 1) := by decide +kernel
theorem dX8_take_296 : decode cX8_take 296 = .ok (.aload_n 0, 1) := by decide +kernel
theorem dX8_take_297 : decode cX8_take 297 = .ok (.getfield 50, 3) := by decide +kernel
theorem dX8_take_300 : decode cX8_take 300 = .ok (.iload_n 3, 1) := by decide +kernel
theorem dX8_take_301 : decode cX8_take 301 = .ok (.iaload, 1) := by decide +kernel
theorem dX8_take_302 : decode cX8_take 302 = .ok (.iastore, 1) := by decide +kernel
theorem dX8_take_303 : decode cX8_take 303 = .ok (.iinc 3 1, 3) := by decide +kernel
theorem dX8_take_306 : decode cX8_take 306 = .ok (.goto (-21), 3) := by decide +kernel
theorem dX8_take_309 : decode cX8_take 309 = .ok (.return_, 1) := by decide +kernel
theorem dX8_choose_0 : decode cX8_choose 0 = .ok (.aload_n 0, 1) := by decide +kernel
theorem dX8_choose_1 : decode cX8_choose 1 = .ok (.getfield 124, 3) := by decide +kernel
theorem dX8_choose_4 : decode cX8_choose 4 = .ok (.iconst 1, 1) := by decide +kernel
theorem dX8_choose_5 : decode cX8_choose 5 = .ok (.iadd, 1) := by decide +kernel
theorem dX8_choose_6 : decode cX8_choose 6 = .ok (.istore_n 1, 1) := by decide +kernel
theorem dX8_choose_7 : decode cX8_choose 7 = .ok (.bipush (-2), 2) := by decide +kernel
theorem dX8_choose_9 : decode cX8_choose 9 = .ok (.istore_n 2, 1) := by decide +kernel
theorem dX8_choose_10 : decode cX8_choose 10 = .ok (.iconst (-1), 1) := by decide +kernel
theorem dX8_choose_11 : decode cX8_choose 11 = .ok (.istore_n 3, 1) := by decide +kernel
theorem dX8_choose_12 : decode cX8_choose 12 = .ok (.iload_n 3, 1) := by decide +kernel
theorem dX8_choose_13 : decode cX8_choose 13 = .ok (.aload_n 0, 1) := by decide +kernel
theorem dX8_choose_14 : decode cX8_choose 14 = .ok (.getfield 86, 3) := by decide +kernel
theorem dX8_choose_17 : decode cX8_choose 17 = .ok (.if_icmp .ge 106, 3) := by decide +kernel
theorem dX8_choose_20 : decode cX8_choose 20 = .ok (.iload_n 3, 1) := by decide +kernel
theorem dX8_choose_21 : decode cX8_choose 21 = .ok (.iload_n 1, 1) := by decide +kernel
theorem dX8_choose_22 : decode cX8_choose 22 = .ok (.if_icmp .le 9, 3) := by decide +kernel
theorem dX8_choose_25 : decode cX8_choose 25 = .ok (.iload_n 3, 1) := by decide +kernel
theorem dX8_choose_26 : decode cX8_choose 26 = .ok (.iload_n 1, 1) := by decide +kernel
theorem dX8_choose_27 : decode cX8_choose 27 = .ok (.isub, 1) := by decide +kernel
theorem dX8_choose_28 : decode cX8_choose 28 = .ok (.goto 6, 3) := by decide +kernel
theorem dX8_choose_31 : decode cX8_choose 31 = .ok (.iload_n 1, 1) := by decide +kernel
theorem dX8_choose_32 : decode cX8_choose 32 = .ok (.iload_n 3, 1) := by decide +kernel
theorem dX8_choose_33 : decode cX8_choose 33 = .ok (.isub, 1) := by decide +kernel
theorem dX8_choose_34 : decode cX8_choose 34 = .ok (.istore 4, 2) := by decide +kernel
theorem dX8_choose_36 : decode cX8_choose 36 = .ok (.iload_n 2, 1) := by decide +kernel
theorem dX8_choose_37 : decode cX8_choose 37 = .ok (.iload_n 1, 1) := by decide +kernel
theorem dX8_choose_38 : decode cX8_choose 38 = .ok (.if_icmp .le 9, 3) := by decide +kernel
theorem dX8_choose_41 : decode cX8_choose 41 = .ok (.iload_n 2, 1) := by decide +kernel
theorem dX8_choose_42 : decode cX8_choose 42 = .ok (.iload_n 1, 1) := by decide +kernel
theorem dX8_choose_43 : decode cX8_choose 43 = .ok (.isub, 1) := by decide +kernel
theorem dX8_choose_44 : decode cX8_choose 44 = .ok (.goto 6, 3) := by decide +kernel
theorem dX8_choose_47 : decode cX8_choose 47 = .ok (.iload_n 1, 1) := by decide +kernel
theorem dX8_choose_48 : decode cX8_choose 48 = .ok (.iload_n 2, 1) := by decide +kernel
theorem dX8_choose_49 : decode cX8_choose 49 = .ok (.isub, 1) := by decide +kernel
theorem dX8_choose_50 : decode cX8_choose 50 = .ok (.istore 5, 2) := by decide +kernel
theorem dX8_choose_52 : decode cX8_choose 52 = .ok (.aload_n 0, 1) := by decide +kernel
theorem dX8_choose_53 : decode cX8_choose 53 = .ok (.getfield 44, 3) := by decide +kernel
theorem dX8_choose_56 : decode cX8_choose 56 = .ok (.iload_n 3, 1) := by decide +kernel
theorem dX8_choose_57 : decode cX8_choose 57 = .ok (.iconst 1, 1) := by decide +kernel
theorem dX8_choose_58 : decode cX8_choose 58 = .ok (.iadd, 1) := by decide +kernel
theorem dX8_choose_59 : decode cX8_choose 59 = .ok (.iaload, 1) := by decide +kernel
theorem dX8_choose_60 : decode cX8_choose 60 = .ok (.ldc 123, 2) := by decide +kernel
theorem dX8_choose_62 : decode cX8_choose 62 = .ok (.if_icmp .ge 55, 3) := by decide +kernel
theorem dX8_choose_65 : decode cX8_choose 65 = .ok (.iload_n 2, 1) := by decide +kernel
theorem dX8_choose_66 : decode cX8_choose 66 = .ok (.iconst (-1), 1) := by decide +kernel
theorem dX8_choose_67 : decode cX8_choose 67 = .ok (.if_icmp .lt 48, 3) := by decide +kernel
theorem dX8_choose_70 : decode cX8_choose 70 = .ok (.aload_n 0, 1) := by decide +kernel
theorem dX8_choose_71 : decode cX8_choose 71 = .ok (.getfield 44, 3) := by decide +kernel
theorem dX8_choose_74 : decode cX8_choose 74 = .ok (.iload_n 3, 1) := by decide +kernel
theorem dX8_choose_75 : decode cX8_choose 75 = .ok (.iconst 1, 1) := by decide +kernel
theorem dX8_choose_76 : decode cX8_choose 76 = .ok (.iadd, 1) := by decide +kernel
theorem dX8_choose_77 : decode cX8_choose 77 = .ok (.iaload, 1) := by decide +kernel
theorem dX8_choose_78 : decode cX8_choose 78 = .ok (.aload_n 0, 1) := by decide +kernel
theorem dX8_choose_79 : decode cX8_choose 79 = .ok (.getfield 44, 3) := by decide +kernel
theorem dX8_choose_82 : decode cX8_choose 82 = .ok (.iload_n 2, 1) := by decide +kernel
theorem dX8_choose_83 : decode cX8_choose 83 = .ok (.iconst 1, 1) := by decide +kernel
theorem dX8_choose_84 : decode cX8_choose 84 = .ok (.iadd, 1) := by decide +kernel
theorem dX8_choose_85 : decode cX8_choose 85 = .ok (.iaload, 1) := by decide +kernel
theorem dX8_choose_86 : decode cX8_choose 86 = .ok (.if_icmp .lt 29, 3) := by decide +kernel
theorem dX8_choose_89 : decode cX8_choose 89 = .ok (.aload_n 0, 1) := by decide +kernel
theorem dX8_choose_90 : decode cX8_choose 90 = .ok (.getfield 44, 3) := by decide +kernel
theorem dX8_choose_93 : decode cX8_choose 93 = .ok (.iload_n 3, 1) := by decide +kernel
theorem dX8_choose_94 : decode cX8_choose 94 = .ok (.iconst 1, 1) := by decide +kernel
theorem dX8_choose_95 : decode cX8_choose 95 = .ok (.iadd, 1) := by decide +kernel
theorem dX8_choose_96 : decode cX8_choose 96 = .ok (.iaload, 1) := by decide +kernel
theorem dX8_choose_97 : decode cX8_choose 97 = .ok (.aload_n 0, 1) := by decide +kernel
theorem dX8_choose_98 : decode cX8_choose 98 = .ok (.getfield 44, 3) := by decide +kernel
theorem dX8_choose_101 : decode cX8_choose 101 = .ok (.iload_n 2, 1) := by decide +kernel
theorem dX8_choose_102 : decode cX8_choose 102 = .ok (.iconst 1, 1) := by decide +kernel
theorem dX8_choose_103 : decode cX8_choose 103 = .ok (.iadd, 1) := by decide +kernel
theorem dX8_choose_104 : decode cX8_choose 104 = .ok (.iaload, 1) := by decide +kernel
theorem dX8_choose_105 : decode cX8_choose 105 = .ok (.if_icmp .ne 12, 3) := by decide +kernel
theorem dX8_choose_108 : decode cX8_choose 108 = .ok (.iload 4, 2) := by decide +kernel
theorem dX8_choose_110 : decode cX8_choose 110 = .ok (.iload 5, 2) := by decide +kernel
theorem dX8_choose_112 : decode cX8_choose 112 = .ok (.if_icmp .ge 5, 3) := by decide +kernel
theorem dX8_choose_115 : decode cX8_choose 115 = .ok (.iload_n 3, 1) := by decide +kernel
theorem dX8_choose_116 : decode cX8_choose 116 = .ok (.istore_n 2, 1) := by decide +kernel
theorem dX8_choose_117 : decode cX8_choose 117 = .ok (.iinc 3 1, 3) := by decide +kernel
theorem dX8_choose_120 : decode cX8_choose 120 = .ok (.goto (-108), 3) := by decide +kernel
theorem dX8_choose_123 : decode cX8_choose 123 = .ok (.aload_n 0, 1) := by decide +kernel
theorem dX8_choose_124 : decode cX8_choose 124 = .ok (.iload_n 2, 1) := by decide +kernel
theorem dX8_choose_125 : decode cX8_choose 125 = .ok (.putfield 124, 3) := by decide +kernel
theorem dX8_choose_128 : decode cX8_choose 128 = .ok (.iconst (-1), 1) := by decide +kernel
theorem dX8_choose_129 : decode cX8_choose 129 = .ok (.istore_n 3, 1) := by decide +kernel
theorem dX8_choose_130 : decode cX8_choose 130 = .ok (.iload_n 3, 1) := by decide +kernel
theorem dX8_choose_131 : decode cX8_choose 131 = .ok (.aload_n 0, 1) := by decide +kernel
theorem dX8_choose_132 : decode cX8_choose 132 = .ok (.getfield 86, 3) := by decide +kernel
theorem dX8_choose_135 : decode cX8_choose 135 = .ok (.if_icmp .ge 64, 3) := by decide +kernel
theorem dX8_choose_138 : decode cX8_choose 138 = .ok (.iload_n 3, 1) := by decide +kernel
theorem dX8_choose_139 : decode cX8_choose 139 = .ok (.aload_n 0, 1) := by decide +kernel
theorem dX8_choose_140 : decode cX8_choose 140 = .ok (.getfield 124, 3) := by decide +kernel
theorem dX8_choose_143 : decode cX8_choose 143 = .ok (.if_icmp .le 12, 3) := by decide +kernel
theorem dX8_choose_146 : decode cX8_choose 146 = .ok (.iload_n 3, 1) := by decide +kernel
theorem dX8_choose_147 : decode cX8_choose 147 = .ok (.aload_n 0, 1) := by decide +kernel
theorem dX8_choose_148 : decode cX8_choose 148 = .ok (.getfield 124, 3) := by decide +kernel
theorem dX8_choose_151 : decode cX8_choose 151 = .ok (.isub, 1) := by decide +kernel
theorem dX8_choose_152 : decode cX8_choose 152 = .ok (.goto 9, 3) := by decide +kernel
theorem dX8_choose_155 : decode cX8_choose 155 = .ok (.aload_n 0, 1) := by decide +kernel
theorem dX8_choose_156 : decode cX8_choose 156 = .ok (.getfield 124, 3) := by decide +kernel
theorem dX8_choose_159 : decode cX8_choose 159 = .ok (.iload_n 3, 1) := by decide +kernel
theorem dX8_choose_160 : decode cX8_choose 160 = .ok (.isub, 1) := by decide +kernel
theorem dX8_choose_161 : decode cX8_choose 161 = .ok (.istore 4, 2) := by decide +kernel
theorem dX8_choose_163 : decode cX8_choose 163 = .ok (.aload_n 0, 1) := by decide +kernel
theorem dX8_choose_164 : decode cX8_choose 164 = .ok (.getfield 44, 3) := by decide +kernel
theorem dX8_choose_167 : decode cX8_choose 167 = .ok (.iload_n 3, 1) := by decide +kernel
theorem dX8_choose_168 : decode cX8_choose 168 = .ok (.iconst 1, 1) := by decide +kernel
theorem dX8_choose_169 : decode cX8_choose 169 = .ok (.iadd, 1) := by decide +kernel
theorem dX8_choose_170 : decode cX8_choose 170 = .ok (.iload 4, 2) := by decide +kernel
theorem dX8_choose_172 : decode cX8_choose 172 = .ok (.aload_n 0, 1) := by decide +kernel
theorem dX8_choose_173 : decode cX8_choose 173 = .ok (.getfield 92, 3) := by decide +kernel
theorem dX8_choose_176 : decode cX8_choose 176 = .ok (.if_icmp .le 8, 3) := by decide +kernel
theorem dX8_choose_179 : decode cX8_choose 179 = .ok (.ldc 123, 2) := by decide +kernel
theorem dX8_choose_181 : decode cX8_choose 181 = .ok (.goto 11, 3) := by decide +kernel
theorem dX8_choose_184 : decode cX8_choose 184 = .ok (.aload_n 0, 1) := by decide +kernel
theorem dX8_choose_185 : decode cX8_choose 185 = .ok (.getfield 44, 3) := by decide +kernel
theorem dX8_choose_188 : decode cX8_choose 188 = .ok (.iload_n 3, 1) := by decide +kernel
theorem dX8_choose_189 : decode cX8_choose 189 = .ok (.iconst 1, 1) := by decide +kernel
theorem dX8_choose_190 : decode cX8_choose 190 = .ok (.iadd, 1) := by decide +kernel
theorem dX8_choose_191 : decode cX8_choose 191 = .ok (.iaload, 1) := by decide +kernel
theorem dX8_choose_192 : decode cX8_choose 192 = .ok (.iastore, 1) := by decide +kernel
theorem dX8_choose_193 : decode cX8_choose 193 = .ok (.iinc 3 1, 3) := by decide +kernel
theorem dX8_choose_196 : decode cX8_choose 196 = .ok (.goto (-66), 3) := by decide +kernel
theorem dX8_choose_199 : decode cX8_choose 199 = .ok (.return_, 1) := by decide +kernel
theorem dX8_anchor_0 : decode cX8_anchor 0 = .ok (.aload_n 0, 1) := by decide +kernel
theorem dX8_anchor_1 : decode cX8_anchor 1 = .ok (.getfield 124, 3) := by decide +kernel
theorem dX8_anchor_4 : decode cX8_anchor 4 = .ok (.ifCond .lt 21, 3) := by decide +kernel
theorem dX8_anchor_7 : decode cX8_anchor 7 = .ok (.aload_n 0, 1) := by decide +kernel
theorem dX8_anchor_8 : decode cX8_anchor 8 = .ok (.getfield 7, 3) := by decide +kernel
theorem dX8_anchor_11 : decode cX8_anchor 11 = .ok (.aload_n 0, 1) := by decide +kernel
theorem dX8_anchor_12 : decode cX8_anchor 12 = .ok (.getfield 124, 3) := by decide +kernel
theorem dX8_anchor_15 : decode cX8_anchor 15 = .ok (.iaload, 1) := by decide +kernel
theorem dX8_anchor_16 : decode cX8_anchor 16 = .ok (.aload_n 0, 1) := by decide +kernel
theorem dX8_anchor_17 : decode cX8_anchor 17 = .ok (.getfield 38, 3) := by decide +kernel
theorem dX8_anchor_20 : decode cX8_anchor 20 = .ok (.iload_n 1, 1) := by decide +kernel
theorem dX8_anchor_21 : decode cX8_anchor 21 = .ok (.iaload, 1) := by decide +kernel
theorem dX8_anchor_22 : decode cX8_anchor 22 = .ok (.if_icmp .eq 4, 3) := by decide +kernel
theorem dX8_anchor_25 : decode cX8_anchor 25 = .ok (.return_, 1) := by decide +kernel
theorem dX8_anchor_26 : decode cX8_anchor 26 = .ok (.aload_n 0, 1) := by decide +kernel
theorem dX8_anchor_27 : decode cX8_anchor 27 = .ok (.getfield 127, 3) := by decide +kernel
theorem dX8_anchor_30 : decode cX8_anchor 30 = .ok (.ifCond .le 26, 3) := by decide +kernel
theorem dX8_anchor_33 : decode cX8_anchor 33 = .ok (.aload_n 0, 1) := by decide +kernel
theorem dX8_anchor_34 : decode cX8_anchor 34 = .ok (.getfield 124, 3) := by decide +kernel
theorem dX8_anchor_37 : decode cX8_anchor 37 = .ok (.aload_n 0, 1) := by decide +kernel
theorem dX8_anchor_38 : decode cX8_anchor 38 = .ok (.getfield 53, 3) := by decide +kernel
theorem dX8_anchor_41 : decode cX8_anchor 41 = .ok (.aload_n 0, 1) := by decide +kernel
theorem dX8_anchor_42 : decode cX8_anchor 42 = .ok (.getfield 127, 3) := by decide +kernel
theorem dX8_anchor_45 : decode cX8_anchor 45 = .ok (.iconst 1, 1) := by decide +kernel
theorem dX8_anchor_46 : decode cX8_anchor 46 = .ok (.isub, 1) := by decide +kernel
theorem dX8_anchor_47 : decode cX8_anchor 47 = .ok (.iaload, 1) := by decide +kernel
theorem dX8_anchor_48 : decode cX8_anchor 48 = .ok (.if_icmp .gt 8, 3) := by decide +kernel
theorem dX8_anchor_51 : decode cX8_anchor 51 = .ok (.aload_n 0, 1) := by decide +kernel
theorem dX8_anchor_52 : decode cX8_anchor 52 = .ok (.iconst 0, 1) := by decide +kernel
theorem dX8_anchor_53 : decode cX8_anchor 53 = .ok (.putfield 127, 3) := by decide +kernel
theorem dX8_anchor_56 : decode cX8_anchor 56 = .ok (.aload_n 0, 1) := by decide +kernel
theorem dX8_anchor_57 : decode cX8_anchor 57 = .ok (.getfield 53, 3) := by decide +kernel
theorem dX8_anchor_60 : decode cX8_anchor 60 = .ok (.aload_n 0, 1) := by decide +kernel
theorem dX8_anchor_61 : decode cX8_anchor 61 = .ok (.getfield 127, 3) := by decide +kernel
theorem dX8_anchor_64 : decode cX8_anchor 64 = .ok (.aload_n 0, 1) := by decide +kernel
theorem dX8_anchor_65 : decode cX8_anchor 65 = .ok (.getfield 124, 3) := by decide +kernel
theorem dX8_anchor_68 : decode cX8_anchor 68 = .ok (.iastore, 1) := by decide +kernel
theorem dX8_anchor_69 : decode cX8_anchor 69 = .ok (.aload_n 0, 1) := by decide +kernel
theorem dX8_anchor_70 : decode cX8_anchor 70 = .ok (.getfield 56, 3) := by decide +kernel
theorem dX8_anchor_73 : decode cX8_anchor 73 = .ok (.aload_n 0, 1) := by decide +kernel
theorem dX8_anchor_74 : decode cX8_anchor 74 = .ok (.getfield 127, 3) := by decide +kernel
theorem dX8_anchor_77 : decode cX8_anchor 77 = .ok (.aload_n 0, 1) := by decide +kernel
theorem dX8_anchor_78 : decode cX8_anchor 78 = .ok (.getfield 41, 3) := by decide +kernel
theorem dX8_anchor_81 : decode cX8_anchor 81 = .ok (.iload_n 1, 1) := by decide +kernel
theorem dX8_anchor_82 : decode cX8_anchor 82 = .ok (.iaload, 1) := by decide +kernel
theorem dX8_anchor_83 : decode cX8_anchor 83 = .ok (.iastore, 1) := by decide +kernel
theorem dX8_anchor_84 : decode cX8_anchor 84 = .ok (.aload_n 0, 1) := by decide +kernel
theorem dX8_anchor_85 : decode cX8_anchor 85 = .ok (.dup, 1) := by decide +kernel
theorem dX8_anchor_86 : decode cX8_anchor 86 = .ok (.getfield 127, 3) := by decide +kernel
theorem dX8_anchor_89 : decode cX8_anchor 89 = .ok (.iconst 1, 1) := by decide +kernel
theorem dX8_anchor_90 : decode cX8_anchor 90 = .ok (.iadd, 1) := by decide +kernel
theorem dX8_anchor_91 : decode cX8_anchor 91 = .ok (.putfield 127, 3) := by decide +kernel
theorem dX8_anchor_94 : decode cX8_anchor 94 = .ok (.return_, 1) := by decide +kernel
theorem dX8_hear_0 : decode cX8_hear 0 = .ok (.aload_n 0, 1) := by decide +kernel
theorem dX8_hear_1 : decode cX8_hear 1 = .ok (.iconst 0, 1) := by decide +kernel
theorem dX8_hear_2 : decode cX8_hear 2 = .ok (.putfield 83, 3) := by decide +kernel
theorem dX8_hear_5 : decode cX8_hear 5 = .ok (.iload_n 1, 1) := by decide +kernel
theorem dX8_hear_6 : decode cX8_hear 6 = .ok (.ifCond .lt 41, 3) := by decide +kernel
theorem dX8_hear_9 : decode cX8_hear 9 = .ok (.iload_n 1, 1) := by decide +kernel
theorem dX8_hear_10 : decode cX8_hear 10 = .ok (.bipush 127, 2) := by decide +kernel
theorem dX8_hear_12 : decode cX8_hear 12 = .ok (.if_icmp .gt 35, 3) := by decide +kernel
theorem dX8_hear_15 : decode cX8_hear 15 = .ok (.iload_n 2, 1) := by decide +kernel
theorem dX8_hear_16 : decode cX8_hear 16 = .ok (.ifCond .lt 31, 3) := by decide +kernel
theorem dX8_hear_19 : decode cX8_hear 19 = .ok (.iload_n 2, 1) := by decide +kernel
theorem dX8_hear_20 : decode cX8_hear 20 = .ok (.ldc 153, 2) := by decide +kernel
theorem dX8_hear_22 : decode cX8_hear 22 = .ok (.if_icmp .gt 25, 3) := by decide +kernel
theorem dX8_hear_25 : decode cX8_hear 25 = .ok (.aload_n 0, 1) := by decide +kernel
theorem dX8_hear_26 : decode cX8_hear 26 = .ok (.getfield 101, 3) := by decide +kernel
theorem dX8_hear_29 : decode cX8_hear 29 = .ok (.ifCond .le 21, 3) := by decide +kernel
theorem dX8_hear_32 : decode cX8_hear 32 = .ok (.iload_n 2, 1) := by decide +kernel
theorem dX8_hear_33 : decode cX8_hear 33 = .ok (.aload_n 0, 1) := by decide +kernel
theorem dX8_hear_34 : decode cX8_hear 34 = .ok (.getfield 41, 3) := by decide +kernel
theorem dX8_hear_37 : decode cX8_hear 37 = .ok (.aload_n 0, 1) := by decide +kernel
theorem dX8_hear_38 : decode cX8_hear 38 = .ok (.getfield 101, 3) := by decide +kernel
theorem dX8_hear_41 : decode cX8_hear 41 = .ok (.iconst 1, 1) := by decide +kernel
theorem dX8_hear_42 : decode cX8_hear 42 = .ok (.isub, 1) := by decide +kernel
theorem dX8_hear_43 : decode cX8_hear 43 = .ok (.iaload, 1) := by decide +kernel
theorem dX8_hear_44 : decode cX8_hear 44 = .ok (.if_icmp .ge 6, 3) := by decide +kernel
theorem dX8_hear_47 : decode cX8_hear 47 = .ok (.bipush (-2), 2) := by decide +kernel
theorem dX8_hear_49 : decode cX8_hear 49 = .ok (.ireturn, 1) := by decide +kernel
theorem dX8_hear_50 : decode cX8_hear 50 = .ok (.aload_n 0, 1) := by decide +kernel
theorem dX8_hear_51 : decode cX8_hear 51 = .ok (.getfield 86, 3) := by decide +kernel
theorem dX8_hear_54 : decode cX8_hear 54 = .ok (.ifCond .ne 6, 3) := by decide +kernel
theorem dX8_hear_57 : decode cX8_hear 57 = .ok (.bipush (-3), 2) := by decide +kernel
theorem dX8_hear_59 : decode cX8_hear 59 = .ok (.ireturn, 1) := by decide +kernel
theorem dX8_hear_60 : decode cX8_hear 60 = .ok (.aload_n 0, 1) := by decide +kernel
theorem dX8_hear_61 : decode cX8_hear 61 = .ok (.getfield 101, 3) := by decide +kernel
theorem dX8_hear_64 : decode cX8_hear 64 = .ok (.bipush 120, 2) := by decide +kernel
theorem dX8_hear_66 : decode cX8_hear 66 = .ok (.if_icmp .ne 6, 3) := by decide +kernel
theorem dX8_hear_69 : decode cX8_hear 69 = .ok (.bipush (-4), 2) := by decide +kernel
theorem dX8_hear_71 : decode cX8_hear 71 = .ok (.ireturn, 1) := by decide +kernel
theorem dX8_hear_72 : decode cX8_hear 72 = .ok (.aload_n 0, 1) := by decide +kernel
theorem dX8_hear_73 : decode cX8_hear 73 = .ok (.getfield 38, 3) := by decide +kernel
theorem dX8_hear_76 : decode cX8_hear 76 = .ok (.aload_n 0, 1) := by decide +kernel
theorem dX8_hear_77 : decode cX8_hear 77 = .ok (.getfield 101, 3) := by decide +kernel
theorem dX8_hear_80 : decode cX8_hear 80 = .ok (.iload_n 1, 1) := by decide +kernel
theorem dX8_hear_81 : decode cX8_hear 81 = .ok (.iastore, 1) := by decide +kernel
theorem dX8_hear_82 : decode cX8_hear 82 = .ok (.aload_n 0, 1) := by decide +kernel
theorem dX8_hear_83 : decode cX8_hear 83 = .ok (.getfield 41, 3) := by decide +kernel
theorem dX8_hear_86 : decode cX8_hear 86 = .ok (.aload_n 0, 1) := by decide +kernel
theorem dX8_hear_87 : decode cX8_hear 87 = .ok (.getfield 101, 3) := by decide +kernel
theorem dX8_hear_90 : decode cX8_hear 90 = .ok (.iload_n 2, 1) := by decide +kernel
theorem dX8_hear_91 : decode cX8_hear 91 = .ok (.iastore, 1) := by decide +kernel
theorem dX8_hear_92 : decode cX8_hear 92 = .ok (.aload_n 0, 1) := by decide +kernel
theorem dX8_hear_93 : decode cX8_hear 93 = .ok (.dup, 1) := by decide +kernel
theorem dX8_hear_94 : decode cX8_hear 94 = .ok (.getfield 101, 3) := by decide +kernel
theorem dX8_hear_97 : decode cX8_hear 97 = .ok (.iconst 1, 1) := by decide +kernel
theorem dX8_hear_98 : decode cX8_hear 98 = .ok (.iadd, 1) := by decide +kernel
theorem dX8_hear_99 : decode cX8_hear 99 = .ok (.putfield 101, 3) := by decide +kernel
theorem dX8_hear_102 : decode cX8_hear 102 = .ok (.aload_n 0, 1) := by decide +kernel
theorem dX8_hear_103 : decode cX8_hear 103 = .ok (.iconst 0, 1) := by decide +kernel
theorem dX8_hear_104 : decode cX8_hear 104 = .ok (.putfield 104, 3) := by decide +kernel
theorem dX8_hear_107 : decode cX8_hear 107 = .ok (.aload_n 0, 1) := by decide +kernel
theorem dX8_hear_108 : decode cX8_hear 108 = .ok (.aload_n 0, 1) := by decide +kernel
theorem dX8_hear_109 : decode cX8_hear 109 = .ok (.getfield 101, 3) := by decide +kernel
theorem dX8_hear_112 : decode cX8_hear 112 = .ok (.iconst 1, 1) := by decide +kernel
theorem dX8_hear_113 : decode cX8_hear 113 = .ok (.isub, 1) := by decide +kernel
theorem dX8_hear_114 : decode cX8_hear 114 = .ok (.invokevirtual 130, 3) := by decide +kernel
theorem dX8_hear_117 : decode cX8_hear 117 = .ok (.aload_n 0, 1) := by decide +kernel
theorem dX8_hear_118 : decode cX8_hear 118 = .ok (.getfield 124, 3) := by decide +kernel
theorem dX8_hear_121 : decode cX8_hear 121 = .ok (.ireturn, 1) := by decide +kernel
theorem dX8_cut_0 : decode cX8_cut 0 = .ok (.aload_n 0, 1) := by decide +kernel
theorem dX8_cut_1 : decode cX8_cut 1 = .ok (.iconst 0, 1) := by decide +kernel
theorem dX8_cut_2 : decode cX8_cut 2 = .ok (.putfield 83, 3) := by decide +kernel
theorem dX8_cut_5 : decode cX8_cut 5 = .ok (.iload_n 1, 1) := by decide +kernel
theorem dX8_cut_6 : decode cX8_cut 6 = .ok (.ifCond .lt 11, 3) := by decide +kernel
theorem dX8_cut_9 : decode cX8_cut 9 = .ok (.iload_n 1, 1) := by decide +kernel
theorem dX8_cut_10 : decode cX8_cut 10 = .ok (.aload_n 0, 1) := by decide +kernel
theorem dX8_cut_11 : decode cX8_cut 11 = .ok (.getfield 101, 3) := by decide +kernel
theorem dX8_cut_14 : decode cX8_cut 14 = .ok (.if_icmp .le 6, 3) := by decide +kernel
theorem dX8_cut_17 : decode cX8_cut 17 = .ok (.bipush (-2), 2) := by decide +kernel
theorem dX8_cut_19 : decode cX8_cut 19 = .ok (.ireturn, 1) := by decide +kernel
theorem dX8_cut_20 : decode cX8_cut 20 = .ok (.aload_n 0, 1) := by decide +kernel
theorem dX8_cut_21 : decode cX8_cut 21 = .ok (.iload_n 1, 1) := by decide +kernel
theorem dX8_cut_22 : decode cX8_cut 22 = .ok (.putfield 101, 3) := by decide +kernel
theorem dX8_cut_25 : decode cX8_cut 25 = .ok (.aload_n 0, 1) := by decide +kernel
theorem dX8_cut_26 : decode cX8_cut 26 = .ok (.iconst 0, 1) := by decide +kernel
theorem dX8_cut_27 : decode cX8_cut 27 = .ok (.putfield 104, 3) := by decide +kernel
theorem dX8_cut_30 : decode cX8_cut 30 = .ok (.aload_n 0, 1) := by decide +kernel
theorem dX8_cut_31 : decode cX8_cut 31 = .ok (.invokevirtual 108, 3) := by decide +kernel
theorem dX8_cut_34 : decode cX8_cut 34 = .ok (.aload_n 0, 1) := by decide +kernel
theorem dX8_cut_35 : decode cX8_cut 35 = .ok (.getfield 124, 3) := by decide +kernel
theorem dX8_cut_38 : decode cX8_cut 38 = .ok (.ireturn, 1) := by decide +kernel
theorem dX8_valueOf_0 : decode cX8_valueOf 0 = .ok (.aload_n 0, 1) := by decide +kernel
theorem dX8_valueOf_1 : decode cX8_valueOf 1 = .ok (.iconst 0, 1) := by decide +kernel
theorem dX8_valueOf_2 : decode cX8_valueOf 2 = .ok (.putfield 83, 3) := by decide +kernel
theorem dX8_valueOf_5 : decode cX8_valueOf 5 = .ok (.iload_n 1, 1) := by decide +kernel
theorem dX8_valueOf_6 : decode cX8_valueOf 6 = .ok (.iconst (-1), 1) := by decide +kernel
theorem dX8_valueOf_7 : decode cX8_valueOf 7 = .ok (.if_icmp .lt 11, 3) := by decide +kernel
theorem dX8_valueOf_10 : decode cX8_valueOf 10 = .ok (.iload_n 1, 1) := by decide +kernel
theorem dX8_valueOf_11 : decode cX8_valueOf 11 = .ok (.aload_n 0, 1) := by decide +kernel
theorem dX8_valueOf_12 : decode cX8_valueOf 12 = .ok (.getfield 86, 3) := by decide +kernel
theorem dX8_valueOf_15 : decode cX8_valueOf 15 = .ok (.if_icmp .lt 6, 3) := by decide +kernel
theorem dX8_valueOf_18 : decode cX8_valueOf 18 = .ok (.bipush (-2), 2) := by decide +kernel
theorem dX8_valueOf_20 : decode cX8_valueOf 20 = .ok (.ireturn, 1) := by decide +kernel
theorem dX8_valueOf_21 : decode cX8_valueOf 21 = .ok (.aload_n 0, 1) := by decide +kernel
theorem dX8_valueOf_22 : decode cX8_valueOf 22 = .ok (.getfield 44, 3) := by decide +kernel
theorem dX8_valueOf_25 : decode cX8_valueOf 25 = .ok (.iload_n 1, 1) := by decide +kernel
theorem dX8_valueOf_26 : decode cX8_valueOf 26 = .ok (.iconst 1, 1) := by decide +kernel
theorem dX8_valueOf_27 : decode cX8_valueOf 27 = .ok (.iadd, 1) := by decide +kernel
theorem dX8_valueOf_28 : decode cX8_valueOf 28 = .ok (.iaload, 1) := by decide +kernel
theorem dX8_valueOf_29 : decode cX8_valueOf 29 = .ok (.ldc 123, 2) := by decide +kernel
theorem dX8_valueOf_31 : decode cX8_valueOf 31 = .ok (.if_icmp .ge 14, 3) := by decide +kernel
theorem dX8_valueOf_34 : decode cX8_valueOf 34 = .ok (.aload_n 0, 1) := by decide +kernel
theorem dX8_valueOf_35 : decode cX8_valueOf 35 = .ok (.getfield 44, 3) := by decide +kernel
theorem dX8_valueOf_38 : decode cX8_valueOf 38 = .ok (.iload_n 1, 1) := by decide +kernel
theorem dX8_valueOf_39 : decode cX8_valueOf 39 = .ok (.iconst 1, 1) := by decide +kernel
theorem dX8_valueOf_40 : decode cX8_valueOf 40 = .ok (.iadd, 1) := by decide +kernel
theorem dX8_valueOf_41 : decode cX8_valueOf 41 = .ok (.iaload, 1) := by decide +kernel
theorem dX8_valueOf_42 : decode cX8_valueOf 42 = .ok (.goto 4, 3) := by decide +kernel
theorem dX8_valueOf_45 : decode cX8_valueOf 45 = .ok (.iconst (-1), 1) := by decide +kernel
theorem dX8_valueOf_46 : decode cX8_valueOf 46 = .ok (.ireturn, 1) := by decide +kernel
theorem dX8_common_0 : decode cX8_common 0 = .ok (.iload_n 0, 1) := by decide +kernel
theorem dX8_common_1 : decode cX8_common 1 = .ok (.istore_n 2, 1) := by decide +kernel
theorem dX8_common_2 : decode cX8_common 2 = .ok (.iload_n 1, 1) := by decide +kernel
theorem dX8_common_3 : decode cX8_common 3 = .ok (.istore_n 3, 1) := by decide +kernel
theorem dX8_common_4 : decode cX8_common 4 = .ok (.iload_n 3, 1) := by decide +kernel
theorem dX8_common_5 : decode cX8_common 5 = .ok (.ifCond .eq 16, 3) := by decide +kernel
theorem dX8_common_8 : decode cX8_common 8 = .ok (.iload_n 2, 1) := by decide +kernel
theorem dX8_common_9 : decode cX8_common 9 = .ok (.iload_n 3, 1) := by decide +kernel
theorem dX8_common_10 : decode cX8_common 10 = .ok (.irem, 1) := by decide +kernel
theorem dX8_common_11 : decode cX8_common 11 = .ok (.istore 4, 2) := by decide +kernel
theorem dX8_common_13 : decode cX8_common 13 = .ok (.iload_n 3, 1) := by decide +kernel
theorem dX8_common_14 : decode cX8_common 14 = .ok (.istore_n 2, 1) := by decide +kernel
theorem dX8_common_15 : decode cX8_common 15 = .ok (.iload 4, 2) := by decide +kernel
theorem dX8_common_17 : decode cX8_common 17 = .ok (.istore_n 3, 1) := by decide +kernel
theorem dX8_common_18 : decode cX8_common 18 = .ok (.goto (-14), 3) := by decide +kernel
theorem dX8_common_21 : decode cX8_common 21 = .ok (.iload_n 2, 1) := by decide +kernel
theorem dX8_common_22 : decode cX8_common 22 = .ok (.ireturn, 1) := by decide +kernel
theorem dX8_tempoOf_0 : decode cX8_tempoOf 0 = .ok (.aload_n 0, 1) := by decide +kernel
theorem dX8_tempoOf_1 : decode cX8_tempoOf 1 = .ok (.getfield 127, 3) := by decide +kernel
theorem dX8_tempoOf_4 : decode cX8_tempoOf 4 = .ok (.iconst 2, 1) := by decide +kernel
theorem dX8_tempoOf_5 : decode cX8_tempoOf 5 = .ok (.if_icmp .ge 5, 3) := by decide +kernel
theorem dX8_tempoOf_8 : decode cX8_tempoOf 8 = .ok (.iconst 1, 1) := by decide +kernel
theorem dX8_tempoOf_9 : decode cX8_tempoOf 9 = .ok (.ireturn, 1) := by decide +kernel
theorem dX8_tempoOf_10 : decode cX8_tempoOf 10 = .ok (.aload_n 0, 1) := by decide +kernel
theorem dX8_tempoOf_11 : decode cX8_tempoOf 11 = .ok (.getfield 127, 3) := by decide +kernel
theorem dX8_tempoOf_14 : decode cX8_tempoOf 14 = .ok (.iconst 4, 1) := by decide +kernel
theorem dX8_tempoOf_15 : decode cX8_tempoOf 15 = .ok (.if_icmp .le 12, 3) := by decide +kernel
theorem dX8_tempoOf_18 : decode cX8_tempoOf 18 = .ok (.aload_n 0, 1) := by decide +kernel
theorem dX8_tempoOf_19 : decode cX8_tempoOf 19 = .ok (.getfield 127, 3) := by decide +kernel
theorem dX8_tempoOf_22 : decode cX8_tempoOf 22 = .ok (.iconst 4, 1) := by decide +kernel
theorem dX8_tempoOf_23 : decode cX8_tempoOf 23 = .ok (.isub, 1) := by decide +kernel
theorem dX8_tempoOf_24 : decode cX8_tempoOf 24 = .ok (.goto 4, 3) := by decide +kernel
theorem dX8_tempoOf_27 : decode cX8_tempoOf 27 = .ok (.iconst 0, 1) := by decide +kernel
theorem dX8_tempoOf_28 : decode cX8_tempoOf 28 = .ok (.istore_n 2, 1) := by decide +kernel
theorem dX8_tempoOf_29 : decode cX8_tempoOf 29 = .ok (.aload_n 0, 1) := by decide +kernel
theorem dX8_tempoOf_30 : decode cX8_tempoOf 30 = .ok (.getfield 56, 3) := by decide +kernel
theorem dX8_tempoOf_33 : decode cX8_tempoOf 33 = .ok (.aload_n 0, 1) := by decide +kernel
theorem dX8_tempoOf_34 : decode cX8_tempoOf 34 = .ok (.getfield 127, 3) := by decide +kernel
theorem dX8_tempoOf_37 : decode cX8_tempoOf 37 = .ok (.iconst 1, 1) := by decide +kernel
theorem dX8_tempoOf_38 : decode cX8_tempoOf 38 = .ok (.isub, 1) := by decide +kernel
theorem dX8_tempoOf_39 : decode cX8_tempoOf 39 = .ok (.iaload, 1) := by decide +kernel
theorem dX8_tempoOf_40 : decode cX8_tempoOf 40 = .ok (.aload_n 0, 1) := by decide +kernel
theorem dX8_tempoOf_41 : decode cX8_tempoOf 41 = .ok (.getfield 56, 3) := by decide +kernel
theorem dX8_tempoOf_44 : decode cX8_tempoOf 44 = .ok (.iload_n 2, 1) := by decide +kernel
theorem dX8_tempoOf_45 : decode cX8_tempoOf 45 = .ok (.iaload, 1) := by decide +kernel
theorem dX8_tempoOf_46 : decode cX8_tempoOf 46 = .ok (.isub, 1) := by decide +kernel
theorem dX8_tempoOf_47 : decode cX8_tempoOf 47 = .ok (.istore_n 3, 1) := by decide +kernel
theorem dX8_tempoOf_48 : decode cX8_tempoOf 48 = .ok (.aload_n 0, 1) := by decide +kernel
theorem dX8_tempoOf_49 : decode cX8_tempoOf 49 = .ok (.getfield 13, 3) := by decide +kernel
theorem dX8_tempoOf_52 : decode cX8_tempoOf 52 = .ok (.aload_n 0, 1) := by decide +kernel
theorem dX8_tempoOf_53 : decode cX8_tempoOf 53 = .ok (.getfield 53, 3) := by decide +kernel
theorem dX8_tempoOf_56 : decode cX8_tempoOf 56 = .ok (.aload_n 0, 1) := by decide +kernel
theorem dX8_tempoOf_57 : decode cX8_tempoOf 57 = .ok (.getfield 127, 3) := by decide +kernel
theorem dX8_tempoOf_60 : decode cX8_tempoOf 60 = .ok (.iconst 1, 1) := by decide +kernel
theorem dX8_tempoOf_61 : decode cX8_tempoOf 61 = .ok (.isub, 1) := by decide +kernel
theorem dX8_tempoOf_62 : decode cX8_tempoOf 62 = .ok (.iaload, 1) := by decide +kernel
theorem dX8_tempoOf_63 : decode cX8_tempoOf 63 = .ok (.iaload, 1) := by decide +kernel
theorem dX8_tempoOf_64 : decode cX8_tempoOf 64 = .ok (.aload_n 0, 1) := by decide +kernel
theorem dX8_tempoOf_65 : decode cX8_tempoOf 65 = .ok (.getfield 13, 3) := by decide +kernel
theorem dX8_tempoOf_68 : decode cX8_tempoOf 68 = .ok (.aload_n 0, 1) := by decide +kernel
theorem dX8_tempoOf_69 : decode cX8_tempoOf 69 = .ok (.getfield 53, 3) := by decide +kernel
theorem dX8_tempoOf_72 : decode cX8_tempoOf 72 = .ok (.iload_n 2, 1) := by decide +kernel
theorem dX8_tempoOf_73 : decode cX8_tempoOf 73 = .ok (.iaload, 1) := by decide +kernel
theorem dX8_tempoOf_74 : decode cX8_tempoOf 74 = .ok (.iaload, 1) := by decide +kernel
theorem dX8_tempoOf_75 : decode cX8_tempoOf 75 = .ok (.isub, 1) := by decide +kernel
theorem dX8_tempoOf_76 : decode cX8_tempoOf 76 = .ok (.istore 4, 2) := by decide +kernel
theorem dX8_tempoOf_78 : decode cX8_tempoOf 78 = .ok (.iload_n 3, 1) := by decide +kernel
theorem dX8_tempoOf_79 : decode cX8_tempoOf 79 = .ok (.iload 4, 2) := by decide +kernel
theorem dX8_tempoOf_81 : decode cX8_tempoOf 81 = .ok (.invokestatic 154, 3) := by decide +kernel
theorem dX8_tempoOf_84 : decode cX8_tempoOf 84 = .ok (.istore 5, 2) := by decide +kernel
theorem dX8_tempoOf_86 : decode cX8_tempoOf 86 = .ok (.iload_n 1, 1) := by decide +kernel
theorem dX8_tempoOf_87 : decode cX8_tempoOf 87 = .ok (.ifCond .ne 10, 3) := by decide +kernel
theorem dX8_tempoOf_90 : decode cX8_tempoOf 90 = .ok (.iload_n 3, 1) := by decide +kernel
theorem dX8_tempoOf_91 : decode cX8_tempoOf 91 = .ok (.iload 5, 2) := by decide +kernel
theorem dX8_tempoOf_93 : decode cX8_tempoOf 93 = .ok (.idiv, 1) := by decide +kernel
theorem dX8_tempoOf_94 : decode cX8_tempoOf 94 = .ok (.goto 8, 3) := by decide +kernel
theorem dX8_tempoOf_97 : decode cX8_tempoOf 97 = .ok (.iload 4, 2) := by decide +kernel
theorem dX8_tempoOf_99 : decode cX8_tempoOf 99 = .ok (.iload 5, 2) := by decide +kernel
theorem dX8_tempoOf_101 : decode cX8_tempoOf 101 = .ok (.idiv, 1) := by decide +kernel
theorem dX8_tempoOf_102 : decode cX8_tempoOf 102 = .ok (.ireturn, 1) := by decide +kernel
theorem dX8_tempo_0 : decode cX8_tempo 0 = .ok (.aload_n 0, 1) := by decide +kernel
theorem dX8_tempo_1 : decode cX8_tempo 1 = .ok (.iconst 0, 1) := by decide +kernel
theorem dX8_tempo_2 : decode cX8_tempo 2 = .ok (.putfield 83, 3) := by decide +kernel
theorem dX8_tempo_5 : decode cX8_tempo 5 = .ok (.iload_n 1, 1) := by decide +kernel
theorem dX8_tempo_6 : decode cX8_tempo 6 = .ok (.ifCond .eq 8, 3) := by decide +kernel
theorem dX8_tempo_9 : decode cX8_tempo 9 = .ok (.iload_n 1, 1) := by decide +kernel
theorem dX8_tempo_10 : decode cX8_tempo 10 = .ok (.iconst 1, 1) := by decide +kernel
theorem dX8_tempo_11 : decode cX8_tempo 11 = .ok (.if_icmp .ne 11, 3) := by decide +kernel
theorem dX8_tempo_14 : decode cX8_tempo 14 = .ok (.aload_n 0, 1) := by decide +kernel
theorem dX8_tempo_15 : decode cX8_tempo 15 = .ok (.iload_n 1, 1) := by decide +kernel
theorem dX8_tempo_16 : decode cX8_tempo 16 = .ok (.invokevirtual 157, 3) := by decide +kernel
theorem dX8_tempo_19 : decode cX8_tempo 19 = .ok (.goto 5, 3) := by decide +kernel
theorem dX8_tempo_22 : decode cX8_tempo 22 = .ok (.bipush (-2), 2) := by decide +kernel
theorem dX8_tempo_24 : decode cX8_tempo 24 = .ok (.ireturn, 1) := by decide +kernel
theorem dX8_ahead_0 : decode cX8_ahead 0 = .ok (.aload_n 0, 1) := by decide +kernel
theorem dX8_ahead_1 : decode cX8_ahead 1 = .ok (.iconst 0, 1) := by decide +kernel
theorem dX8_ahead_2 : decode cX8_ahead 2 = .ok (.putfield 83, 3) := by decide +kernel
theorem dX8_ahead_5 : decode cX8_ahead 5 = .ok (.iload_n 1, 1) := by decide +kernel
theorem dX8_ahead_6 : decode cX8_ahead 6 = .ok (.ifCond .lt 11, 3) := by decide +kernel
theorem dX8_ahead_9 : decode cX8_ahead 9 = .ok (.iload_n 1, 1) := by decide +kernel
theorem dX8_ahead_10 : decode cX8_ahead 10 = .ok (.aload_n 0, 1) := by decide +kernel
theorem dX8_ahead_11 : decode cX8_ahead 11 = .ok (.getfield 86, 3) := by decide +kernel
theorem dX8_ahead_14 : decode cX8_ahead 14 = .ok (.if_icmp .lt 7, 3) := by decide +kernel
theorem dX8_ahead_17 : decode cX8_ahead 17 = .ok (.ldc2_w 161, 3) := by decide +kernel
theorem dX8_ahead_20 : decode cX8_ahead 20 = .ok (.lreturn, 1) := by decide +kernel
theorem dX8_ahead_21 : decode cX8_ahead 21 = .ok (.aload_n 0, 1) := by decide +kernel
theorem dX8_ahead_22 : decode cX8_ahead 22 = .ok (.getfield 127, 3) := by decide +kernel
theorem dX8_ahead_25 : decode cX8_ahead 25 = .ok (.ifCond .ne 7, 3) := by decide +kernel
theorem dX8_ahead_28 : decode cX8_ahead 28 = .ok (.ldc2_w 163, 3) := by decide +kernel
theorem dX8_ahead_31 : decode cX8_ahead 31 = .ok (.lreturn, 1) := by decide +kernel
theorem dX8_ahead_32 : decode cX8_ahead 32 = .ok (.aload_n 0, 1) := by decide +kernel
theorem dX8_ahead_33 : decode cX8_ahead 33 = .ok (.getfield 13, 3) := by decide +kernel
theorem dX8_ahead_36 : decode cX8_ahead 36 = .ok (.iload_n 1, 1) := by decide +kernel
theorem dX8_ahead_37 : decode cX8_ahead 37 = .ok (.iaload, 1) := by decide +kernel
theorem dX8_ahead_38 : decode cX8_ahead 38 = .ok (.aload_n 0, 1) := by decide +kernel
theorem dX8_ahead_39 : decode cX8_ahead 39 = .ok (.getfield 13, 3) := by decide +kernel
theorem dX8_ahead_42 : decode cX8_ahead 42 = .ok (.aload_n 0, 1) := by decide +kernel
theorem dX8_ahead_43 : decode cX8_ahead 43 = .ok (.getfield 53, 3) := by decide +kernel
theorem dX8_ahead_46 : decode cX8_ahead 46 = .ok (.aload_n 0, 1) := by decide +kernel
theorem dX8_ahead_47 : decode cX8_ahead 47 = .ok (.getfield 127, 3) := by decide +kernel
theorem dX8_ahead_50 : decode cX8_ahead 50 = .ok (.iconst 1, 1) := by decide +kernel
theorem dX8_ahead_51 : decode cX8_ahead 51 = .ok (.isub, 1) := by decide +kernel
theorem dX8_ahead_52 : decode cX8_ahead 52 = .ok (.iaload, 1) := by decide +kernel
theorem dX8_ahead_53 : decode cX8_ahead 53 = .ok (.iaload, 1) := by decide +kernel
theorem dX8_ahead_54 : decode cX8_ahead 54 = .ok (.isub, 1) := by decide +kernel
theorem dX8_ahead_55 : decode cX8_ahead 55 = .ok (.i2l, 1) := by decide +kernel
theorem dX8_ahead_56 : decode cX8_ahead 56 = .ok (.aload_n 0, 1) := by decide +kernel
theorem dX8_ahead_57 : decode cX8_ahead 57 = .ok (.iconst 0, 1) := by decide +kernel
theorem dX8_ahead_58 : decode cX8_ahead 58 = .ok (.invokevirtual 157, 3) := by decide +kernel
theorem dX8_ahead_61 : decode cX8_ahead 61 = .ok (.i2l, 1) := by decide +kernel
theorem dX8_ahead_62 : decode cX8_ahead 62 = .ok (.lmul, 1) := by decide +kernel
theorem dX8_ahead_63 : decode cX8_ahead 63 = .ok (.lstore_n 2, 1) := by decide +kernel
theorem dX8_ahead_64 : decode cX8_ahead 64 = .ok (.aload_n 0, 1) := by decide +kernel
theorem dX8_ahead_65 : decode cX8_ahead 65 = .ok (.iconst 1, 1) := by decide +kernel
theorem dX8_ahead_66 : decode cX8_ahead 66 = .ok (.invokevirtual 157, 3) := by decide +kernel
theorem dX8_ahead_69 : decode cX8_ahead 69 = .ok (.i2l, 1) := by decide +kernel
theorem dX8_ahead_70 : decode cX8_ahead 70 = .ok (.lstore 4, 2) := by decide +kernel
theorem dX8_ahead_72 : decode cX8_ahead 72 = .ok (.lload_n 2, 1) := by decide +kernel
theorem dX8_ahead_73 : decode cX8_ahead 73 = .ok (.lload 4, 2) := by decide +kernel
theorem dX8_ahead_75 : decode cX8_ahead 75 = .ok (.ldiv, 1) := by decide +kernel
theorem dX8_ahead_76 : decode cX8_ahead 76 = .ok (.lstore 6, 2) := by decide +kernel
theorem dX8_ahead_78 : decode cX8_ahead 78 = .ok (.lload 6, 2) := by decide +kernel
theorem dX8_ahead_80 : decode cX8_ahead 80 = .ok (.lload 4, 2) := by decide +kernel
theorem dX8_ahead_82 : decode cX8_ahead 82 = .ok (.lmul, 1) := by decide +kernel
theorem dX8_ahead_83 : decode cX8_ahead 83 = .ok (.lload_n 2, 1) := by decide +kernel
theorem dX8_ahead_84 : decode cX8_ahead 84 = .ok (.lcmp, 1) := by decide +kernel
theorem dX8_ahead_85 : decode cX8_ahead 85 = .ok (.ifCond .le 9, 3) := by decide +kernel
theorem dX8_ahead_88 : decode cX8_ahead 88 = .ok (.lload 6, 2) := by decide +kernel
theorem dX8_ahead_90 : decode cX8_ahead 90 = .ok (.lconst 1, 1) := by decide +kernel
theorem dX8_ahead_91 : decode cX8_ahead 91 = .ok (.lsub, 1) := by decide +kernel
theorem dX8_ahead_92 : decode cX8_ahead 92 = .ok (.lstore 6, 2) := by decide +kernel
theorem dX8_ahead_94 : decode cX8_ahead 94 = .ok (.aload_n 0, 1) := by decide +kernel
theorem dX8_ahead_95 : decode cX8_ahead 95 = .ok (.getfield 56, 3) := by decide +kernel
theorem dX8_ahead_98 : decode cX8_ahead 98 = .ok (.aload_n 0, 1) := by decide +kernel
theorem dX8_ahead_99 : decode cX8_ahead 99 = .ok (.getfield 127, 3) := by decide +kernel
theorem dX8_ahead_102 : decode cX8_ahead 102 = .ok (.iconst 1, 1) := by decide +kernel
theorem dX8_ahead_103 : decode cX8_ahead 103 = .ok (.isub, 1) := by decide +kernel
theorem dX8_ahead_104 : decode cX8_ahead 104 = .ok (.iaload, 1) := by decide +kernel
theorem dX8_ahead_105 : decode cX8_ahead 105 = .ok (.i2l, 1) := by decide +kernel
theorem dX8_ahead_106 : decode cX8_ahead 106 = .ok (.lload 6, 2) := by decide +kernel
theorem dX8_ahead_108 : decode cX8_ahead 108 = .ok (.ladd, 1) := by decide +kernel
theorem dX8_ahead_109 : decode cX8_ahead 109 = .ok (.lreturn, 1) := by decide +kernel
theorem dX8_at_0 : decode cX8_at 0 = .ok (.bipush 61, 2) := by decide +kernel
theorem dX8_at_2 : decode cX8_at 2 = .ok (.iload_n 1, 1) := by decide +kernel
theorem dX8_at_3 : decode cX8_at 3 = .ok (.imul, 1) := by decide +kernel
theorem dX8_at_4 : decode cX8_at 4 = .ok (.iload_n 2, 1) := by decide +kernel
theorem dX8_at_5 : decode cX8_at 5 = .ok (.iadd, 1) := by decide +kernel
theorem dX8_at_6 : decode cX8_at 6 = .ok (.iconst 1, 1) := by decide +kernel
theorem dX8_at_7 : decode cX8_at 7 = .ok (.iadd, 1) := by decide +kernel
theorem dX8_at_8 : decode cX8_at 8 = .ok (.ireturn, 1) := by decide +kernel
theorem dX8_left_0 : decode cX8_left 0 = .ok (.iconst (-1), 1) := by decide +kernel
theorem dX8_left_1 : decode cX8_left 1 = .ok (.istore_n 2, 1) := by decide +kernel
theorem dX8_left_2 : decode cX8_left 2 = .ok (.iload_n 2, 1) := by decide +kernel
theorem dX8_left_3 : decode cX8_left 3 = .ok (.aload_n 0, 1) := by decide +kernel
theorem dX8_left_4 : decode cX8_left 4 = .ok (.getfield 86, 3) := by decide +kernel
theorem dX8_left_7 : decode cX8_left 7 = .ok (.if_icmp .ge 216, 3) := by decide +kernel
theorem dX8_left_10 : decode cX8_left 10 = .ok (.iload_n 1, 1) := by decide +kernel
theorem dX8_left_11 : decode cX8_left 11 = .ok (.aload_n 0, 1) := by decide +kernel
theorem dX8_left_12 : decode cX8_left 12 = .ok (.getfield 101, 3) := by decide +kernel
theorem dX8_left_15 : decode cX8_left 15 = .ok (.if_icmp .ne 7, 3) := by decide +kernel
theorem dX8_left_18 : decode cX8_left 18 = .ok (.iconst 0, 1) := by decide +kernel
theorem dX8_left_19 : decode cX8_left 19 = .ok (.goto 23, 3) := by decide +kernel
theorem dX8_left_22 : decode cX8_left 22 = .ok (.aload_n 0, 1) := by decide +kernel
theorem dX8_left_23 : decode cX8_left 23 = .ok (.getfield 35, 3) := by decide +kernel
theorem dX8_left_26 : decode cX8_left 26 = .ok (.iconst 1, 1) := by decide +kernel
theorem dX8_left_27 : decode cX8_left 27 = .ok (.iaload, 1) := by decide +kernel
theorem dX8_left_28 : decode cX8_left 28 = .ok (.aload_n 0, 1) := by decide +kernel
theorem dX8_left_29 : decode cX8_left 29 = .ok (.getfield 65, 3) := by decide +kernel
theorem dX8_left_32 : decode cX8_left 32 = .ok (.aload_n 0, 1) := by decide +kernel
theorem dX8_left_33 : decode cX8_left 33 = .ok (.iload_n 1, 1) := by decide +kernel
theorem dX8_left_34 : decode cX8_left 34 = .ok (.iconst 1, 1) := by decide +kernel
theorem dX8_left_35 : decode cX8_left 35 = .ok (.iadd, 1) := by decide +kernel
theorem dX8_left_36 : decode cX8_left 36 = .ok (.iload_n 2, 1) := by decide +kernel
theorem dX8_left_37 : decode cX8_left 37 = .ok (.invokevirtual 165, 3) := by decide +kernel
theorem dX8_left_40 : decode cX8_left 40 = .ok (.iaload, 1) := by decide +kernel
theorem dX8_left_41 : decode cX8_left 41 = .ok (.iadd, 1) := by decide +kernel
theorem dX8_left_42 : decode cX8_left 42 = .ok (.istore_n 3, 1) := by decide +kernel
theorem dX8_left_43 : decode cX8_left 43 = .ok (.iload_n 1, 1) := by decide +kernel
theorem dX8_left_44 : decode cX8_left 44 = .ok (.aload_n 0, 1) := by decide +kernel
theorem dX8_left_45 : decode cX8_left 45 = .ok (.getfield 101, 3) := by decide +kernel
theorem dX8_left_48 : decode cX8_left 48 = .ok (.if_icmp .ge 157, 3) := by decide +kernel
theorem dX8_left_51 : decode cX8_left 51 = .ok (.aload_n 0, 1) := by decide +kernel
theorem dX8_left_52 : decode cX8_left 52 = .ok (.iload_n 2, 1) := by decide +kernel
theorem dX8_left_53 : decode cX8_left 53 = .ok (.invokevirtual 146, 3) := by decide +kernel
theorem dX8_left_56 : decode cX8_left 56 = .ok (.iconst 0, 1) := by decide +kernel
theorem dX8_left_57 : decode cX8_left 57 = .ok (.istore 4, 2) := by decide +kernel
theorem dX8_left_59 : decode cX8_left 59 = .ok (.iload 4, 2) := by decide +kernel
theorem dX8_left_61 : decode cX8_left 61 = .ok (.aload_n 0, 1) := by decide +kernel
theorem dX8_left_62 : decode cX8_left 62 = .ok (.getfield 112, 3) := by decide +kernel
theorem dX8_left_65 : decode cX8_left 65 = .ok (.if_icmp .ge 64, 3) := by decide +kernel
theorem dX8_left_68 : decode cX8_left 68 = .ok (.aload_n 0, 1) := by decide +kernel
theorem dX8_left_69 : decode cX8_left 69 = .ok (.getfield 62, 3) := by decide +kernel
theorem dX8_left_72 : decode cX8_left 72 = .ok (.iload 4, 2) := by decide +kernel
theorem dX8_left_74 : decode cX8_left 74 = .ok (.iaload, 1) := by decide +kernel
theorem dX8_left_75 : decode cX8_left 75 = .ok (.aload_n 0, 1) := by decide +kernel
theorem dX8_left_76 : decode cX8_left 76 = .ok (.aload_n 0, 1) := by decide +kernel
theorem dX8_left_77 : decode cX8_left 77 = .ok (.getfield 59, 3) := by decide +kernel
theorem dX8_left_80 : decode cX8_left 80 = .ok (.iload 4, 2) := by decide +kernel
theorem dX8_left_82 : decode cX8_left 82 = .ok (.iaload, 1) := by decide +kernel
theorem dX8_left_83 : decode cX8_left 83 = .ok (.iload_n 1, 1) := by decide +kernel
theorem dX8_left_84 : decode cX8_left 84 = .ok (.invokevirtual 149, 3) := by decide +kernel
theorem dX8_left_87 : decode cX8_left 87 = .ok (.iadd, 1) := by decide +kernel
theorem dX8_left_88 : decode cX8_left 88 = .ok (.aload_n 0, 1) := by decide +kernel
theorem dX8_left_89 : decode cX8_left 89 = .ok (.getfield 65, 3) := by decide +kernel
theorem dX8_left_92 : decode cX8_left 92 = .ok (.aload_n 0, 1) := by decide +kernel
theorem dX8_left_93 : decode cX8_left 93 = .ok (.iload_n 1, 1) := by decide +kernel
theorem dX8_left_94 : decode cX8_left 94 = .ok (.iconst 1, 1) := by decide +kernel
theorem dX8_left_95 : decode cX8_left 95 = .ok (.iadd, 1) := by decide +kernel
theorem dX8_left_96 : decode cX8_left 96 = .ok (.aload_n 0, 1) := by decide +kernel
theorem dX8_left_97 : decode cX8_left 97 = .ok (.getfield 59, 3) := by decide +kernel
theorem dX8_left_100 : decode cX8_left 100 = .ok (.iload 4, 2) := by decide +kernel
theorem dX8_left_102 : decode cX8_left 102 = .ok (.iaload, 1) := by decide +kernel
theorem dX8_left_103 : decode cX8_left 103 = .ok (.invokevirtual 165, 3) := by decide +kernel
theorem dX8_left_106 : decode cX8_left 106 = .ok (.iaload, 1) := by decide +kernel
theorem dX8_left_107 : decode cX8_left 107 = .ok (.iadd, 1) := by decide +kernel
theorem dX8_left_108 : decode cX8_left 108 = .ok (.istore 5, 2) := by decide +kernel
theorem dX8_left_110 : decode cX8_left 110 = .ok (.iload 5, 2) := by decide +kernel
theorem dX8_left_112 : decode cX8_left 112 = .ok (.iload_n 3, 1) := by decide +kernel
theorem dX8_left_113 : decode cX8_left 113 = .ok (.if_icmp .ge 8, 3) := by decide +kernel
theorem dX8_left_116 : decode cX8_left 116 = .ok (.iload 5, 2) := by decide +kernel
theorem dX8_left_118 : decode cX8_left 118 = .ok (.goto 4, 3) := by decide +kernel
theorem dX8_left_121 : decode cX8_left 121 = .ok (.iload_n 3, 1) := by decide +kernel
theorem dX8_left_122 : decode cX8_left 122 = .ok (.istore_n 3, 1) := by decide +kernel
theorem dX8_left_123 : decode cX8_left 123 = .ok (.iinc 4 1, 3) := by decide +kernel
theorem dX8_left_126 : decode cX8_left 126 = .ok (.goto (-67), 3) := by decide +kernel
theorem dX8_left_129 : decode cX8_left 129 = .ok (.iconst 0, 1) := by decide +kernel
theorem dX8_left_130 : decode cX8_left 130 = .ok (.istore 4, 2) := by decide +kernel
theorem dX8_left_132 : decode cX8_left 132 = .ok (.iload 4, 2) := by decide +kernel
theorem dX8_left_134 : decode cX8_left 134 = .ok (.aload_n 0, 1) := by decide +kernel
theorem dX8_left_135 : decode cX8_left 135 = .ok (.getfield 86, 3) := by decide +kernel
theorem dX8_left_138 : decode cX8_left 138 = .ok (.if_icmp .ge 67, 3) := by decide +kernel
theorem dX8_left_141 : decode cX8_left 141 = .ok (.aload_n 0, 1) := by decide +kernel
theorem dX8_left_142 : decode cX8_left 142 = .ok (.iload 4, 2) := by decide +kernel
theorem dX8_left_144 : decode cX8_left 144 = .ok (.invokevirtual 115, 3) := by decide +kernel
theorem dX8_left_147 : decode cX8_left 147 = .ok (.ifCond .eq 35, 3) := by decide +kernel
theorem dX8_left_150 : decode cX8_left 150 = .ok (.aload_n 0, 1) := by decide +kernel
theorem dX8_left_151 : decode cX8_left 151 = .ok (.getfield 35, 3) := by decide +kernel
theorem dX8_left_154 : decode cX8_left 154 = .ok (.iconst 4, 1) := by decide +kernel
theorem dX8_left_155 : decode cX8_left 155 = .ok (.iaload, 1) := by decide +kernel
theorem dX8_left_156 : decode cX8_left 156 = .ok (.aload_n 0, 1) := by decide +kernel
theorem dX8_left_157 : decode cX8_left 157 = .ok (.iload 4, 2) := by decide +kernel
theorem dX8_left_159 : decode cX8_left 159 = .ok (.iload_n 1, 1) := by decide +kernel
theorem dX8_left_160 : decode cX8_left 160 = .ok (.invokevirtual 149, 3) := by decide +kernel
theorem dX8_left_163 : decode cX8_left 163 = .ok (.iadd, 1) := by decide +kernel
theorem dX8_left_164 : decode cX8_left 164 = .ok (.aload_n 0, 1) := by decide +kernel
theorem dX8_left_165 : decode cX8_left 165 = .ok (.getfield 65, 3) := by decide +kernel
theorem dX8_left_168 : decode cX8_left 168 = .ok (.aload_n 0, 1) := by decide +kernel
theorem dX8_left_169 : decode cX8_left 169 = .ok (.iload_n 1, 1) := by decide +kernel
theorem dX8_left_170 : decode cX8_left 170 = .ok (.iconst 1, 1) := by decide +kernel
theorem dX8_left_171 : decode cX8_left 171 = .ok (.iadd, 1) := by decide +kernel
theorem dX8_left_172 : decode cX8_left 172 = .ok (.iload 4, 2) := by decide +kernel
theorem dX8_left_174 : decode cX8_left 174 = .ok (.invokevirtual 165, 3) := by decide +kernel
theorem dX8_left_177 : decode cX8_left 177 = .ok (.iaload, 1) := by decide +kernel
theorem dX8_left_178 : decode cX8_left 178 = .ok (.iadd, 1) := by decide +kernel
theorem dX8_left_179 : decode cX8_left 179 = .ok (.goto 5, 3) := by decide +kernel
theorem dX8_left_182 : decode cX8_left 182 = .ok (.ldc 123, 2) := by decide +kernel
theorem dX8_left_184 : decode cX8_left 184 = .ok (.istore 5, 2) := by decide +kernel
theorem dX8_left_186 : decode cX8_left 186 = .ok (.iload 5, 2) := by decide +kernel
theorem dX8_left_188 : decode cX8_left 188 = .ok (.iload_n 3, 1) := by decide +kernel
theorem dX8_left_189 : decode cX8_left 189 = .ok (.if_icmp .ge 8, 3) := by decide +kernel
theorem dX8_left_192 : decode cX8_left 192 = .ok (.iload 5, 2) := by decide +kernel
theorem dX8_left_194 : decode cX8_left 194 = .ok (.goto 4, 3) := by decide +kernel
theorem dX8_left_197 : decode cX8_left 197 = .ok (.iload_n 3, 1) := by decide +kernel
theorem dX8_left_198 : decode cX8_left 198 = .ok (.istore_n 3, 1) := by decide +kernel
theorem dX8_left_199 : decode cX8_left 199 = .ok (.iinc 4 1, 3) := by decide +kernel
theorem dX8_left_202 : decode cX8_left 202 = .ok (.goto (-70), 3) := by decide +kernel
theorem dX8_left_205 : decode cX8_left 205 = .ok (.aload_n 0, 1) := by decide +kernel
theorem dX8_left_206 : decode cX8_left 206 = .ok (.getfield 65, 3) := by decide +kernel
theorem dX8_left_209 : decode cX8_left 209 = .ok (.aload_n 0, 1) := by decide +kernel
theorem dX8_left_210 : decode cX8_left 210 = .ok (.iload_n 1, 1) := by decide +kernel
theorem dX8_left_211 : decode cX8_left 211 = .ok (.iload_n 2, 1) := by decide +kernel
theorem dX8_left_212 : decode cX8_left 212 = .ok (.invokevirtual 165, 3) := by decide +kernel
theorem dX8_left_215 : decode cX8_left 215 = .ok (.iload_n 3, 1) := by decide +kernel
theorem dX8_left_216 : decode cX8_left 216 = .ok (.iastore, 1) := by decide +kernel
theorem dX8_left_217 : decode cX8_left 217 = .ok (.iinc 2 1, 3) := by decide +kernel
theorem dX8_left_220 : decode cX8_left 220 = .ok (.goto (-218), 3) := by decide +kernel
theorem dX8_left_223 : decode cX8_left 223 = .ok (.iconst 1, 1) := by decide +kernel
theorem dX8_left_224 : decode cX8_left 224 = .ok (.istore_n 2, 1) := by decide +kernel
theorem dX8_left_225 : decode cX8_left 225 = .ok (.iload_n 2, 1) := by decide +kernel
theorem dX8_left_226 : decode cX8_left 226 = .ok (.ifCond .eq 148, 3) := by decide +kernel
theorem dX8_left_229 : decode cX8_left 229 = .ok (.iconst 0, 1) := by decide +kernel
theorem dX8_left_230 : decode cX8_left 230 = .ok (.istore_n 2, 1) := by decide +kernel
theorem dX8_left_231 : decode cX8_left 231 = .ok (.iconst (-1), 1) := by decide +kernel
theorem dX8_left_232 : decode cX8_left 232 = .ok (.istore_n 3, 1) := by decide +kernel
theorem dX8_left_233 : decode cX8_left 233 = .ok (.iload_n 3, 1) := by decide +kernel
theorem dX8_left_234 : decode cX8_left 234 = .ok (.aload_n 0, 1) := by decide +kernel
theorem dX8_left_235 : decode cX8_left 235 = .ok (.getfield 86, 3) := by decide +kernel
theorem dX8_left_238 : decode cX8_left 238 = .ok (.if_icmp .ge 133, 3) := by decide +kernel
theorem dX8_left_241 : decode cX8_left 241 = .ok (.aload_n 0, 1) := by decide +kernel
theorem dX8_left_242 : decode cX8_left 242 = .ok (.iload_n 3, 1) := by decide +kernel
theorem dX8_left_243 : decode cX8_left 243 = .ok (.invokevirtual 146, 3) := by decide +kernel
theorem dX8_left_246 : decode cX8_left 246 = .ok (.iconst 0, 1) := by decide +kernel
theorem dX8_left_247 : decode cX8_left 247 = .ok (.istore 4, 2) := by decide +kernel
theorem dX8_left_249 : decode cX8_left 249 = .ok (.iload 4, 2) := by decide +kernel
theorem dX8_left_251 : decode cX8_left 251 = .ok (.aload_n 0, 1) := by decide +kernel
theorem dX8_left_252 : decode cX8_left 252 = .ok (.getfield 112, 3) := by decide +kernel
theorem dX8_left_255 : decode cX8_left 255 = .ok (.if_icmp .ge 110, 3) := by decide +kernel
theorem dX8_left_258 : decode cX8_left 258 = .ok (.aload_n 0, 1) := by decide +kernel
theorem dX8_left_259 : decode cX8_left 259 = .ok (.getfield 62, 3) := by decide +kernel
theorem dX8_left_262 : decode cX8_left 262 = .ok (.iload 4, 2) := by decide +kernel
theorem dX8_left_264 : decode cX8_left 264 = .ok (.iaload, 1) := by decide +kernel
theorem dX8_left_265 : decode cX8_left 265 = .ok (.aload_n 0, 1) := by decide +kernel
theorem dX8_left_266 : decode cX8_left 266 = .ok (.getfield 35, 3) := by decide +kernel
theorem dX8_left_269 : decode cX8_left 269 = .ok (.iconst 2, 1) := by decide +kernel
theorem dX8_left_270 : decode cX8_left 270 = .ok (.iaload, 1) := by decide +kernel
theorem dX8_left_271 : decode cX8_left 271 = .ok (.iadd, 1) := by decide +kernel
theorem dX8_left_272 : decode cX8_left 272 = .ok (.aload_n 0, 1) := by decide +kernel
theorem dX8_left_273 : decode cX8_left 273 = .ok (.getfield 65, 3) := by decide +kernel
theorem dX8_left_276 : decode cX8_left 276 = .ok (.aload_n 0, 1) := by decide +kernel
theorem dX8_left_277 : decode cX8_left 277 = .ok (.iload_n 1, 1) := by decide +kernel
theorem dX8_left_278 : decode cX8_left 278 = .ok (.aload_n 0, 1) := by decide +kernel
theorem dX8_left_279 : decode cX8_left 279 = .ok (.getfield 59, 3) := by decide +kernel
theorem dX8_left_282 : decode cX8_left 282 = .ok (.iload 4, 2) := by decide +kernel
theorem dX8_left_284 : decode cX8_left 284 = .ok (.iaload, 1) := by decide +kernel
theorem dX8_left_285 : decode cX8_left 285 = .ok (.invokevirtual 165, 3) := by decide +kernel
theorem dX8_left_288 : decode cX8_left 288 = .ok (.iaload, 1) := by decide +kernel
theorem dX8_left_289 : decode cX8_left 289 = .ok (.iadd, 1) := by decide +kernel
theorem dX8_left_290 : decode cX8_left 290 = .ok (.istore 5, 2) := by decide +kernel
theorem dX8_left_292 : decode cX8_left 292 = .ok (.iload_n 2, 1) := by decide +kernel
theorem dX8_left_293 : decode cX8_left 293 = .ok (.iload 5, 2) := by decide +kernel
theorem dX8_left_295 : decode cX8_left 295 = .ok (.aload_n 0, 1) := by decide +kernel
theorem dX8_left_296 : decode cX8_left 296 = .ok (.getfield 65, 3) := by decide +kernel
theorem dX8_left_299 : decode cX8_left 299 = .ok (.aload_n 0, 1) := by decide +kernel
theorem dX8_left_300 : decode cX8_left 300 = .ok (.iload_n 1, 1) := by decide +kernel
theorem dX8_left_301 : decode cX8_left 301 = .ok (.iload_n 3, 1) := by decide +kernel
theorem dX8_left_302 : decode cX8_left 302 = .ok (.invokevirtual 165, 3) := by decide +kernel
theorem dX8_left_305 : decode cX8_left 305 = .ok (.iaload, 1) := by decide +kernel
theorem dX8_left_306 : decode cX8_left 306 = .ok (.if_icmp .ge 7, 3) := by decide +kernel
theorem dX8_left_309 : decode cX8_left 309 = .ok (.iconst 1, 1) := by decide +kernel
theorem dX8_left_310 : decode cX8_left 310 = .ok (.goto 4, 3) := by decide +kernel
theorem dX8_left_313 : decode cX8_left 313 = .ok (.iconst 0, 1) := by decide +kernel
theorem dX8_left_314 : decode cX8_left 314 = .ok (.ior, 1) := by decide +kernel
theorem dX8_left_315 : decode cX8_left 315 = .ok (.istore_n 2, 1) := by decide +kernel
theorem dX8_left_316 : decode cX8_left 316 = .ok (.aload_n 0, 1) := by decide +kernel
theorem dX8_left_317 : decode cX8_left 317 = .ok (.getfield 65, 3) := by decide +kernel
theorem dX8_left_320 : decode cX8_left 320 = .ok (.aload_n 0, 1) := by decide +kernel
theorem dX8_left_321 : decode cX8_left 321 = .ok (.iload_n 1, 1) := by decide +kernel
theorem dX8_left_322 : decode cX8_left 322 = .ok (.iload_n 3, 1) := by decide +kernel
theorem dX8_left_323 : decode cX8_left 323 = .ok (.invokevirtual 165, 3) := by decide +kernel
theorem dX8_left_326 : decode cX8_left 326 = .ok (.iload 5, 2) := by decide +kernel
theorem dX8_left_328 : decode cX8_left 328 = .ok (.aload_n 0, 1) := by decide +kernel
theorem dX8_left_329 : decode cX8_left 329 = .ok (.getfield 65, 3) := by decide +kernel
theorem dX8_left_332 : decode cX8_left 332 = .ok (.aload_n 0, 1) := by decide +kernel
theorem dX8_left_333 : decode cX8_left 333 = .ok (.iload_n 1, 1) := by decide +kernel
theorem dX8_left_334 : decode cX8_left 334 = .ok (.iload_n 3, 1) := by decide +kernel
theorem dX8_left_335 : decode cX8_left 335 = .ok (.invokevirtual 165, 3) := by decide +kernel
theorem dX8_left_338 : decode cX8_left 338 = .ok (.iaload, 1) := by decide +kernel
theorem dX8_left_339 : decode cX8_left 339 = .ok (.if_icmp .ge 8, 3) := by decide +kernel
theorem dX8_left_342 : decode cX8_left 342 = .ok (.iload 5, 2) := by decide +kernel
theorem dX8_left_344 : decode cX8_left 344 = .ok (.goto 14, 3) := by decide +kernel
theorem dX8_left_347 : decode cX8_left 347 = .ok (.aload_n 0, 1) := by decide +kernel
theorem dX8_left_348 : decode cX8_left 348 = .ok (.getfield 65, 3) := by decide +kernel
theorem dX8_left_351 : decode cX8_left 351 = .ok (.aload_n 0, 1) := by decide +kernel
theorem dX8_left_352 : decode cX8_left 352 = .ok (.iload_n 1, 1) := by decide +kernel
theorem dX8_left_353 : decode cX8_left 353 = .ok (.iload_n 3, 1) := by decide +kernel
theorem dX8_left_354 : decode cX8_left 354 = .ok (.invokevirtual 165, 3) := by decide +kernel
theorem dX8_left_357 : decode cX8_left 357 = .ok (.iaload, 1) := by decide +kernel
theorem dX8_left_358 : decode cX8_left 358 = .ok (.iastore, 1) := by decide +kernel
theorem dX8_left_359 : decode cX8_left 359 = .ok (.iinc 4 1, 3) := by decide +kernel
theorem dX8_left_362 : decode cX8_left 362 = .ok (.goto (-113), 3) := by decide +kernel
theorem dX8_left_365 : decode cX8_left 365 = .ok (.iinc 3 1, 3) := by decide +kernel
theorem dX8_left_368 : decode cX8_left 368 = .ok (.goto (-135), 3) := by decide +kernel
theorem dX8_left_371 : decode cX8_left 371 = .ok (.goto (-146), 3) := by decide +kernel
theorem dX8_left_374 : decode cX8_left 374 = .ok (.return_, 1) := by decide +kernel
theorem dX8_put_0 : decode cX8_put 0 = .ok (.aload_n 0, 1) := by decide +kernel
theorem dX8_put_1 : decode cX8_put 1 = .ok (.getfield 68, 3) := by decide +kernel
theorem dX8_put_4 : decode cX8_put 4 = .ok (.aload_n 0, 1) := by decide +kernel
theorem dX8_put_5 : decode cX8_put 5 = .ok (.getfield 168, 3) := by decide +kernel
theorem dX8_put_8 : decode cX8_put 8 = .ok (.iload_n 1, 1) := by decide +kernel
theorem dX8_put_9 : decode cX8_put 9 = .ok (.iastore, 1) := by decide +kernel
theorem dX8_put_10 : decode cX8_put 10 = .ok (.aload_n 0, 1) := by decide +kernel
theorem dX8_put_11 : decode cX8_put 11 = .ok (.getfield 71, 3) := by decide +kernel
theorem dX8_put_14 : decode cX8_put 14 = .ok (.aload_n 0, 1) := by decide +kernel
theorem dX8_put_15 : decode cX8_put 15 = .ok (.getfield 168, 3) := by decide +kernel
theorem dX8_put_18 : decode cX8_put 18 = .ok (.iload_n 2, 1) := by decide +kernel
theorem dX8_put_19 : decode cX8_put 19 = .ok (.iastore, 1) := by decide +kernel
theorem dX8_put_20 : decode cX8_put 20 = .ok (.aload_n 0, 1) := by decide +kernel
theorem dX8_put_21 : decode cX8_put 21 = .ok (.getfield 74, 3) := by decide +kernel
theorem dX8_put_24 : decode cX8_put 24 = .ok (.aload_n 0, 1) := by decide +kernel
theorem dX8_put_25 : decode cX8_put 25 = .ok (.getfield 168, 3) := by decide +kernel
theorem dX8_put_28 : decode cX8_put 28 = .ok (.iload_n 3, 1) := by decide +kernel
theorem dX8_put_29 : decode cX8_put 29 = .ok (.iastore, 1) := by decide +kernel
theorem dX8_put_30 : decode cX8_put 30 = .ok (.aload_n 0, 1) := by decide +kernel
theorem dX8_put_31 : decode cX8_put 31 = .ok (.getfield 77, 3) := by decide +kernel
theorem dX8_put_34 : decode cX8_put 34 = .ok (.aload_n 0, 1) := by decide +kernel
theorem dX8_put_35 : decode cX8_put 35 = .ok (.getfield 168, 3) := by decide +kernel
theorem dX8_put_38 : decode cX8_put 38 = .ok (.iload 4, 2) := by decide +kernel
theorem dX8_put_40 : decode cX8_put 40 = .ok (.iastore, 1) := by decide +kernel
theorem dX8_put_41 : decode cX8_put 41 = .ok (.aload_n 0, 1) := by decide +kernel
theorem dX8_put_42 : decode cX8_put 42 = .ok (.dup, 1) := by decide +kernel
theorem dX8_put_43 : decode cX8_put 43 = .ok (.getfield 168, 3) := by decide +kernel
theorem dX8_put_46 : decode cX8_put 46 = .ok (.iconst 1, 1) := by decide +kernel
theorem dX8_put_47 : decode cX8_put 47 = .ok (.iadd, 1) := by decide +kernel
theorem dX8_put_48 : decode cX8_put 48 = .ok (.putfield 168, 3) := by decide +kernel
theorem dX8_put_51 : decode cX8_put 51 = .ok (.return_, 1) := by decide +kernel
theorem dX8_choose__0 : decode cX8_choose_ 0 = .ok (.aload_n 0, 1) := by decide +kernel
theorem dX8_choose__1 : decode cX8_choose_ 1 = .ok (.getfield 65, 3) := by decide +kernel
theorem dX8_choose__4 : decode cX8_choose_ 4 = .ok (.aload_n 0, 1) := by decide +kernel
theorem dX8_choose__5 : decode cX8_choose_ 5 = .ok (.iload_n 1, 1) := by decide +kernel
theorem dX8_choose__6 : decode cX8_choose_ 6 = .ok (.iload_n 2, 1) := by decide +kernel
theorem dX8_choose__7 : decode cX8_choose_ 7 = .ok (.invokevirtual 165, 3) := by decide +kernel
theorem dX8_choose__10 : decode cX8_choose_ 10 = .ok (.iaload, 1) := by decide +kernel
theorem dX8_choose__11 : decode cX8_choose_ 11 = .ok (.istore_n 3, 1) := by decide +kernel
theorem dX8_choose__12 : decode cX8_choose_ 12 = .ok (.aload_n 0, 1) := by decide +kernel
theorem dX8_choose__13 : decode cX8_choose_ 13 = .ok (.iload_n 2, 1) := by decide +kernel
theorem dX8_choose__14 : decode cX8_choose_ 14 = .ok (.invokevirtual 146, 3) := by decide +kernel
theorem dX8_choose__17 : decode cX8_choose_ 17 = .ok (.iconst 0, 1) := by decide +kernel
theorem dX8_choose__18 : decode cX8_choose_ 18 = .ok (.istore 4, 2) := by decide +kernel
theorem dX8_choose__20 : decode cX8_choose_ 20 = .ok (.iload 4, 2) := by decide +kernel
theorem dX8_choose__22 : decode cX8_choose_ 22 = .ok (.aload_n 0, 1) := by decide +kernel
theorem dX8_choose__23 : decode cX8_choose_ 23 = .ok (.getfield 112, 3) := by decide +kernel
theorem dX8_choose__26 : decode cX8_choose_ 26 = .ok (.if_icmp .ge 73, 3) := by decide +kernel
theorem dX8_choose__29 : decode cX8_choose_ 29 = .ok (.aload_n 0, 1) := by decide +kernel
theorem dX8_choose__30 : decode cX8_choose_ 30 = .ok (.getfield 62, 3) := by decide +kernel
theorem dX8_choose__33 : decode cX8_choose_ 33 = .ok (.iload 4, 2) := by decide +kernel
theorem dX8_choose__35 : decode cX8_choose_ 35 = .ok (.iaload, 1) := by decide +kernel
theorem dX8_choose__36 : decode cX8_choose_ 36 = .ok (.aload_n 0, 1) := by decide +kernel
theorem dX8_choose__37 : decode cX8_choose_ 37 = .ok (.aload_n 0, 1) := by decide +kernel
theorem dX8_choose__38 : decode cX8_choose_ 38 = .ok (.getfield 59, 3) := by decide +kernel
theorem dX8_choose__41 : decode cX8_choose_ 41 = .ok (.iload 4, 2) := by decide +kernel
theorem dX8_choose__43 : decode cX8_choose_ 43 = .ok (.iaload, 1) := by decide +kernel
theorem dX8_choose__44 : decode cX8_choose_ 44 = .ok (.iload_n 1, 1) := by decide +kernel
theorem dX8_choose__45 : decode cX8_choose_ 45 = .ok (.invokevirtual 149, 3) := by decide +kernel
theorem dX8_choose__48 : decode cX8_choose_ 48 = .ok (.iadd, 1) := by decide +kernel
theorem dX8_choose__49 : decode cX8_choose_ 49 = .ok (.istore 5, 2) := by decide +kernel
theorem dX8_choose__51 : decode cX8_choose_ 51 = .ok (.iload 5, 2) := by decide +kernel
theorem dX8_choose__53 : decode cX8_choose_ 53 = .ok (.aload_n 0, 1) := by decide +kernel
theorem dX8_choose__54 : decode cX8_choose_ 54 = .ok (.getfield 65, 3) := by decide +kernel
theorem dX8_choose__57 : decode cX8_choose_ 57 = .ok (.aload_n 0, 1) := by decide +kernel
theorem dX8_choose__58 : decode cX8_choose_ 58 = .ok (.iload_n 1, 1) := by decide +kernel
theorem dX8_choose__59 : decode cX8_choose_ 59 = .ok (.iconst 1, 1) := by decide +kernel
theorem dX8_choose__60 : decode cX8_choose_ 60 = .ok (.iadd, 1) := by decide +kernel
theorem dX8_choose__61 : decode cX8_choose_ 61 = .ok (.aload_n 0, 1) := by decide +kernel
theorem dX8_choose__62 : decode cX8_choose_ 62 = .ok (.getfield 59, 3) := by decide +kernel
theorem dX8_choose__65 : decode cX8_choose_ 65 = .ok (.iload 4, 2) := by decide +kernel
theorem dX8_choose__67 : decode cX8_choose_ 67 = .ok (.iaload, 1) := by decide +kernel
theorem dX8_choose__68 : decode cX8_choose_ 68 = .ok (.invokevirtual 165, 3) := by decide +kernel
theorem dX8_choose__71 : decode cX8_choose_ 71 = .ok (.iaload, 1) := by decide +kernel
theorem dX8_choose__72 : decode cX8_choose_ 72 = .ok (.iadd, 1) := by decide +kernel
theorem dX8_choose__73 : decode cX8_choose_ 73 = .ok (.iload_n 3, 1) := by decide +kernel
theorem dX8_choose__74 : decode cX8_choose_ 74 = .ok (.if_icmp .ne 19, 3) := by decide +kernel
theorem dX8_choose__77 : decode cX8_choose_ 77 = .ok (.aload_n 0, 1) := by decide +kernel
theorem dX8_choose__78 : decode cX8_choose_ 78 = .ok (.iconst 0, 1) := by decide +kernel
theorem dX8_choose__79 : decode cX8_choose_ 79 = .ok (.aload_n 0, 1) := by decide +kernel
theorem dX8_choose__80 : decode cX8_choose_ 80 = .ok (.getfield 59, 3) := by decide +kernel
theorem dX8_choose__83 : decode cX8_choose_ 83 = .ok (.iload 4, 2) := by decide +kernel
theorem dX8_choose__85 : decode cX8_choose_ 85 = .ok (.iaload, 1) := by decide +kernel
theorem dX8_choose__86 : decode cX8_choose_ 86 = .ok (.iload_n 1, 1) := by decide +kernel
theorem dX8_choose__87 : decode cX8_choose_ 87 = .ok (.iload 5, 2) := by decide +kernel
theorem dX8_choose__89 : decode cX8_choose_ 89 = .ok (.invokevirtual 171, 3) := by decide +kernel
theorem dX8_choose__92 : decode cX8_choose_ 92 = .ok (.return_, 1) := by decide +kernel
theorem dX8_choose__93 : decode cX8_choose_ 93 = .ok (.iinc 4 1, 3) := by decide +kernel
theorem dX8_choose__96 : decode cX8_choose_ 96 = .ok (.goto (-76), 3) := by decide +kernel
theorem dX8_choose__99 : decode cX8_choose_ 99 = .ok (.aload_n 0, 1) := by decide +kernel
theorem dX8_choose__100 : decode cX8_choose_ 100 = .ok (.getfield 35, 3) := by decide +kernel
theorem dX8_choose__103 : decode cX8_choose_ 103 = .ok (.iconst 1, 1) := by decide +kernel
theorem dX8_choose__104 : decode cX8_choose_ 104 = .ok (.iaload, 1) := by decide +kernel
theorem dX8_choose__105 : decode cX8_choose_ 105 = .ok (.aload_n 0, 1) := by decide +kernel
theorem dX8_choose__106 : decode cX8_choose_ 106 = .ok (.getfield 65, 3) := by decide +kernel
theorem dX8_choose__109 : decode cX8_choose_ 109 = .ok (.aload_n 0, 1) := by decide +kernel
theorem dX8_choose__110 : decode cX8_choose_ 110 = .ok (.iload_n 1, 1) := by decide +kernel
theorem dX8_choose__111 : decode cX8_choose_ 111 = .ok (.iconst 1, 1) := by decide +kernel
theorem dX8_choose__112 : decode cX8_choose_ 112 = .ok (.iadd, 1) := by decide +kernel
theorem dX8_choose__113 : decode cX8_choose_ 113 = .ok (.iload_n 2, 1) := by decide +kernel
theorem dX8_choose__114 : decode cX8_choose_ 114 = .ok (.invokevirtual 165, 3) := by decide +kernel
theorem dX8_choose__117 : decode cX8_choose_ 117 = .ok (.iaload, 1) := by decide +kernel
theorem dX8_choose__118 : decode cX8_choose_ 118 = .ok (.iadd, 1) := by decide +kernel
theorem dX8_choose__119 : decode cX8_choose_ 119 = .ok (.iload_n 3, 1) := by decide +kernel
theorem dX8_choose__120 : decode cX8_choose_ 120 = .ok (.if_icmp .ne 17, 3) := by decide +kernel
theorem dX8_choose__123 : decode cX8_choose_ 123 = .ok (.aload_n 0, 1) := by decide +kernel
theorem dX8_choose__124 : decode cX8_choose_ 124 = .ok (.iconst 1, 1) := by decide +kernel
theorem dX8_choose__125 : decode cX8_choose_ 125 = .ok (.iload_n 2, 1) := by decide +kernel
theorem dX8_choose__126 : decode cX8_choose_ 126 = .ok (.iload_n 1, 1) := by decide +kernel
theorem dX8_choose__127 : decode cX8_choose_ 127 = .ok (.aload_n 0, 1) := by decide +kernel
theorem dX8_choose__128 : decode cX8_choose_ 128 = .ok (.getfield 35, 3) := by decide +kernel
theorem dX8_choose__131 : decode cX8_choose_ 131 = .ok (.iconst 1, 1) := by decide +kernel
theorem dX8_choose__132 : decode cX8_choose_ 132 = .ok (.iaload, 1) := by decide +kernel
theorem dX8_choose__133 : decode cX8_choose_ 133 = .ok (.invokevirtual 171, 3) := by decide +kernel
theorem dX8_choose__136 : decode cX8_choose_ 136 = .ok (.return_, 1) := by decide +kernel
theorem dX8_choose__137 : decode cX8_choose_ 137 = .ok (.iconst 0, 1) := by decide +kernel
theorem dX8_choose__138 : decode cX8_choose_ 138 = .ok (.istore 4, 2) := by decide +kernel
theorem dX8_choose__140 : decode cX8_choose_ 140 = .ok (.iload 4, 2) := by decide +kernel
theorem dX8_choose__142 : decode cX8_choose_ 142 = .ok (.aload_n 0, 1) := by decide +kernel
theorem dX8_choose__143 : decode cX8_choose_ 143 = .ok (.getfield 112, 3) := by decide +kernel
theorem dX8_choose__146 : decode cX8_choose_ 146 = .ok (.if_icmp .ge 65, 3) := by decide +kernel
theorem dX8_choose__149 : decode cX8_choose_ 149 = .ok (.aload_n 0, 1) := by decide +kernel
theorem dX8_choose__150 : decode cX8_choose_ 150 = .ok (.getfield 62, 3) := by decide +kernel
theorem dX8_choose__153 : decode cX8_choose_ 153 = .ok (.iload 4, 2) := by decide +kernel
theorem dX8_choose__155 : decode cX8_choose_ 155 = .ok (.iaload, 1) := by decide +kernel
theorem dX8_choose__156 : decode cX8_choose_ 156 = .ok (.aload_n 0, 1) := by decide +kernel
theorem dX8_choose__157 : decode cX8_choose_ 157 = .ok (.getfield 35, 3) := by decide +kernel
theorem dX8_choose__160 : decode cX8_choose_ 160 = .ok (.iconst 2, 1) := by decide +kernel
theorem dX8_choose__161 : decode cX8_choose_ 161 = .ok (.iaload, 1) := by decide +kernel
theorem dX8_choose__162 : decode cX8_choose_ 162 = .ok (.iadd, 1) := by decide +kernel
theorem dX8_choose__163 : decode cX8_choose_ 163 = .ok (.istore 5, 2) := by decide +kernel
theorem dX8_choose__165 : decode cX8_choose_ 165 = .ok (.iload 5, 2) := by decide +kernel
theorem dX8_choose__167 : decode cX8_choose_ 167 = .ok (.aload_n 0, 1) := by decide +kernel
theorem dX8_choose__168 : decode cX8_choose_ 168 = .ok (.getfield 65, 3) := by decide +kernel
theorem dX8_choose__171 : decode cX8_choose_ 171 = .ok (.aload_n 0, 1) := by decide +kernel
theorem dX8_choose__172 : decode cX8_choose_ 172 = .ok (.iload_n 1, 1) := by decide +kernel
theorem dX8_choose__173 : decode cX8_choose_ 173 = .ok (.aload_n 0, 1) := by decide +kernel
theorem dX8_choose__174 : decode cX8_choose_ 174 = .ok (.getfield 59, 3) := by decide +kernel
theorem dX8_choose__177 : decode cX8_choose_ 177 = .ok (.iload 4, 2) := by decide +kernel
theorem dX8_choose__179 : decode cX8_choose_ 179 = .ok (.iaload, 1) := by decide +kernel
theorem dX8_choose__180 : decode cX8_choose_ 180 = .ok (.invokevirtual 165, 3) := by decide +kernel
theorem dX8_choose__183 : decode cX8_choose_ 183 = .ok (.iaload, 1) := by decide +kernel
theorem dX8_choose__184 : decode cX8_choose_ 184 = .ok (.iadd, 1) := by decide +kernel
theorem dX8_choose__185 : decode cX8_choose_ 185 = .ok (.iload_n 3, 1) := by decide +kernel
theorem dX8_choose__186 : decode cX8_choose_ 186 = .ok (.if_icmp .ne 19, 3) := by decide +kernel
theorem dX8_choose__189 : decode cX8_choose_ 189 = .ok (.aload_n 0, 1) := by decide +kernel
theorem dX8_choose__190 : decode cX8_choose_ 190 = .ok (.iconst 2, 1) := by decide +kernel
theorem dX8_choose__191 : decode cX8_choose_ 191 = .ok (.aload_n 0, 1) := by decide +kernel
theorem dX8_choose__192 : decode cX8_choose_ 192 = .ok (.getfield 59, 3) := by decide +kernel
theorem dX8_choose__195 : decode cX8_choose_ 195 = .ok (.iload 4, 2) := by decide +kernel
theorem dX8_choose__197 : decode cX8_choose_ 197 = .ok (.iaload, 1) := by decide +kernel
theorem dX8_choose__198 : decode cX8_choose_ 198 = .ok (.iconst (-1), 1) := by decide +kernel
theorem dX8_choose__199 : decode cX8_choose_ 199 = .ok (.iload 5, 2) := by decide +kernel
theorem dX8_choose__201 : decode cX8_choose_ 201 = .ok (.invokevirtual 171, 3) := by decide +kernel
theorem dX8_choose__204 : decode cX8_choose_ 204 = .ok (.return_, 1) := by decide +kernel
theorem dX8_choose__205 : decode cX8_choose_ 205 = .ok (.iinc 4 1, 3) := by decide +kernel
theorem dX8_choose__208 : decode cX8_choose_ 208 = .ok (.goto (-68), 3) := by decide +kernel
theorem dX8_choose__211 : decode cX8_choose_ 211 = .ok (.iconst 0, 1) := by decide +kernel
theorem dX8_choose__212 : decode cX8_choose_ 212 = .ok (.istore 4, 2) := by decide +kernel
theorem dX8_choose__214 : decode cX8_choose_ 214 = .ok (.iload 4, 2) := by decide +kernel
theorem dX8_choose__216 : decode cX8_choose_ 216 = .ok (.aload_n 0, 1) := by decide +kernel
theorem dX8_choose__217 : decode cX8_choose_ 217 = .ok (.getfield 86, 3) := by decide +kernel
theorem dX8_choose__220 : decode cX8_choose_ 220 = .ok (.if_icmp .ge 78, 3) := by decide +kernel
theorem dX8_choose__223 : decode cX8_choose_ 223 = .ok (.aload_n 0, 1) := by decide +kernel
theorem dX8_choose__224 : decode cX8_choose_ 224 = .ok (.iload 4, 2) := by decide +kernel
theorem dX8_choose__226 : decode cX8_choose_ 226 = .ok (.invokevirtual 115, 3) := by decide +kernel
theorem dX8_choose__229 : decode cX8_choose_ 229 = .ok (.ifCond .eq 20, 3) := by decide +kernel
theorem dX8_choose__232 : decode cX8_choose_ 232 = .ok (.aload_n 0, 1) := by decide +kernel
theorem dX8_choose__233 : decode cX8_choose_ 233 = .ok (.getfield 35, 3) := by decide +kernel
theorem dX8_choose__236 : decode cX8_choose_ 236 = .ok (.iconst 4, 1) := by decide +kernel
theorem dX8_choose__237 : decode cX8_choose_ 237 = .ok (.iaload, 1) := by decide +kernel
theorem dX8_choose__238 : decode cX8_choose_ 238 = .ok (.aload_n 0, 1) := by decide +kernel
theorem dX8_choose__239 : decode cX8_choose_ 239 = .ok (.iload 4, 2) := by decide +kernel
theorem dX8_choose__241 : decode cX8_choose_ 241 = .ok (.iload_n 1, 1) := by decide +kernel
theorem dX8_choose__242 : decode cX8_choose_ 242 = .ok (.invokevirtual 149, 3) := by decide +kernel
theorem dX8_choose__245 : decode cX8_choose_ 245 = .ok (.iadd, 1) := by decide +kernel
theorem dX8_choose__246 : decode cX8_choose_ 246 = .ok (.goto 5, 3) := by decide +kernel
theorem dX8_choose__249 : decode cX8_choose_ 249 = .ok (.ldc 123, 2) := by decide +kernel
theorem dX8_choose__251 : decode cX8_choose_ 251 = .ok (.istore 5, 2) := by decide +kernel
theorem dX8_choose__253 : decode cX8_choose_ 253 = .ok (.iload 5, 2) := by decide +kernel
theorem dX8_choose__255 : decode cX8_choose_ 255 = .ok (.ldc 123, 2) := by decide +kernel
theorem dX8_choose__257 : decode cX8_choose_ 257 = .ok (.if_icmp .ge 35, 3) := by decide +kernel
theorem dX8_choose__260 : decode cX8_choose_ 260 = .ok (.iload 5, 2) := by decide +kernel
theorem dX8_choose__262 : decode cX8_choose_ 262 = .ok (.aload_n 0, 1) := by decide +kernel
theorem dX8_choose__263 : decode cX8_choose_ 263 = .ok (.getfield 65, 3) := by decide +kernel
theorem dX8_choose__266 : decode cX8_choose_ 266 = .ok (.aload_n 0, 1) := by decide +kernel
theorem dX8_choose__267 : decode cX8_choose_ 267 = .ok (.iload_n 1, 1) := by decide +kernel
theorem dX8_choose__268 : decode cX8_choose_ 268 = .ok (.iconst 1, 1) := by decide +kernel
theorem dX8_choose__269 : decode cX8_choose_ 269 = .ok (.iadd, 1) := by decide +kernel
theorem dX8_choose__270 : decode cX8_choose_ 270 = .ok (.iload 4, 2) := by decide +kernel
theorem dX8_choose__272 : decode cX8_choose_ 272 = .ok (.invokevirtual 165, 3) := by decide +kernel
theorem dX8_choose__275 : decode cX8_choose_ 275 = .ok (.iaload, 1) := by decide +kernel
theorem dX8_choose__276 : decode cX8_choose_ 276 = .ok (.iadd, 1) := by decide +kernel
theorem dX8_choose__277 : decode cX8_choose_ 277 = .ok (.iload_n 3, 1) := by decide +kernel
theorem dX8_choose__278 : decode cX8_choose_ 278 = .ok (.if_icmp .ne 14, 3) := by decide +kernel
theorem dX8_choose__281 : decode cX8_choose_ 281 = .ok (.aload_n 0, 1) := by decide +kernel
theorem dX8_choose__282 : decode cX8_choose_ 282 = .ok (.iconst 3, 1) := by decide +kernel
theorem dX8_choose__283 : decode cX8_choose_ 283 = .ok (.iload 4, 2) := by decide +kernel
theorem dX8_choose__285 : decode cX8_choose_ 285 = .ok (.iload_n 1, 1) := by decide +kernel
theorem dX8_choose__286 : decode cX8_choose_ 286 = .ok (.iload 5, 2) := by decide +kernel
theorem dX8_choose__288 : decode cX8_choose_ 288 = .ok (.invokevirtual 171, 3) := by decide +kernel
theorem dX8_choose__291 : decode cX8_choose_ 291 = .ok (.return_, 1) := by decide +kernel
theorem dX8_choose__292 : decode cX8_choose_ 292 = .ok (.iinc 4 1, 3) := by decide +kernel
theorem dX8_choose__295 : decode cX8_choose_ 295 = .ok (.goto (-81), 3) := by decide +kernel
theorem dX8_choose__298 : decode cX8_choose_ 298 = .ok (.return_, 1) := by decide +kernel
theorem dX8_align_0 : decode cX8_align 0 = .ok (.aload_n 0, 1) := by decide +kernel
theorem dX8_align_1 : decode cX8_align 1 = .ok (.iconst 0, 1) := by decide +kernel
theorem dX8_align_2 : decode cX8_align 2 = .ok (.putfield 83, 3) := by decide +kernel
theorem dX8_align_5 : decode cX8_align 5 = .ok (.aload_n 0, 1) := by decide +kernel
theorem dX8_align_6 : decode cX8_align 6 = .ok (.getfield 86, 3) := by decide +kernel
theorem dX8_align_9 : decode cX8_align 9 = .ok (.ifCond .ne 6, 3) := by decide +kernel
theorem dX8_align_12 : decode cX8_align 12 = .ok (.bipush (-3), 2) := by decide +kernel
theorem dX8_align_14 : decode cX8_align 14 = .ok (.ireturn, 1) := by decide +kernel
theorem dX8_align_15 : decode cX8_align 15 = .ok (.aload_n 0, 1) := by decide +kernel
theorem dX8_align_16 : decode cX8_align 16 = .ok (.getfield 101, 3) := by decide +kernel
theorem dX8_align_19 : decode cX8_align 19 = .ok (.istore_n 1, 1) := by decide +kernel
theorem dX8_align_20 : decode cX8_align 20 = .ok (.iload_n 1, 1) := by decide +kernel
theorem dX8_align_21 : decode cX8_align 21 = .ok (.ifCond .lt 14, 3) := by decide +kernel
theorem dX8_align_24 : decode cX8_align 24 = .ok (.aload_n 0, 1) := by decide +kernel
theorem dX8_align_25 : decode cX8_align 25 = .ok (.iload_n 1, 1) := by decide +kernel
theorem dX8_align_26 : decode cX8_align 26 = .ok (.invokevirtual 175, 3) := by decide +kernel
theorem dX8_align_29 : decode cX8_align 29 = .ok (.iinc 1 (-1), 3) := by decide +kernel
theorem dX8_align_32 : decode cX8_align 32 = .ok (.goto (-12), 3) := by decide +kernel
theorem dX8_align_35 : decode cX8_align 35 = .ok (.aload_n 0, 1) := by decide +kernel
theorem dX8_align_36 : decode cX8_align 36 = .ok (.iconst 0, 1) := by decide +kernel
theorem dX8_align_37 : decode cX8_align 37 = .ok (.putfield 168, 3) := by decide +kernel
theorem dX8_align_40 : decode cX8_align 40 = .ok (.aload_n 0, 1) := by decide +kernel
theorem dX8_align_41 : decode cX8_align 41 = .ok (.aload_n 0, 1) := by decide +kernel
theorem dX8_align_42 : decode cX8_align 42 = .ok (.getfield 65, 3) := by decide +kernel
theorem dX8_align_45 : decode cX8_align 45 = .ok (.aload_n 0, 1) := by decide +kernel
theorem dX8_align_46 : decode cX8_align 46 = .ok (.iconst 0, 1) := by decide +kernel
theorem dX8_align_47 : decode cX8_align 47 = .ok (.iconst (-1), 1) := by decide +kernel
theorem dX8_align_48 : decode cX8_align 48 = .ok (.invokevirtual 165, 3) := by decide +kernel
theorem dX8_align_51 : decode cX8_align 51 = .ok (.iaload, 1) := by decide +kernel
theorem dX8_align_52 : decode cX8_align 52 = .ok (.putfield 178, 3) := by decide +kernel
theorem dX8_align_55 : decode cX8_align 55 = .ok (.iconst 0, 1) := by decide +kernel
theorem dX8_align_56 : decode cX8_align 56 = .ok (.istore_n 1, 1) := by decide +kernel
theorem dX8_align_57 : decode cX8_align 57 = .ok (.iconst (-1), 1) := by decide +kernel
theorem dX8_align_58 : decode cX8_align 58 = .ok (.istore_n 2, 1) := by decide +kernel
theorem dX8_align_59 : decode cX8_align 59 = .ok (.iload_n 1, 1) := by decide +kernel
theorem dX8_align_60 : decode cX8_align 60 = .ok (.aload_n 0, 1) := by decide +kernel
theorem dX8_align_61 : decode cX8_align 61 = .ok (.getfield 101, 3) := by decide +kernel
theorem dX8_align_64 : decode cX8_align 64 = .ok (.if_icmp .ge 46, 3) := by decide +kernel
theorem dX8_align_67 : decode cX8_align 67 = .ok (.aload_n 0, 1) := by decide +kernel
theorem dX8_align_68 : decode cX8_align 68 = .ok (.iload_n 1, 1) := by decide +kernel
theorem dX8_align_69 : decode cX8_align 69 = .ok (.iload_n 2, 1) := by decide +kernel
theorem dX8_align_70 : decode cX8_align 70 = .ok (.invokevirtual 181, 3) := by decide +kernel
theorem dX8_align_73 : decode cX8_align 73 = .ok (.aload_n 0, 1) := by decide +kernel
theorem dX8_align_74 : decode cX8_align 74 = .ok (.getfield 71, 3) := by decide +kernel
theorem dX8_align_77 : decode cX8_align 77 = .ok (.aload_n 0, 1) := by decide +kernel
theorem dX8_align_78 : decode cX8_align 78 = .ok (.getfield 168, 3) := by decide +kernel
theorem dX8_align_81 : decode cX8_align 81 = .ok (.iconst 1, 1) := by decide +kernel
theorem dX8_align_82 : decode cX8_align 82 = .ok (.isub, 1) := by decide +kernel
theorem dX8_align_83 : decode cX8_align 83 = .ok (.iaload, 1) := by decide +kernel
theorem dX8_align_84 : decode cX8_align 84 = .ok (.istore_n 2, 1) := by decide +kernel
theorem dX8_align_85 : decode cX8_align 85 = .ok (.iload_n 1, 1) := by decide +kernel
theorem dX8_align_86 : decode cX8_align 86 = .ok (.aload_n 0, 1) := by decide +kernel
theorem dX8_align_87 : decode cX8_align 87 = .ok (.getfield 74, 3) := by decide +kernel
theorem dX8_align_90 : decode cX8_align 90 = .ok (.aload_n 0, 1) := by decide +kernel
theorem dX8_align_91 : decode cX8_align 91 = .ok (.getfield 168, 3) := by decide +kernel
theorem dX8_align_94 : decode cX8_align 94 = .ok (.iconst 1, 1) := by decide +kernel
theorem dX8_align_95 : decode cX8_align 95 = .ok (.isub, 1) := by decide +kernel
theorem dX8_align_96 : decode cX8_align 96 = .ok (.iaload, 1) := by decide +kernel
theorem dX8_align_97 : decode cX8_align 97 = .ok (.ifCond .lt 7, 3) := by decide +kernel
theorem dX8_align_100 : decode cX8_align 100 = .ok (.iconst 1, 1) := by decide +kernel
theorem dX8_align_101 : decode cX8_align 101 = .ok (.goto 4, 3) := by decide +kernel
theorem dX8_align_104 : decode cX8_align 104 = .ok (.iconst 0, 1) := by decide +kernel
theorem dX8_align_105 : decode cX8_align 105 = .ok (.iadd, 1) := by decide +kernel
theorem dX8_align_106 : decode cX8_align 106 = .ok (.istore_n 1, 1) := by decide +kernel
theorem dX8_align_107 : decode cX8_align 107 = .ok (.goto (-48), 3) := by decide +kernel
theorem dX8_align_110 : decode cX8_align 110 = .ok (.aload_n 0, 1) := by decide +kernel
theorem dX8_align_111 : decode cX8_align 111 = .ok (.iconst 1, 1) := by decide +kernel
theorem dX8_align_112 : decode cX8_align 112 = .ok (.putfield 104, 3) := by decide +kernel
theorem dX8_align_115 : decode cX8_align 115 = .ok (.aload_n 0, 1) := by decide +kernel
theorem dX8_align_116 : decode cX8_align 116 = .ok (.getfield 178, 3) := by decide +kernel
theorem dX8_align_119 : decode cX8_align 119 = .ok (.ireturn, 1) := by decide +kernel
theorem dX8_step_0 : decode cX8_step 0 = .ok (.aload_n 0, 1) := by decide +kernel
theorem dX8_step_1 : decode cX8_step 1 = .ok (.iconst 0, 1) := by decide +kernel
theorem dX8_step_2 : decode cX8_step 2 = .ok (.putfield 83, 3) := by decide +kernel
theorem dX8_step_5 : decode cX8_step 5 = .ok (.iload_n 1, 1) := by decide +kernel
theorem dX8_step_6 : decode cX8_step 6 = .ok (.ifCond .lt 27, 3) := by decide +kernel
theorem dX8_step_9 : decode cX8_step 9 = .ok (.iload_n 2, 1) := by decide +kernel
theorem dX8_step_10 : decode cX8_step 10 = .ok (.ifCond .lt 23, 3) := by decide +kernel
theorem dX8_step_13 : decode cX8_step 13 = .ok (.iload_n 2, 1) := by decide +kernel
theorem dX8_step_14 : decode cX8_step 14 = .ok (.iconst 3, 1) := by decide +kernel
theorem dX8_step_15 : decode cX8_step 15 = .ok (.if_icmp .gt 18, 3) := by decide +kernel
theorem dX8_step_18 : decode cX8_step 18 = .ok (.aload_n 0, 1) := by decide +kernel
theorem dX8_step_19 : decode cX8_step 19 = .ok (.getfield 104, 3) := by decide +kernel
theorem dX8_step_22 : decode cX8_step 22 = .ok (.ifCond .eq 14, 3) := by decide +kernel
theorem dX8_step_25 : decode cX8_step 25 = .ok (.iload_n 1, 1) := by decide +kernel
theorem dX8_step_26 : decode cX8_step 26 = .ok (.aload_n 0, 1) := by decide +kernel
theorem dX8_step_27 : decode cX8_step 27 = .ok (.getfield 168, 3) := by decide +kernel
theorem dX8_step_30 : decode cX8_step 30 = .ok (.if_icmp .lt 6, 3) := by decide +kernel
theorem dX8_step_33 : decode cX8_step 33 = .ok (.bipush (-2), 2) := by decide +kernel
theorem dX8_step_35 : decode cX8_step 35 = .ok (.ireturn, 1) := by decide +kernel
theorem dX8_step_36 : decode cX8_step 36 = .ok (.aload_n 0, 1) := by decide +kernel
theorem dX8_step_37 : decode cX8_step 37 = .ok (.getfield 104, 3) := by decide +kernel
theorem dX8_step_40 : decode cX8_step 40 = .ok (.ifCond .ne 6, 3) := by decide +kernel
theorem dX8_step_43 : decode cX8_step 43 = .ok (.bipush (-3), 2) := by decide +kernel
theorem dX8_step_45 : decode cX8_step 45 = .ok (.ireturn, 1) := by decide +kernel
theorem dX8_step_46 : decode cX8_step 46 = .ok (.iload_n 2, 1) := by decide +kernel
theorem dX8_step_47 : decode cX8_step 47 = .ok (.ifCond .ne 12, 3) := by decide +kernel
theorem dX8_step_50 : decode cX8_step 50 = .ok (.aload_n 0, 1) := by decide +kernel
theorem dX8_step_51 : decode cX8_step 51 = .ok (.getfield 68, 3) := by decide +kernel
theorem dX8_step_54 : decode cX8_step 54 = .ok (.iload_n 1, 1) := by decide +kernel
theorem dX8_step_55 : decode cX8_step 55 = .ok (.iaload, 1) := by decide +kernel
theorem dX8_step_56 : decode cX8_step 56 = .ok (.goto 37, 3) := by decide +kernel
theorem dX8_step_59 : decode cX8_step 59 = .ok (.iload_n 2, 1) := by decide +kernel
theorem dX8_step_60 : decode cX8_step 60 = .ok (.iconst 1, 1) := by decide +kernel
theorem dX8_step_61 : decode cX8_step 61 = .ok (.if_icmp .ne 12, 3) := by decide +kernel
theorem dX8_step_64 : decode cX8_step 64 = .ok (.aload_n 0, 1) := by decide +kernel
theorem dX8_step_65 : decode cX8_step 65 = .ok (.getfield 71, 3) := by decide +kernel
theorem dX8_step_68 : decode cX8_step 68 = .ok (.iload_n 1, 1) := by decide +kernel
theorem dX8_step_69 : decode cX8_step 69 = .ok (.iaload, 1) := by decide +kernel
theorem dX8_step_70 : decode cX8_step 70 = .ok (.goto 23, 3) := by decide +kernel
theorem dX8_step_73 : decode cX8_step 73 = .ok (.iload_n 2, 1) := by decide +kernel
theorem dX8_step_74 : decode cX8_step 74 = .ok (.iconst 2, 1) := by decide +kernel
theorem dX8_step_75 : decode cX8_step 75 = .ok (.if_icmp .ne 12, 3) := by decide +kernel
theorem dX8_step_78 : decode cX8_step 78 = .ok (.aload_n 0, 1) := by decide +kernel
theorem dX8_step_79 : decode cX8_step 79 = .ok (.getfield 74, 3) := by decide +kernel
theorem dX8_step_82 : decode cX8_step 82 = .ok (.iload_n 1, 1) := by decide +kernel
theorem dX8_step_83 : decode cX8_step 83 = .ok (.iaload, 1) := by decide +kernel
theorem dX8_step_84 : decode cX8_step 84 = .ok (.goto 9, 3) := by decide +kernel
theorem dX8_step_87 : decode cX8_step 87 = .ok (.aload_n 0, 1) := by decide +kernel
theorem dX8_step_88 : decode cX8_step 88 = .ok (.getfield 77, 3) := by decide +kernel
theorem dX8_step_91 : decode cX8_step 91 = .ok (.iload_n 1, 1) := by decide +kernel
theorem dX8_step_92 : decode cX8_step 92 = .ok (.iaload, 1) := by decide +kernel
theorem dX8_step_93 : decode cX8_step 93 = .ok (.ireturn, 1) := by decide +kernel
theorem dX8_steps_0 : decode cX8_steps 0 = .ok (.aload_n 0, 1) := by decide +kernel
theorem dX8_steps_1 : decode cX8_steps 1 = .ok (.iconst 0, 1) := by decide +kernel
theorem dX8_steps_2 : decode cX8_steps 2 = .ok (.putfield 83, 3) := by decide +kernel
theorem dX8_steps_5 : decode cX8_steps 5 = .ok (.aload_n 0, 1) := by decide +kernel
theorem dX8_steps_6 : decode cX8_steps 6 = .ok (.getfield 104, 3) := by decide +kernel
theorem dX8_steps_9 : decode cX8_steps 9 = .ok (.ifCond .eq 10, 3) := by decide +kernel
theorem dX8_steps_12 : decode cX8_steps 12 = .ok (.aload_n 0, 1) := by decide +kernel
theorem dX8_steps_13 : decode cX8_steps 13 = .ok (.getfield 168, 3) := by decide +kernel
theorem dX8_steps_16 : decode cX8_steps 16 = .ok (.goto 5, 3) := by decide +kernel
theorem dX8_steps_19 : decode cX8_steps 19 = .ok (.bipush (-3), 2) := by decide +kernel
theorem dX8_steps_21 : decode cX8_steps 21 = .ok (.ireturn, 1) := by decide +kernel
theorem dX8_matched_0 : decode cX8_matched 0 = .ok (.aload_n 0, 1) := by decide +kernel
theorem dX8_matched_1 : decode cX8_matched 1 = .ok (.iconst 0, 1) := by decide +kernel
theorem dX8_matched_2 : decode cX8_matched 2 = .ok (.putfield 83, 3) := by decide +kernel
theorem dX8_matched_5 : decode cX8_matched 5 = .ok (.iload_n 1, 1) := by decide +kernel
theorem dX8_matched_6 : decode cX8_matched 6 = .ok (.ifCond .lt 11, 3) := by decide +kernel
theorem dX8_matched_9 : decode cX8_matched 9 = .ok (.iload_n 1, 1) := by decide +kernel
theorem dX8_matched_10 : decode cX8_matched 10 = .ok (.aload_n 0, 1) := by decide +kernel
theorem dX8_matched_11 : decode cX8_matched 11 = .ok (.getfield 101, 3) := by decide +kernel
theorem dX8_matched_14 : decode cX8_matched 14 = .ok (.if_icmp .lt 6, 3) := by decide +kernel
theorem dX8_matched_17 : decode cX8_matched 17 = .ok (.bipush (-2), 2) := by decide +kernel
theorem dX8_matched_19 : decode cX8_matched 19 = .ok (.ireturn, 1) := by decide +kernel
theorem dX8_matched_20 : decode cX8_matched 20 = .ok (.aload_n 0, 1) := by decide +kernel
theorem dX8_matched_21 : decode cX8_matched 21 = .ok (.getfield 104, 3) := by decide +kernel
theorem dX8_matched_24 : decode cX8_matched 24 = .ok (.ifCond .ne 6, 3) := by decide +kernel
theorem dX8_matched_27 : decode cX8_matched 27 = .ok (.bipush (-3), 2) := by decide +kernel
theorem dX8_matched_29 : decode cX8_matched 29 = .ok (.ireturn, 1) := by decide +kernel
theorem dX8_matched_30 : decode cX8_matched 30 = .ok (.iconst (-1), 1) := by decide +kernel
theorem dX8_matched_31 : decode cX8_matched 31 = .ok (.istore_n 2, 1) := by decide +kernel
theorem dX8_matched_32 : decode cX8_matched 32 = .ok (.iconst 0, 1) := by decide +kernel
theorem dX8_matched_33 : decode cX8_matched 33 = .ok (.istore_n 3, 1) := by decide +kernel
theorem dX8_matched_34 : decode cX8_matched 34 = .ok (.iload_n 3, 1) := by decide +kernel
theorem dX8_matched_35 : decode cX8_matched 35 = .ok (.aload_n 0, 1) := by decide +kernel
theorem dX8_matched_36 : decode cX8_matched 36 = .ok (.getfield 168, 3) := by decide +kernel
theorem dX8_matched_39 : decode cX8_matched 39 = .ok (.if_icmp .ge 40, 3) := by decide +kernel
theorem dX8_matched_42 : decode cX8_matched 42 = .ok (.aload_n 0, 1) := by decide +kernel
theorem dX8_matched_43 : decode cX8_matched 43 = .ok (.getfield 74, 3) := by decide +kernel
theorem dX8_matched_46 : decode cX8_matched 46 = .ok (.iload_n 3, 1) := by decide +kernel
theorem dX8_matched_47 : decode cX8_matched 47 = .ok (.iaload, 1) := by decide +kernel
theorem dX8_matched_48 : decode cX8_matched 48 = .ok (.iload_n 1, 1) := by decide +kernel
theorem dX8_matched_49 : decode cX8_matched 49 = .ok (.if_icmp .ne 22, 3) := by decide +kernel
theorem dX8_matched_52 : decode cX8_matched 52 = .ok (.aload_n 0, 1) := by decide +kernel
theorem dX8_matched_53 : decode cX8_matched 53 = .ok (.getfield 68, 3) := by decide +kernel
theorem dX8_matched_56 : decode cX8_matched 56 = .ok (.iload_n 3, 1) := by decide +kernel
theorem dX8_matched_57 : decode cX8_matched 57 = .ok (.iaload, 1) := by decide +kernel
theorem dX8_matched_58 : decode cX8_matched 58 = .ok (.iconst 1, 1) := by decide +kernel
theorem dX8_matched_59 : decode cX8_matched 59 = .ok (.if_icmp .eq 12, 3) := by decide +kernel
theorem dX8_matched_62 : decode cX8_matched 62 = .ok (.aload_n 0, 1) := by decide +kernel
theorem dX8_matched_63 : decode cX8_matched 63 = .ok (.getfield 71, 3) := by decide +kernel
theorem dX8_matched_66 : decode cX8_matched 66 = .ok (.iload_n 3, 1) := by decide +kernel
theorem dX8_matched_67 : decode cX8_matched 67 = .ok (.iaload, 1) := by decide +kernel
theorem dX8_matched_68 : decode cX8_matched 68 = .ok (.goto 4, 3) := by decide +kernel
theorem dX8_matched_71 : decode cX8_matched 71 = .ok (.iload_n 2, 1) := by decide +kernel
theorem dX8_matched_72 : decode cX8_matched 72 = .ok (.istore_n 2, 1) := by decide +kernel
theorem dX8_matched_73 : decode cX8_matched 73 = .ok (.iinc 3 1, 3) := by decide +kernel
theorem dX8_matched_76 : decode cX8_matched 76 = .ok (.goto (-42), 3) := by decide +kernel
theorem dX8_matched_79 : decode cX8_matched 79 = .ok (.iload_n 2, 1) := by decide +kernel
theorem dX8_matched_80 : decode cX8_matched 80 = .ok (.ireturn, 1) := by decide +kernel
theorem dX8_count_0 : decode cX8_count 0 = .ok (.iconst 0, 1) := by decide +kernel
theorem dX8_count_1 : decode cX8_count 1 = .ok (.istore_n 3, 1) := by decide +kernel
theorem dX8_count_2 : decode cX8_count 2 = .ok (.iconst 0, 1) := by decide +kernel
theorem dX8_count_3 : decode cX8_count 3 = .ok (.istore 4, 2) := by decide +kernel
theorem dX8_count_5 : decode cX8_count 5 = .ok (.iload 4, 2) := by decide +kernel
theorem dX8_count_7 : decode cX8_count 7 = .ok (.aload_n 0, 1) := by decide +kernel
theorem dX8_count_8 : decode cX8_count 8 = .ok (.getfield 168, 3) := by decide +kernel
theorem dX8_count_11 : decode cX8_count 11 = .ok (.if_icmp .ge 122, 3) := by decide +kernel
theorem dX8_count_14 : decode cX8_count 14 = .ok (.aload_n 0, 1) := by decide +kernel
theorem dX8_count_15 : decode cX8_count 15 = .ok (.getfield 68, 3) := by decide +kernel
theorem dX8_count_18 : decode cX8_count 18 = .ok (.iload 4, 2) := by decide +kernel
theorem dX8_count_20 : decode cX8_count 20 = .ok (.iaload, 1) := by decide +kernel
theorem dX8_count_21 : decode cX8_count 21 = .ok (.ifCond .eq 14, 3) := by decide +kernel
theorem dX8_count_24 : decode cX8_count 24 = .ok (.aload_n 0, 1) := by decide +kernel
theorem dX8_count_25 : decode cX8_count 25 = .ok (.getfield 68, 3) := by decide +kernel
theorem dX8_count_28 : decode cX8_count 28 = .ok (.iload 4, 2) := by decide +kernel
theorem dX8_count_30 : decode cX8_count 30 = .ok (.iaload, 1) := by decide +kernel
theorem dX8_count_31 : decode cX8_count 31 = .ok (.iconst 3, 1) := by decide +kernel
theorem dX8_count_32 : decode cX8_count 32 = .ok (.if_icmp .ne 7, 3) := by decide +kernel
theorem dX8_count_35 : decode cX8_count 35 = .ok (.iconst 1, 1) := by decide +kernel
theorem dX8_count_36 : decode cX8_count 36 = .ok (.goto 4, 3) := by decide +kernel
theorem dX8_count_39 : decode cX8_count 39 = .ok (.iconst 0, 1) := by decide +kernel
theorem dX8_count_40 : decode cX8_count 40 = .ok (.istore 5, 2) := by decide +kernel
theorem dX8_count_42 : decode cX8_count 42 = .ok (.iload_n 2, 1) := by decide +kernel
theorem dX8_count_43 : decode cX8_count 43 = .ok (.iconst 2, 1) := by decide +kernel
theorem dX8_count_44 : decode cX8_count 44 = .ok (.if_icmp .ne 22, 3) := by decide +kernel
theorem dX8_count_47 : decode cX8_count 47 = .ok (.aload_n 0, 1) := by decide +kernel
theorem dX8_count_48 : decode cX8_count 48 = .ok (.getfield 68, 3) := by decide +kernel
theorem dX8_count_51 : decode cX8_count 51 = .ok (.iload 4, 2) := by decide +kernel
theorem dX8_count_53 : decode cX8_count 53 = .ok (.iaload, 1) := by decide +kernel
theorem dX8_count_54 : decode cX8_count 54 = .ok (.iconst 2, 1) := by decide +kernel
theorem dX8_count_55 : decode cX8_count 55 = .ok (.if_icmp .ne 7, 3) := by decide +kernel
theorem dX8_count_58 : decode cX8_count 58 = .ok (.iconst 1, 1) := by decide +kernel
theorem dX8_count_59 : decode cX8_count 59 = .ok (.goto 42, 3) := by decide +kernel
theorem dX8_count_62 : decode cX8_count 62 = .ok (.iconst 0, 1) := by decide +kernel
theorem dX8_count_63 : decode cX8_count 63 = .ok (.goto 38, 3) := by decide +kernel
theorem dX8_count_66 : decode cX8_count 66 = .ok (.iload 5, 2) := by decide +kernel
theorem dX8_count_68 : decode cX8_count 68 = .ok (.ifCond .eq 32, 3) := by decide +kernel
theorem dX8_count_71 : decode cX8_count 71 = .ok (.iload_n 2, 1) := by decide +kernel
theorem dX8_count_72 : decode cX8_count 72 = .ok (.ifCond .eq 24, 3) := by decide +kernel
theorem dX8_count_75 : decode cX8_count 75 = .ok (.aload_n 0, 1) := by decide +kernel
theorem dX8_count_76 : decode cX8_count 76 = .ok (.getfield 38, 3) := by decide +kernel
theorem dX8_count_79 : decode cX8_count 79 = .ok (.aload_n 0, 1) := by decide +kernel
theorem dX8_count_80 : decode cX8_count 80 = .ok (.getfield 74, 3) := by decide +kernel
theorem dX8_count_83 : decode cX8_count 83 = .ok (.iload 4, 2) := by decide +kernel
theorem dX8_count_85 : decode cX8_count 85 = .ok (.iaload, 1) := by decide +kernel
theorem dX8_count_86 : decode cX8_count 86 = .ok (.iaload, 1) := by decide +kernel
theorem dX8_count_87 : decode cX8_count 87 = .ok (.aload_n 0, 1) := by decide +kernel
theorem dX8_count_88 : decode cX8_count 88 = .ok (.getfield 7, 3) := by decide +kernel
theorem dX8_count_91 : decode cX8_count 91 = .ok (.iload_n 1, 1) := by decide +kernel
theorem dX8_count_92 : decode cX8_count 92 = .ok (.iaload, 1) := by decide +kernel
theorem dX8_count_93 : decode cX8_count 93 = .ok (.if_icmp .ne 7, 3) := by decide +kernel
theorem dX8_count_96 : decode cX8_count 96 = .ok (.iconst 1, 1) := by decide +kernel
theorem dX8_count_97 : decode cX8_count 97 = .ok (.goto 4, 3) := by decide +kernel
theorem dX8_count_100 : decode cX8_count 100 = .ok (.iconst 0, 1) := by decide +kernel
theorem dX8_count_101 : decode cX8_count 101 = .ok (.istore 6, 2) := by decide +kernel
theorem dX8_count_103 : decode cX8_count 103 = .ok (.iload_n 3, 1) := by decide +kernel
theorem dX8_count_104 : decode cX8_count 104 = .ok (.iload 6, 2) := by decide +kernel
theorem dX8_count_106 : decode cX8_count 106 = .ok (.ifCond .eq 18, 3) := by decide +kernel
theorem dX8_count_109 : decode cX8_count 109 = .ok (.aload_n 0, 1) := by decide +kernel
theorem dX8_count_110 : decode cX8_count 110 = .ok (.getfield 71, 3) := by decide +kernel
theorem dX8_count_113 : decode cX8_count 113 = .ok (.iload 4, 2) := by decide +kernel
theorem dX8_count_115 : decode cX8_count 115 = .ok (.iaload, 1) := by decide +kernel
theorem dX8_count_116 : decode cX8_count 116 = .ok (.iload_n 1, 1) := by decide +kernel
theorem dX8_count_117 : decode cX8_count 117 = .ok (.if_icmp .ne 7, 3) := by decide +kernel
theorem dX8_count_120 : decode cX8_count 120 = .ok (.iconst 1, 1) := by decide +kernel
theorem dX8_count_121 : decode cX8_count 121 = .ok (.goto 4, 3) := by decide +kernel
theorem dX8_count_124 : decode cX8_count 124 = .ok (.iconst 0, 1) := by decide +kernel
theorem dX8_count_125 : decode cX8_count 125 = .ok (.iadd, 1) := by decide +kernel
theorem dX8_count_126 : decode cX8_count 126 = .ok (.istore_n 3, 1) := by decide +kernel
theorem dX8_count_127 : decode cX8_count 127 = .ok (.iinc 4 1, 3) := by decide +kernel
theorem dX8_count_130 : decode cX8_count 130 = .ok (.goto (-125), 3) := by decide +kernel
theorem dX8_count_133 : decode cX8_count 133 = .ok (.iload_n 3, 1) := by decide +kernel
theorem dX8_count_134 : decode cX8_count 134 = .ok (.ireturn, 1) := by decide +kernel
theorem dX8_grade_0 : decode cX8_grade 0 = .ok (.aload_n 0, 1) := by decide +kernel
theorem dX8_grade_1 : decode cX8_grade 1 = .ok (.iconst 0, 1) := by decide +kernel
theorem dX8_grade_2 : decode cX8_grade 2 = .ok (.putfield 83, 3) := by decide +kernel
theorem dX8_grade_5 : decode cX8_grade 5 = .ok (.iload_n 1, 1) := by decide +kernel
theorem dX8_grade_6 : decode cX8_grade 6 = .ok (.ifCond .lt 20, 3) := by decide +kernel
theorem dX8_grade_9 : decode cX8_grade 9 = .ok (.iload_n 1, 1) := by decide +kernel
theorem dX8_grade_10 : decode cX8_grade 10 = .ok (.aload_n 0, 1) := by decide +kernel
theorem dX8_grade_11 : decode cX8_grade 11 = .ok (.getfield 86, 3) := by decide +kernel
theorem dX8_grade_14 : decode cX8_grade 14 = .ok (.if_icmp .ge 12, 3) := by decide +kernel
theorem dX8_grade_17 : decode cX8_grade 17 = .ok (.iload_n 2, 1) := by decide +kernel
theorem dX8_grade_18 : decode cX8_grade 18 = .ok (.ifCond .lt 8, 3) := by decide +kernel
theorem dX8_grade_21 : decode cX8_grade 21 = .ok (.iload_n 2, 1) := by decide +kernel
theorem dX8_grade_22 : decode cX8_grade 22 = .ok (.iconst 2, 1) := by decide +kernel
theorem dX8_grade_23 : decode cX8_grade 23 = .ok (.if_icmp .le 6, 3) := by decide +kernel
theorem dX8_grade_26 : decode cX8_grade 26 = .ok (.bipush (-2), 2) := by decide +kernel
theorem dX8_grade_28 : decode cX8_grade 28 = .ok (.ireturn, 1) := by decide +kernel
theorem dX8_grade_29 : decode cX8_grade 29 = .ok (.aload_n 0, 1) := by decide +kernel
theorem dX8_grade_30 : decode cX8_grade 30 = .ok (.getfield 104, 3) := by decide +kernel
theorem dX8_grade_33 : decode cX8_grade 33 = .ok (.ifCond .eq 12, 3) := by decide +kernel
theorem dX8_grade_36 : decode cX8_grade 36 = .ok (.aload_n 0, 1) := by decide +kernel
theorem dX8_grade_37 : decode cX8_grade 37 = .ok (.iload_n 1, 1) := by decide +kernel
theorem dX8_grade_38 : decode cX8_grade 38 = .ok (.iload_n 2, 1) := by decide +kernel
theorem dX8_grade_39 : decode cX8_grade 39 = .ok (.invokevirtual 183, 3) := by decide +kernel
theorem dX8_grade_42 : decode cX8_grade 42 = .ok (.goto 5, 3) := by decide +kernel
theorem dX8_grade_45 : decode cX8_grade 45 = .ok (.bipush (-3), 2) := by decide +kernel
theorem dX8_grade_47 : decode cX8_grade 47 = .ok (.ireturn, 1) := by decide +kernel
theorem dX8_mean_0 : decode cX8_mean 0 = .ok (.aload_n 0, 1) := by decide +kernel
theorem dX8_mean_1 : decode cX8_mean 1 = .ok (.iconst 0, 1) := by decide +kernel
theorem dX8_mean_2 : decode cX8_mean 2 = .ok (.putfield 83, 3) := by decide +kernel
theorem dX8_mean_5 : decode cX8_mean 5 = .ok (.iload_n 1, 1) := by decide +kernel
theorem dX8_mean_6 : decode cX8_mean 6 = .ok (.ifCond .eq 11, 3) := by decide +kernel
theorem dX8_mean_9 : decode cX8_mean 9 = .ok (.iload_n 1, 1) := by decide +kernel
theorem dX8_mean_10 : decode cX8_mean 10 = .ok (.iconst 1, 1) := by decide +kernel
theorem dX8_mean_11 : decode cX8_mean 11 = .ok (.if_icmp .eq 6, 3) := by decide +kernel
theorem dX8_mean_14 : decode cX8_mean 14 = .ok (.bipush (-2), 2) := by decide +kernel
theorem dX8_mean_16 : decode cX8_mean 16 = .ok (.ireturn, 1) := by decide +kernel
theorem dX8_mean_17 : decode cX8_mean 17 = .ok (.aload_n 0, 1) := by decide +kernel
theorem dX8_mean_18 : decode cX8_mean 18 = .ok (.getfield 104, 3) := by decide +kernel
theorem dX8_mean_21 : decode cX8_mean 21 = .ok (.ifCond .ne 6, 3) := by decide +kernel
theorem dX8_mean_24 : decode cX8_mean 24 = .ok (.bipush (-3), 2) := by decide +kernel
theorem dX8_mean_26 : decode cX8_mean 26 = .ok (.ireturn, 1) := by decide +kernel
theorem dX8_mean_27 : decode cX8_mean 27 = .ok (.iconst 0, 1) := by decide +kernel
theorem dX8_mean_28 : decode cX8_mean 28 = .ok (.istore_n 2, 1) := by decide +kernel
theorem dX8_mean_29 : decode cX8_mean 29 = .ok (.iconst 0, 1) := by decide +kernel
theorem dX8_mean_30 : decode cX8_mean 30 = .ok (.istore_n 3, 1) := by decide +kernel
theorem dX8_mean_31 : decode cX8_mean 31 = .ok (.iconst 0, 1) := by decide +kernel
theorem dX8_mean_32 : decode cX8_mean 32 = .ok (.istore 4, 2) := by decide +kernel
theorem dX8_mean_34 : decode cX8_mean 34 = .ok (.iload 4, 2) := by decide +kernel
theorem dX8_mean_36 : decode cX8_mean 36 = .ok (.aload_n 0, 1) := by decide +kernel
theorem dX8_mean_37 : decode cX8_mean 37 = .ok (.getfield 86, 3) := by decide +kernel
theorem dX8_mean_40 : decode cX8_mean 40 = .ok (.if_icmp .ge 29, 3) := by decide +kernel
theorem dX8_mean_43 : decode cX8_mean 43 = .ok (.iload_n 2, 1) := by decide +kernel
theorem dX8_mean_44 : decode cX8_mean 44 = .ok (.aload_n 0, 1) := by decide +kernel
theorem dX8_mean_45 : decode cX8_mean 45 = .ok (.iload 4, 2) := by decide +kernel
theorem dX8_mean_47 : decode cX8_mean 47 = .ok (.iconst 0, 1) := by decide +kernel
theorem dX8_mean_48 : decode cX8_mean 48 = .ok (.invokevirtual 183, 3) := by decide +kernel
theorem dX8_mean_51 : decode cX8_mean 51 = .ok (.iadd, 1) := by decide +kernel
theorem dX8_mean_52 : decode cX8_mean 52 = .ok (.istore_n 2, 1) := by decide +kernel
theorem dX8_mean_53 : decode cX8_mean 53 = .ok (.iload_n 3, 1) := by decide +kernel
theorem dX8_mean_54 : decode cX8_mean 54 = .ok (.aload_n 0, 1) := by decide +kernel
theorem dX8_mean_55 : decode cX8_mean 55 = .ok (.iload 4, 2) := by decide +kernel
theorem dX8_mean_57 : decode cX8_mean 57 = .ok (.iconst 1, 1) := by decide +kernel
theorem dX8_mean_58 : decode cX8_mean 58 = .ok (.invokevirtual 183, 3) := by decide +kernel
theorem dX8_mean_61 : decode cX8_mean 61 = .ok (.iadd, 1) := by decide +kernel
theorem dX8_mean_62 : decode cX8_mean 62 = .ok (.istore_n 3, 1) := by decide +kernel
theorem dX8_mean_63 : decode cX8_mean 63 = .ok (.iinc 4 1, 3) := by decide +kernel
theorem dX8_mean_66 : decode cX8_mean 66 = .ok (.goto (-32), 3) := by decide +kernel
theorem dX8_mean_69 : decode cX8_mean 69 = .ok (.iload_n 2, 1) := by decide +kernel
theorem dX8_mean_70 : decode cX8_mean 70 = .ok (.ifCond .ne 10, 3) := by decide +kernel
theorem dX8_mean_73 : decode cX8_mean 73 = .ok (.aload_n 0, 1) := by decide +kernel
theorem dX8_mean_74 : decode cX8_mean 74 = .ok (.iconst 1, 1) := by decide +kernel
theorem dX8_mean_75 : decode cX8_mean 75 = .ok (.putfield 83, 3) := by decide +kernel
theorem dX8_mean_78 : decode cX8_mean 78 = .ok (.iconst 0, 1) := by decide +kernel
theorem dX8_mean_79 : decode cX8_mean 79 = .ok (.ireturn, 1) := by decide +kernel
theorem dX8_mean_80 : decode cX8_mean 80 = .ok (.iload_n 3, 1) := by decide +kernel
theorem dX8_mean_81 : decode cX8_mean 81 = .ok (.iload_n 2, 1) := by decide +kernel
theorem dX8_mean_82 : decode cX8_mean 82 = .ok (.invokestatic 154, 3) := by decide +kernel
theorem dX8_mean_85 : decode cX8_mean 85 = .ok (.istore 4, 2) := by decide +kernel
theorem dX8_mean_87 : decode cX8_mean 87 = .ok (.iload_n 1, 1) := by decide +kernel
theorem dX8_mean_88 : decode cX8_mean 88 = .ok (.ifCond .ne 10, 3) := by decide +kernel
theorem dX8_mean_91 : decode cX8_mean 91 = .ok (.iload_n 3, 1) := by decide +kernel
theorem dX8_mean_92 : decode cX8_mean 92 = .ok (.iload 4, 2) := by decide +kernel
theorem dX8_mean_94 : decode cX8_mean 94 = .ok (.idiv, 1) := by decide +kernel
theorem dX8_mean_95 : decode cX8_mean 95 = .ok (.goto 7, 3) := by decide +kernel
theorem dX8_mean_98 : decode cX8_mean 98 = .ok (.iload_n 2, 1) := by decide +kernel
theorem dX8_mean_99 : decode cX8_mean 99 = .ok (.iload 4, 2) := by decide +kernel
theorem dX8_mean_101 : decode cX8_mean 101 = .ok (.idiv, 1) := by decide +kernel
theorem dX8_mean_102 : decode cX8_mean 102 = .ok (.ireturn, 1) := by decide +kernel
theorem dX8_end_0 : decode cX8_end 0 = .ok (.aload_n 0, 1) := by decide +kernel
theorem dX8_end_1 : decode cX8_end 1 = .ok (.iconst 0, 1) := by decide +kernel
theorem dX8_end_2 : decode cX8_end 2 = .ok (.putfield 83, 3) := by decide +kernel
theorem dX8_end_5 : decode cX8_end 5 = .ok (.aload_n 0, 1) := by decide +kernel
theorem dX8_end_6 : decode cX8_end 6 = .ok (.getfield 104, 3) := by decide +kernel
theorem dX8_end_9 : decode cX8_end 9 = .ok (.ifCond .eq 10, 3) := by decide +kernel
theorem dX8_end_12 : decode cX8_end 12 = .ok (.aload_n 0, 1) := by decide +kernel
theorem dX8_end_13 : decode cX8_end 13 = .ok (.getfield 101, 3) := by decide +kernel
theorem dX8_end_16 : decode cX8_end 16 = .ok (.ifCond .ne 6, 3) := by decide +kernel
theorem dX8_end_19 : decode cX8_end 19 = .ok (.bipush (-3), 2) := by decide +kernel
theorem dX8_end_21 : decode cX8_end 21 = .ok (.ireturn, 1) := by decide +kernel
theorem dX8_end_22 : decode cX8_end 22 = .ok (.iconst 0, 1) := by decide +kernel
theorem dX8_end_23 : decode cX8_end 23 = .ok (.istore_n 1, 1) := by decide +kernel
theorem dX8_end_24 : decode cX8_end 24 = .ok (.iload_n 1, 1) := by decide +kernel
theorem dX8_end_25 : decode cX8_end 25 = .ok (.aload_n 0, 1) := by decide +kernel
theorem dX8_end_26 : decode cX8_end 26 = .ok (.getfield 86, 3) := by decide +kernel
theorem dX8_end_29 : decode cX8_end 29 = .ok (.if_icmp .ge 118, 3) := by decide +kernel
theorem dX8_end_32 : decode cX8_end 32 = .ok (.aload_n 0, 1) := by decide +kernel
theorem dX8_end_33 : decode cX8_end 33 = .ok (.iload_n 1, 1) := by decide +kernel
theorem dX8_end_34 : decode cX8_end 34 = .ok (.iconst 0, 1) := by decide +kernel
theorem dX8_end_35 : decode cX8_end 35 = .ok (.invokevirtual 183, 3) := by decide +kernel
theorem dX8_end_38 : decode cX8_end 38 = .ok (.istore_n 2, 1) := by decide +kernel
theorem dX8_end_39 : decode cX8_end 39 = .ok (.aload_n 0, 1) := by decide +kernel
theorem dX8_end_40 : decode cX8_end 40 = .ok (.iload_n 1, 1) := by decide +kernel
theorem dX8_end_41 : decode cX8_end 41 = .ok (.iconst 2, 1) := by decide +kernel
theorem dX8_end_42 : decode cX8_end 42 = .ok (.invokevirtual 183, 3) := by decide +kernel
theorem dX8_end_45 : decode cX8_end 45 = .ok (.istore_n 3, 1) := by decide +kernel
theorem dX8_end_46 : decode cX8_end 46 = .ok (.iload_n 2, 1) := by decide +kernel
theorem dX8_end_47 : decode cX8_end 47 = .ok (.ifCond .le 67, 3) := by decide +kernel
theorem dX8_end_50 : decode cX8_end 50 = .ok (.aload_n 0, 1) := by decide +kernel
theorem dX8_end_51 : decode cX8_end 51 = .ok (.iload_n 1, 1) := by decide +kernel
theorem dX8_end_52 : decode cX8_end 52 = .ok (.iconst 1, 1) := by decide +kernel
theorem dX8_end_53 : decode cX8_end 53 = .ok (.invokevirtual 183, 3) := by decide +kernel
theorem dX8_end_56 : decode cX8_end 56 = .ok (.iload_n 2, 1) := by decide +kernel
theorem dX8_end_57 : decode cX8_end 57 = .ok (.if_icmp .ne 57, 3) := by decide +kernel
theorem dX8_end_60 : decode cX8_end 60 = .ok (.iload_n 3, 1) := by decide +kernel
theorem dX8_end_61 : decode cX8_end 61 = .ok (.ifCond .ne 53, 3) := by decide +kernel
theorem dX8_end_64 : decode cX8_end 64 = .ok (.aload_n 0, 1) := by decide +kernel
theorem dX8_end_65 : decode cX8_end 65 = .ok (.getfield 16, 3) := by decide +kernel
theorem dX8_end_68 : decode cX8_end 68 = .ok (.iload_n 1, 1) := by decide +kernel
theorem dX8_end_69 : decode cX8_end 69 = .ok (.aload_n 0, 1) := by decide +kernel
theorem dX8_end_70 : decode cX8_end 70 = .ok (.getfield 16, 3) := by decide +kernel
theorem dX8_end_73 : decode cX8_end 73 = .ok (.iload_n 1, 1) := by decide +kernel
theorem dX8_end_74 : decode cX8_end 74 = .ok (.iaload, 1) := by decide +kernel
theorem dX8_end_75 : decode cX8_end 75 = .ok (.iconst 5, 1) := by decide +kernel
theorem dX8_end_76 : decode cX8_end 76 = .ok (.if_icmp .ge 14, 3) := by decide +kernel
theorem dX8_end_79 : decode cX8_end 79 = .ok (.aload_n 0, 1) := by decide +kernel
theorem dX8_end_80 : decode cX8_end 80 = .ok (.getfield 16, 3) := by decide +kernel
theorem dX8_end_83 : decode cX8_end 83 = .ok (.iload_n 1, 1) := by decide +kernel
theorem dX8_end_84 : decode cX8_end 84 = .ok (.iaload, 1) := by decide +kernel
theorem dX8_end_85 : decode cX8_end 85 = .ok (.iconst 1, 1) := by decide +kernel
theorem dX8_end_86 : decode cX8_end 86 = .ok (.iadd, 1) := by decide +kernel
theorem dX8_end_87 : decode cX8_end 87 = .ok (.goto 4, 3) := by decide +kernel
theorem dX8_end_90 : decode cX8_end 90 = .ok (.iconst 5, 1) := by decide +kernel
theorem dX8_end_91 : decode cX8_end 91 = .ok (.iastore, 1) := by decide +kernel
theorem dX8_end_92 : decode cX8_end 92 = .ok (.aload_n 0, 1) := by decide +kernel
theorem dX8_end_93 : decode cX8_end 93 = .ok (.getfield 19, 3) := by decide +kernel
theorem dX8_end_96 : decode cX8_end 96 = .ok (.iload_n 1, 1) := by decide +kernel
theorem dX8_end_97 : decode cX8_end 97 = .ok (.aload_n 0, 1) := by decide +kernel
theorem dX8_end_98 : decode cX8_end 98 = .ok (.getfield 95, 3) := by decide +kernel
theorem dX8_end_101 : decode cX8_end 101 = .ok (.iconst 1, 1) := by decide +kernel
theorem dX8_end_102 : decode cX8_end 102 = .ok (.aload_n 0, 1) := by decide +kernel
theorem dX8_end_103 : decode cX8_end 103 = .ok (.getfield 16, 3) := by decide +kernel
theorem dX8_end_106 : decode cX8_end 106 = .ok (.iload_n 1, 1) := by decide +kernel
theorem dX8_end_107 : decode cX8_end 107 = .ok (.iaload, 1) := by decide +kernel
theorem dX8_end_108 : decode cX8_end 108 = .ok (.ishl, 1) := by decide +kernel
theorem dX8_end_109 : decode cX8_end 109 = .ok (.iadd, 1) := by decide +kernel
theorem dX8_end_110 : decode cX8_end 110 = .ok (.iastore, 1) := by decide +kernel
theorem dX8_end_111 : decode cX8_end 111 = .ok (.goto 30, 3) := by decide +kernel
theorem dX8_end_114 : decode cX8_end 114 = .ok (.iload_n 2, 1) := by decide +kernel
theorem dX8_end_115 : decode cX8_end 115 = .ok (.ifCond .gt 7, 3) := by decide +kernel
theorem dX8_end_118 : decode cX8_end 118 = .ok (.iload_n 3, 1) := by decide +kernel
theorem dX8_end_119 : decode cX8_end 119 = .ok (.ifCond .le 22, 3) := by decide +kernel
theorem dX8_end_122 : decode cX8_end 122 = .ok (.aload_n 0, 1) := by decide +kernel
theorem dX8_end_123 : decode cX8_end 123 = .ok (.getfield 16, 3) := by decide +kernel
theorem dX8_end_126 : decode cX8_end 126 = .ok (.iload_n 1, 1) := by decide +kernel
theorem dX8_end_127 : decode cX8_end 127 = .ok (.iconst 0, 1) := by decide +kernel
theorem dX8_end_128 : decode cX8_end 128 = .ok (.iastore, 1) := by decide +kernel
theorem dX8_end_129 : decode cX8_end 129 = .ok (.aload_n 0, 1) := by decide +kernel
theorem dX8_end_130 : decode cX8_end 130 = .ok (.getfield 19, 3) := by decide +kernel
theorem dX8_end_133 : decode cX8_end 133 = .ok (.iload_n 1, 1) := by decide +kernel
theorem dX8_end_134 : decode cX8_end 134 = .ok (.aload_n 0, 1) := by decide +kernel
theorem dX8_end_135 : decode cX8_end 135 = .ok (.getfield 95, 3) := by decide +kernel
theorem dX8_end_138 : decode cX8_end 138 = .ok (.iconst 1, 1) := by decide +kernel
theorem dX8_end_139 : decode cX8_end 139 = .ok (.iadd, 1) := by decide +kernel
theorem dX8_end_140 : decode cX8_end 140 = .ok (.iastore, 1) := by decide +kernel
theorem dX8_end_141 : decode cX8_end 141 = .ok (.iinc 1 1, 3) := by decide +kernel
theorem dX8_end_144 : decode cX8_end 144 = .ok (.goto (-120), 3) := by decide +kernel
theorem dX8_end_147 : decode cX8_end 147 = .ok (.aload_n 0, 1) := by decide +kernel
theorem dX8_end_148 : decode cX8_end 148 = .ok (.dup, 1) := by decide +kernel
theorem dX8_end_149 : decode cX8_end 149 = .ok (.getfield 95, 3) := by decide +kernel
theorem dX8_end_152 : decode cX8_end 152 = .ok (.iconst 1, 1) := by decide +kernel
theorem dX8_end_153 : decode cX8_end 153 = .ok (.iadd, 1) := by decide +kernel
theorem dX8_end_154 : decode cX8_end 154 = .ok (.putfield 95, 3) := by decide +kernel
theorem dX8_end_157 : decode cX8_end 157 = .ok (.aload_n 0, 1) := by decide +kernel
theorem dX8_end_158 : decode cX8_end 158 = .ok (.invokevirtual 98, 3) := by decide +kernel
theorem dX8_end_161 : decode cX8_end 161 = .ok (.iconst 0, 1) := by decide +kernel
theorem dX8_end_162 : decode cX8_end 162 = .ok (.istore_n 1, 1) := by decide +kernel
theorem dX8_end_163 : decode cX8_end 163 = .ok (.iconst 0, 1) := by decide +kernel
theorem dX8_end_164 : decode cX8_end 164 = .ok (.istore_n 2, 1) := by decide +kernel
theorem dX8_end_165 : decode cX8_end 165 = .ok (.iload_n 2, 1) := by decide +kernel
theorem dX8_end_166 : decode cX8_end 166 = .ok (.aload_n 0, 1) := by decide +kernel
theorem dX8_end_167 : decode cX8_end 167 = .ok (.getfield 86, 3) := by decide +kernel
theorem dX8_end_170 : decode cX8_end 170 = .ok (.if_icmp .ge 30, 3) := by decide +kernel
theorem dX8_end_173 : decode cX8_end 173 = .ok (.iload_n 1, 1) := by decide +kernel
theorem dX8_end_174 : decode cX8_end 174 = .ok (.aload_n 0, 1) := by decide +kernel
theorem dX8_end_175 : decode cX8_end 175 = .ok (.getfield 19, 3) := by decide +kernel
theorem dX8_end_178 : decode cX8_end 178 = .ok (.iload_n 2, 1) := by decide +kernel
theorem dX8_end_179 : decode cX8_end 179 = .ok (.iaload, 1) := by decide +kernel
theorem dX8_end_180 : decode cX8_end 180 = .ok (.aload_n 0, 1) := by decide +kernel
theorem dX8_end_181 : decode cX8_end 181 = .ok (.getfield 95, 3) := by decide +kernel
theorem dX8_end_184 : decode cX8_end 184 = .ok (.if_icmp .gt 7, 3) := by decide +kernel
theorem dX8_end_187 : decode cX8_end 187 = .ok (.iconst 1, 1) := by decide +kernel
theorem dX8_end_188 : decode cX8_end 188 = .ok (.goto 4, 3) := by decide +kernel
theorem dX8_end_191 : decode cX8_end 191 = .ok (.iconst 0, 1) := by decide +kernel
theorem dX8_end_192 : decode cX8_end 192 = .ok (.iadd, 1) := by decide +kernel
theorem dX8_end_193 : decode cX8_end 193 = .ok (.istore_n 1, 1) := by decide +kernel
theorem dX8_end_194 : decode cX8_end 194 = .ok (.iinc 2 1, 3) := by decide +kernel
theorem dX8_end_197 : decode cX8_end 197 = .ok (.goto (-32), 3) := by decide +kernel
theorem dX8_end_200 : decode cX8_end 200 = .ok (.iload_n 1, 1) := by decide +kernel
theorem dX8_end_201 : decode cX8_end 201 = .ok (.ireturn, 1) := by decide +kernel
theorem dX8_due_0 : decode cX8_due 0 = .ok (.aload_n 0, 1) := by decide +kernel
theorem dX8_due_1 : decode cX8_due 1 = .ok (.iconst 0, 1) := by decide +kernel
theorem dX8_due_2 : decode cX8_due 2 = .ok (.putfield 83, 3) := by decide +kernel
theorem dX8_due_5 : decode cX8_due 5 = .ok (.iload_n 1, 1) := by decide +kernel
theorem dX8_due_6 : decode cX8_due 6 = .ok (.ifCond .ge 6, 3) := by decide +kernel
theorem dX8_due_9 : decode cX8_due 9 = .ok (.bipush (-2), 2) := by decide +kernel
theorem dX8_due_11 : decode cX8_due 11 = .ok (.ireturn, 1) := by decide +kernel
theorem dX8_due_12 : decode cX8_due 12 = .ok (.iload_n 1, 1) := by decide +kernel
theorem dX8_due_13 : decode cX8_due 13 = .ok (.istore_n 2, 1) := by decide +kernel
theorem dX8_due_14 : decode cX8_due 14 = .ok (.iconst (-1), 1) := by decide +kernel
theorem dX8_due_15 : decode cX8_due 15 = .ok (.istore_n 3, 1) := by decide +kernel
theorem dX8_due_16 : decode cX8_due 16 = .ok (.iconst 0, 1) := by decide +kernel
theorem dX8_due_17 : decode cX8_due 17 = .ok (.istore 4, 2) := by decide +kernel
theorem dX8_due_19 : decode cX8_due 19 = .ok (.iload 4, 2) := by decide +kernel
theorem dX8_due_21 : decode cX8_due 21 = .ok (.iconst 5, 1) := by decide +kernel
theorem dX8_due_22 : decode cX8_due 22 = .ok (.if_icmp .gt 67, 3) := by decide +kernel
theorem dX8_due_25 : decode cX8_due 25 = .ok (.iconst 0, 1) := by decide +kernel
theorem dX8_due_26 : decode cX8_due 26 = .ok (.istore 5, 2) := by decide +kernel
theorem dX8_due_28 : decode cX8_due 28 = .ok (.iload 5, 2) := by decide +kernel
theorem dX8_due_30 : decode cX8_due 30 = .ok (.aload_n 0, 1) := by decide +kernel
theorem dX8_due_31 : decode cX8_due 31 = .ok (.getfield 86, 3) := by decide +kernel
theorem dX8_due_34 : decode cX8_due 34 = .ok (.if_icmp .ge 49, 3) := by decide +kernel
theorem dX8_due_37 : decode cX8_due 37 = .ok (.aload_n 0, 1) := by decide +kernel
theorem dX8_due_38 : decode cX8_due 38 = .ok (.getfield 16, 3) := by decide +kernel
theorem dX8_due_41 : decode cX8_due 41 = .ok (.iload 5, 2) := by decide +kernel
theorem dX8_due_43 : decode cX8_due 43 = .ok (.iaload, 1) := by decide +kernel
theorem dX8_due_44 : decode cX8_due 44 = .ok (.iload 4, 2) := by decide +kernel
theorem dX8_due_46 : decode cX8_due 46 = .ok (.if_icmp .ne 31, 3) := by decide +kernel
theorem dX8_due_49 : decode cX8_due 49 = .ok (.aload_n 0, 1) := by decide +kernel
theorem dX8_due_50 : decode cX8_due 50 = .ok (.getfield 19, 3) := by decide +kernel
theorem dX8_due_53 : decode cX8_due 53 = .ok (.iload 5, 2) := by decide +kernel
theorem dX8_due_55 : decode cX8_due 55 = .ok (.iaload, 1) := by decide +kernel
theorem dX8_due_56 : decode cX8_due 56 = .ok (.aload_n 0, 1) := by decide +kernel
theorem dX8_due_57 : decode cX8_due 57 = .ok (.getfield 95, 3) := by decide +kernel
theorem dX8_due_60 : decode cX8_due 60 = .ok (.if_icmp .gt 17, 3) := by decide +kernel
theorem dX8_due_63 : decode cX8_due 63 = .ok (.iload_n 2, 1) := by decide +kernel
theorem dX8_due_64 : decode cX8_due 64 = .ok (.ifCond .ne 8, 3) := by decide +kernel
theorem dX8_due_67 : decode cX8_due 67 = .ok (.iload 5, 2) := by decide +kernel
theorem dX8_due_69 : decode cX8_due 69 = .ok (.goto 4, 3) := by decide +kernel
theorem dX8_due_72 : decode cX8_due 72 = .ok (.iload_n 3, 1) := by decide +kernel
theorem dX8_due_73 : decode cX8_due 73 = .ok (.istore_n 3, 1) := by decide +kernel
theorem dX8_due_74 : decode cX8_due 74 = .ok (.iinc 2 (-1), 3) := by decide +kernel
theorem dX8_due_77 : decode cX8_due 77 = .ok (.iinc 5 1, 3) := by decide +kernel
theorem dX8_due_80 : decode cX8_due 80 = .ok (.goto (-52), 3) := by decide +kernel
theorem dX8_due_83 : decode cX8_due 83 = .ok (.iinc 4 1, 3) := by decide +kernel
theorem dX8_due_86 : decode cX8_due 86 = .ok (.goto (-67), 3) := by decide +kernel
theorem dX8_due_89 : decode cX8_due 89 = .ok (.iload_n 3, 1) := by decide +kernel
theorem dX8_due_90 : decode cX8_due 90 = .ok (.ireturn, 1) := by decide +kernel
theorem dX8_of_0 : decode cX8_of 0 = .ok (.aload_n 0, 1) := by decide +kernel
theorem dX8_of_1 : decode cX8_of 1 = .ok (.iconst 0, 1) := by decide +kernel
theorem dX8_of_2 : decode cX8_of 2 = .ok (.putfield 83, 3) := by decide +kernel
theorem dX8_of_5 : decode cX8_of 5 = .ok (.iload_n 1, 1) := by decide +kernel
theorem dX8_of_6 : decode cX8_of 6 = .ok (.ifCond .lt 20, 3) := by decide +kernel
theorem dX8_of_9 : decode cX8_of 9 = .ok (.iload_n 1, 1) := by decide +kernel
theorem dX8_of_10 : decode cX8_of 10 = .ok (.aload_n 0, 1) := by decide +kernel
theorem dX8_of_11 : decode cX8_of 11 = .ok (.getfield 86, 3) := by decide +kernel
theorem dX8_of_14 : decode cX8_of 14 = .ok (.if_icmp .ge 12, 3) := by decide +kernel
theorem dX8_of_17 : decode cX8_of 17 = .ok (.iload_n 2, 1) := by decide +kernel
theorem dX8_of_18 : decode cX8_of 18 = .ok (.ifCond .lt 8, 3) := by decide +kernel
theorem dX8_of_21 : decode cX8_of 21 = .ok (.iload_n 2, 1) := by decide +kernel
theorem dX8_of_22 : decode cX8_of 22 = .ok (.iconst 3, 1) := by decide +kernel
theorem dX8_of_23 : decode cX8_of 23 = .ok (.if_icmp .le 6, 3) := by decide +kernel
theorem dX8_of_26 : decode cX8_of 26 = .ok (.bipush (-2), 2) := by decide +kernel
theorem dX8_of_28 : decode cX8_of 28 = .ok (.ireturn, 1) := by decide +kernel
theorem dX8_of_29 : decode cX8_of 29 = .ok (.iload_n 2, 1) := by decide +kernel
theorem dX8_of_30 : decode cX8_of 30 = .ok (.ifCond .ne 12, 3) := by decide +kernel
theorem dX8_of_33 : decode cX8_of 33 = .ok (.aload_n 0, 1) := by decide +kernel
theorem dX8_of_34 : decode cX8_of 34 = .ok (.getfield 7, 3) := by decide +kernel
theorem dX8_of_37 : decode cX8_of 37 = .ok (.iload_n 1, 1) := by decide +kernel
theorem dX8_of_38 : decode cX8_of 38 = .ok (.iaload, 1) := by decide +kernel
theorem dX8_of_39 : decode cX8_of 39 = .ok (.goto 37, 3) := by decide +kernel
theorem dX8_of_42 : decode cX8_of 42 = .ok (.iload_n 2, 1) := by decide +kernel
theorem dX8_of_43 : decode cX8_of 43 = .ok (.iconst 1, 1) := by decide +kernel
theorem dX8_of_44 : decode cX8_of 44 = .ok (.if_icmp .ne 12, 3) := by decide +kernel
theorem dX8_of_47 : decode cX8_of 47 = .ok (.aload_n 0, 1) := by decide +kernel
theorem dX8_of_48 : decode cX8_of 48 = .ok (.getfield 13, 3) := by decide +kernel
theorem dX8_of_51 : decode cX8_of 51 = .ok (.iload_n 1, 1) := by decide +kernel
theorem dX8_of_52 : decode cX8_of 52 = .ok (.iaload, 1) := by decide +kernel
theorem dX8_of_53 : decode cX8_of 53 = .ok (.goto 23, 3) := by decide +kernel
theorem dX8_of_56 : decode cX8_of 56 = .ok (.iload_n 2, 1) := by decide +kernel
theorem dX8_of_57 : decode cX8_of 57 = .ok (.iconst 2, 1) := by decide +kernel
theorem dX8_of_58 : decode cX8_of 58 = .ok (.if_icmp .ne 12, 3) := by decide +kernel
theorem dX8_of_61 : decode cX8_of 61 = .ok (.aload_n 0, 1) := by decide +kernel
theorem dX8_of_62 : decode cX8_of 62 = .ok (.getfield 16, 3) := by decide +kernel
theorem dX8_of_65 : decode cX8_of 65 = .ok (.iload_n 1, 1) := by decide +kernel
theorem dX8_of_66 : decode cX8_of 66 = .ok (.iaload, 1) := by decide +kernel
theorem dX8_of_67 : decode cX8_of 67 = .ok (.goto 9, 3) := by decide +kernel
theorem dX8_of_70 : decode cX8_of 70 = .ok (.aload_n 0, 1) := by decide +kernel
theorem dX8_of_71 : decode cX8_of 71 = .ok (.getfield 19, 3) := by decide +kernel
theorem dX8_of_74 : decode cX8_of 74 = .ok (.iload_n 1, 1) := by decide +kernel
theorem dX8_of_75 : decode cX8_of 75 = .ok (.iaload, 1) := by decide +kernel
theorem dX8_of_76 : decode cX8_of 76 = .ok (.ireturn, 1) := by decide +kernel
theorem dX8_told_0 : decode cX8_told 0 = .ok (.aload_n 0, 1) := by decide +kernel
theorem dX8_told_1 : decode cX8_told 1 = .ok (.iconst 0, 1) := by decide +kernel
theorem dX8_told_2 : decode cX8_told 2 = .ok (.putfield 83, 3) := by decide +kernel
theorem dX8_told_5 : decode cX8_told 5 = .ok (.iload_n 1, 1) := by decide +kernel
theorem dX8_told_6 : decode cX8_told 6 = .ok (.ifCond .lt 9, 3) := by decide +kernel
theorem dX8_told_9 : decode cX8_told 9 = .ok (.iload_n 1, 1) := by decide +kernel
theorem dX8_told_10 : decode cX8_told 10 = .ok (.bipush 8, 2) := by decide +kernel
theorem dX8_told_12 : decode cX8_told 12 = .ok (.if_icmp .le 6, 3) := by decide +kernel
theorem dX8_told_15 : decode cX8_told 15 = .ok (.bipush (-2), 2) := by decide +kernel
theorem dX8_told_17 : decode cX8_told 17 = .ok (.ireturn, 1) := by decide +kernel
theorem dX8_told_18 : decode cX8_told 18 = .ok (.iload_n 1, 1) := by decide +kernel
theorem dX8_told_19 : decode cX8_told 19 = .ok (.ifCond .ne 10, 3) := by decide +kernel
theorem dX8_told_22 : decode cX8_told 22 = .ok (.aload_n 0, 1) := by decide +kernel
theorem dX8_told_23 : decode cX8_told 23 = .ok (.getfield 86, 3) := by decide +kernel
theorem dX8_told_26 : decode cX8_told 26 = .ok (.goto 93, 3) := by decide +kernel
theorem dX8_told_29 : decode cX8_told 29 = .ok (.iload_n 1, 1) := by decide +kernel
theorem dX8_told_30 : decode cX8_told 30 = .ok (.iconst 1, 1) := by decide +kernel
theorem dX8_told_31 : decode cX8_told 31 = .ok (.if_icmp .ne 10, 3) := by decide +kernel
theorem dX8_told_34 : decode cX8_told 34 = .ok (.aload_n 0, 1) := by decide +kernel
theorem dX8_told_35 : decode cX8_told 35 = .ok (.getfield 89, 3) := by decide +kernel
theorem dX8_told_38 : decode cX8_told 38 = .ok (.goto 81, 3) := by decide +kernel
theorem dX8_told_41 : decode cX8_told 41 = .ok (.iload_n 1, 1) := by decide +kernel
theorem dX8_told_42 : decode cX8_told 42 = .ok (.iconst 2, 1) := by decide +kernel
theorem dX8_told_43 : decode cX8_told 43 = .ok (.if_icmp .ne 10, 3) := by decide +kernel
theorem dX8_told_46 : decode cX8_told 46 = .ok (.aload_n 0, 1) := by decide +kernel
theorem dX8_told_47 : decode cX8_told 47 = .ok (.getfield 101, 3) := by decide +kernel
theorem dX8_told_50 : decode cX8_told 50 = .ok (.goto 69, 3) := by decide +kernel
theorem dX8_told_53 : decode cX8_told 53 = .ok (.iload_n 1, 1) := by decide +kernel
theorem dX8_told_54 : decode cX8_told 54 = .ok (.iconst 3, 1) := by decide +kernel
theorem dX8_told_55 : decode cX8_told 55 = .ok (.if_icmp .ne 10, 3) := by decide +kernel
theorem dX8_told_58 : decode cX8_told 58 = .ok (.aload_n 0, 1) := by decide +kernel
theorem dX8_told_59 : decode cX8_told 59 = .ok (.getfield 124, 3) := by decide +kernel
theorem dX8_told_62 : decode cX8_told 62 = .ok (.goto 57, 3) := by decide +kernel
theorem dX8_told_65 : decode cX8_told 65 = .ok (.iload_n 1, 1) := by decide +kernel
theorem dX8_told_66 : decode cX8_told 66 = .ok (.iconst 4, 1) := by decide +kernel
theorem dX8_told_67 : decode cX8_told 67 = .ok (.if_icmp .ne 10, 3) := by decide +kernel
theorem dX8_told_70 : decode cX8_told 70 = .ok (.aload_n 0, 1) := by decide +kernel
theorem dX8_told_71 : decode cX8_told 71 = .ok (.getfield 95, 3) := by decide +kernel
theorem dX8_told_74 : decode cX8_told 74 = .ok (.goto 45, 3) := by decide +kernel
theorem dX8_told_77 : decode cX8_told 77 = .ok (.iload_n 1, 1) := by decide +kernel
theorem dX8_told_78 : decode cX8_told 78 = .ok (.iconst 5, 1) := by decide +kernel
theorem dX8_told_79 : decode cX8_told 79 = .ok (.if_icmp .ne 10, 3) := by decide +kernel
theorem dX8_told_82 : decode cX8_told 82 = .ok (.aload_n 0, 1) := by decide +kernel
theorem dX8_told_83 : decode cX8_told 83 = .ok (.getfield 127, 3) := by decide +kernel
theorem dX8_told_86 : decode cX8_told 86 = .ok (.goto 33, 3) := by decide +kernel
theorem dX8_told_89 : decode cX8_told 89 = .ok (.iload_n 1, 1) := by decide +kernel
theorem dX8_told_90 : decode cX8_told 90 = .ok (.bipush 6, 2) := by decide +kernel
theorem dX8_told_92 : decode cX8_told 92 = .ok (.if_icmp .ne 10, 3) := by decide +kernel
theorem dX8_told_95 : decode cX8_told 95 = .ok (.aload_n 0, 1) := by decide +kernel
theorem dX8_told_96 : decode cX8_told 96 = .ok (.getfield 28, 3) := by decide +kernel
theorem dX8_told_99 : decode cX8_told 99 = .ok (.goto 20, 3) := by decide +kernel
theorem dX8_told_102 : decode cX8_told 102 = .ok (.iload_n 1, 1) := by decide +kernel
theorem dX8_told_103 : decode cX8_told 103 = .ok (.bipush 7, 2) := by decide +kernel
theorem dX8_told_105 : decode cX8_told 105 = .ok (.if_icmp .ne 10, 3) := by decide +kernel
theorem dX8_told_108 : decode cX8_told 108 = .ok (.aload_n 0, 1) := by decide +kernel
theorem dX8_told_109 : decode cX8_told 109 = .ok (.getfield 32, 3) := by decide +kernel
theorem dX8_told_112 : decode cX8_told 112 = .ok (.goto 7, 3) := by decide +kernel
theorem dX8_told_115 : decode cX8_told 115 = .ok (.aload_n 0, 1) := by decide +kernel
theorem dX8_told_116 : decode cX8_told 116 = .ok (.getfield 92, 3) := by decide +kernel
theorem dX8_told_119 : decode cX8_told 119 = .ok (.ireturn, 1) := by decide +kernel
