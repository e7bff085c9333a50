theorem dX10_init_0 : decode cX10_init 0 = .ok (.aload_n 0, 1) := by decide +kernel
theorem dX10_init_1 : decode cX10_init 1 = .ok (.invokespecial 1, 3) := by decide +kernel
theorem dX10_init_4 : decode cX10_init 4 = .ok (.aload_n 0, 1) := by decide +kernel
theorem dX10_init_5 : decode cX10_init 5 = .ok (.bipush 8, 2) := by decide +kernel
theorem dX10_init_7 : decode cX10_init 7 = .ok (.newarray .int, 2) := by decide +kernel
theorem dX10_init_9 : decode cX10_init 9 = .ok (.putfield 7, 3) := by decide +kernel
theorem dX10_init_12 : decode cX10_init 12 = .ok (.aload_n 0, 1) := by decide +kernel
theorem dX10_init_13 : decode cX10_init 13 = .ok (.bipush 16, 2) := by decide +kernel
theorem dX10_init_15 : decode cX10_init 15 = .ok (.newarray .int, 2) := by decide +kernel
theorem dX10_init_17 : decode cX10_init 17 = .ok (.putfield 13, 3) := by decide +kernel
theorem dX10_init_20 : decode cX10_init 20 = .ok (.aload_n 0, 1) := by decide +kernel
theorem dX10_init_21 : decode cX10_init 21 = .ok (.bipush 8, 2) := by decide +kernel
theorem dX10_init_23 : decode cX10_init 23 = .ok (.newarray .int, 2) := by decide +kernel
theorem dX10_init_25 : decode cX10_init 25 = .ok (.putfield 16, 3) := by decide +kernel
theorem dX10_init_28 : decode cX10_init 28 = .ok (.aload_n 0, 1) := by decide +kernel
theorem dX10_init_29 : decode cX10_init 29 = .ok (.bipush 8, 2) := by decide +kernel
theorem dX10_init_31 : decode cX10_init 31 = .ok (.newarray .int, 2) := by decide +kernel
theorem dX10_init_33 : decode cX10_init 33 = .ok (.putfield 19, 3) := by decide +kernel
theorem dX10_init_36 : decode cX10_init 36 = .ok (.aload_n 0, 1) := by decide +kernel
theorem dX10_init_37 : decode cX10_init 37 = .ok (.bipush 16, 2) := by decide +kernel
theorem dX10_init_39 : decode cX10_init 39 = .ok (.newarray .int, 2) := by decide +kernel
theorem dX10_init_41 : decode cX10_init 41 = .ok (.putfield 22, 3) := by decide +kernel
theorem dX10_init_44 : decode cX10_init 44 = .ok (.aload_n 0, 1) := by decide +kernel
theorem dX10_init_45 : decode cX10_init 45 = .ok (.bipush 8, 2) := by decide +kernel
theorem dX10_init_47 : decode cX10_init 47 = .ok (.newarray .int, 2) := by decide +kernel
theorem dX10_init_49 : decode cX10_init 49 = .ok (.putfield 25, 3) := by decide +kernel
theorem dX10_init_52 : decode cX10_init 52 = .ok (.aload_n 0, 1) := by decide +kernel
theorem dX10_init_53 : decode cX10_init 53 = .ok (.iconst 4, 1) := by decide +kernel
theorem dX10_init_54 : decode cX10_init 54 = .ok (.newarray .int, 2) := by decide +kernel
theorem dX10_init_56 : decode cX10_init 56 = .ok (.putfield 28, 3) := by decide +kernel
theorem dX10_init_59 : decode cX10_init 59 = .ok (.aload_n 0, 1) := by decide +kernel
theorem dX10_init_60 : decode cX10_init 60 = .ok (.iconst 4, 1) := by decide +kernel
theorem dX10_init_61 : decode cX10_init 61 = .ok (.newarray .int, 2) := by decide +kernel
theorem dX10_init_63 : decode cX10_init 63 = .ok (.putfield 31, 3) := by decide +kernel
theorem dX10_init_66 : decode cX10_init 66 = .ok (.aload_n 0, 1) := by decide +kernel
theorem dX10_init_67 : decode cX10_init 67 = .ok (.iconst 4, 1) := by decide +kernel
theorem dX10_init_68 : decode cX10_init 68 = .ok (.newarray .int, 2) := by decide +kernel
theorem dX10_init_70 : decode cX10_init 70 = .ok (.putfield 34, 3) := by decide +kernel
theorem dX10_init_73 : decode cX10_init 73 = .ok (.aload_n 0, 1) := by decide +kernel
theorem dX10_init_74 : decode cX10_init 74 = .ok (.iconst 4, 1) := by decide +kernel
theorem dX10_init_75 : decode cX10_init 75 = .ok (.newarray .int, 2) := by decide +kernel
theorem dX10_init_77 : decode cX10_init 77 = .ok (.putfield 37, 3) := by decide +kernel
theorem dX10_init_80 : decode cX10_init 80 = .ok (.aload_n 0, 1) := by decide +kernel
theorem dX10_init_81 : decode cX10_init 81 = .ok (.iconst 4, 1) := by decide +kernel
theorem dX10_init_82 : decode cX10_init 82 = .ok (.newarray .int, 2) := by decide +kernel
theorem dX10_init_84 : decode cX10_init 84 = .ok (.putfield 40, 3) := by decide +kernel
theorem dX10_init_87 : decode cX10_init 87 = .ok (.aload_n 0, 1) := by decide +kernel
theorem dX10_init_88 : decode cX10_init 88 = .ok (.iconst 4, 1) := by decide +kernel
theorem dX10_init_89 : decode cX10_init 89 = .ok (.newarray .int, 2) := by decide +kernel
theorem dX10_init_91 : decode cX10_init 91 = .ok (.putfield 43, 3) := by decide +kernel
theorem dX10_init_94 : decode cX10_init 94 = .ok (.aload_n 0, 1) := by decide +kernel
theorem dX10_init_95 : decode cX10_init 95 = .ok (.iconst 4, 1) := by decide +kernel
theorem dX10_init_96 : decode cX10_init 96 = .ok (.newarray .boolean, 2) := by decide +kernel
theorem dX10_init_98 : decode cX10_init 98 = .ok (.putfield 46, 3) := by decide +kernel
theorem dX10_init_101 : decode cX10_init 101 = .ok (.aload_n 0, 1) := by decide +kernel
theorem dX10_init_102 : decode cX10_init 102 = .ok (.sipush 14406, 3) := by decide +kernel
theorem dX10_init_105 : decode cX10_init 105 = .ok (.newarray .int, 2) := by decide +kernel
theorem dX10_init_107 : decode cX10_init 107 = .ok (.putfield 50, 3) := by decide +kernel
theorem dX10_init_110 : decode cX10_init 110 = .ok (.aload_n 0, 1) := by decide +kernel
theorem dX10_init_111 : decode cX10_init 111 = .ok (.sipush 14406, 3) := by decide +kernel
theorem dX10_init_114 : decode cX10_init 114 = .ok (.newarray .int, 2) := by decide +kernel
theorem dX10_init_116 : decode cX10_init 116 = .ok (.putfield 53, 3) := by decide +kernel
theorem dX10_init_119 : decode cX10_init 119 = .ok (.aload_n 0, 1) := by decide +kernel
theorem dX10_init_120 : decode cX10_init 120 = .ok (.sipush 14406, 3) := by decide +kernel
theorem dX10_init_123 : decode cX10_init 123 = .ok (.newarray .int, 2) := by decide +kernel
theorem dX10_init_125 : decode cX10_init 125 = .ok (.putfield 56, 3) := by decide +kernel
theorem dX10_init_128 : decode cX10_init 128 = .ok (.aload_n 0, 1) := by decide +kernel
theorem dX10_init_129 : decode cX10_init 129 = .ok (.sipush 14406, 3) := by decide +kernel
theorem dX10_init_132 : decode cX10_init 132 = .ok (.newarray .boolean, 2) := by decide +kernel
theorem dX10_init_134 : decode cX10_init 134 = .ok (.putfield 59, 3) := by decide +kernel
theorem dX10_init_137 : decode cX10_init 137 = .ok (.aload_n 0, 1) := by decide +kernel
theorem dX10_init_138 : decode cX10_init 138 = .ok (.sipush 14406, 3) := by decide +kernel
theorem dX10_init_141 : decode cX10_init 141 = .ok (.newarray .int, 2) := by decide +kernel
theorem dX10_init_143 : decode cX10_init 143 = .ok (.putfield 62, 3) := by decide +kernel
theorem dX10_init_146 : decode cX10_init 146 = .ok (.aload_n 0, 1) := by decide +kernel
theorem dX10_init_147 : decode cX10_init 147 = .ok (.iconst 4, 1) := by decide +kernel
theorem dX10_init_148 : decode cX10_init 148 = .ok (.newarray .int, 2) := by decide +kernel
theorem dX10_init_150 : decode cX10_init 150 = .ok (.putfield 65, 3) := by decide +kernel
theorem dX10_init_153 : decode cX10_init 153 = .ok (.aload_n 0, 1) := by decide +kernel
theorem dX10_init_154 : decode cX10_init 154 = .ok (.iconst 4, 1) := by decide +kernel
theorem dX10_init_155 : decode cX10_init 155 = .ok (.newarray .int, 2) := by decide +kernel
theorem dX10_init_157 : decode cX10_init 157 = .ok (.putfield 68, 3) := by decide +kernel
theorem dX10_init_160 : decode cX10_init 160 = .ok (.aload_n 0, 1) := by decide +kernel
theorem dX10_init_161 : decode cX10_init 161 = .ok (.sipush 240, 3) := by decide +kernel
theorem dX10_init_164 : decode cX10_init 164 = .ok (.newarray .int, 2) := by decide +kernel
theorem dX10_init_166 : decode cX10_init 166 = .ok (.putfield 71, 3) := by decide +kernel
theorem dX10_init_169 : decode cX10_init 169 = .ok (.aload_n 0, 1) := by decide +kernel
theorem dX10_init_170 : decode cX10_init 170 = .ok (.bipush 60, 2) := by decide +kernel
theorem dX10_init_172 : decode cX10_init 172 = .ok (.newarray .int, 2) := by decide +kernel
theorem dX10_init_174 : decode cX10_init 174 = .ok (.putfield 74, 3) := by decide +kernel
theorem dX10_init_177 : decode cX10_init 177 = .ok (.iconst 0, 1) := by decide +kernel
theorem dX10_init_178 : decode cX10_init 178 = .ok (.istore_n 1, 1) := by decide +kernel
theorem dX10_init_179 : decode cX10_init 179 = .ok (.iload_n 1, 1) := by decide +kernel
theorem dX10_init_180 : decode cX10_init 180 = .ok (.iconst 4, 1) := by decide +kernel
theorem dX10_init_181 : decode cX10_init 181 = .ok (.if_icmp .ge 16, 3) := by decide +kernel
theorem dX10_init_184 : decode cX10_init 184 = .ok (.aload_n 0, 1) := by decide +kernel
theorem dX10_init_185 : decode cX10_init 185 = .ok (.getfield 65, 3) := by decide +kernel
theorem dX10_init_188 : decode cX10_init 188 = .ok (.iload_n 1, 1) := by decide +kernel
theorem dX10_init_189 : decode cX10_init 189 = .ok (.iconst (-1), 1) := by decide +kernel
theorem dX10_init_190 : decode cX10_init 190 = .ok (.iastore, 1) := by decide +kernel
theorem dX10_init_191 : decode cX10_init 191 = .ok (.iinc 1 1, 3) := by decide +kernel
theorem dX10_init_194 : decode cX10_init 194 = .ok (.goto (-15), 3) := by decide +kernel
theorem dX10_init_197 : decode cX10_init 197 = .ok (.return_, 1) := by decide +kernel
theorem dX10_in_0 : decode cX10_in 0 = .ok (.lload_n 0, 1) := by decide +kernel
theorem dX10_in_1 : decode cX10_in 1 = .ok (.lload_n 2, 1) := by decide +kernel
theorem dX10_in_2 : decode cX10_in 2 = .ok (.lcmp, 1) := by decide +kernel
theorem dX10_in_3 : decode cX10_in 3 = .ok (.ifCond .lt 14, 3) := by decide +kernel
theorem dX10_in_6 : decode cX10_in 6 = .ok (.lload_n 0, 1) := by decide +kernel
theorem dX10_in_7 : decode cX10_in 7 = .ok (.lload 4, 2) := by decide +kernel
theorem dX10_in_9 : decode cX10_in 9 = .ok (.lcmp, 1) := by decide +kernel
theorem dX10_in_10 : decode cX10_in 10 = .ok (.ifCond .gt 7, 3) := by decide +kernel
theorem dX10_in_13 : decode cX10_in 13 = .ok (.iconst 1, 1) := by decide +kernel
theorem dX10_in_14 : decode cX10_in 14 = .ok (.goto 4, 3) := by decide +kernel
theorem dX10_in_17 : decode cX10_in 17 = .ok (.iconst 0, 1) := by decide +kernel
theorem dX10_in_18 : decode cX10_in 18 = .ok (.ireturn, 1) := by decide +kernel
theorem dX10_lost_0 : decode cX10_lost 0 = .ok (.ldc2_w 77, 3) := by decide +kernel
theorem dX10_lost_3 : decode cX10_lost 3 = .ok (.lreturn, 1) := by decide +kernel
theorem dX10_refused_0 : decode cX10_refused 0 = .ok (.aload_n 0, 1) := by decide +kernel
theorem dX10_refused_1 : decode cX10_refused 1 = .ok (.iconst 0, 1) := by decide +kernel
theorem dX10_refused_2 : decode cX10_refused 2 = .ok (.putfield 79, 3) := by decide +kernel
theorem dX10_refused_5 : decode cX10_refused 5 = .ok (.iload_n 1, 1) := by decide +kernel
theorem dX10_refused_6 : decode cX10_refused 6 = .ok (.ireturn, 1) := by decide +kernel
theorem dX10_failed_0 : decode cX10_failed 0 = .ok (.aload_n 0, 1) := by decide +kernel
theorem dX10_failed_1 : decode cX10_failed 1 = .ok (.iload_n 1, 1) := by decide +kernel
theorem dX10_failed_2 : decode cX10_failed 2 = .ok (.putfield 79, 3) := by decide +kernel
theorem dX10_failed_5 : decode cX10_failed 5 = .ok (.bipush (-10), 2) := by decide +kernel
theorem dX10_failed_7 : decode cX10_failed 7 = .ok (.iload_n 1, 1) := by decide +kernel
theorem dX10_failed_8 : decode cX10_failed 8 = .ok (.isub, 1) := by decide +kernel
theorem dX10_failed_9 : decode cX10_failed 9 = .ok (.ireturn, 1) := by decide +kernel
theorem dX10_failedLong_0 : decode cX10_failedLong 0 = .ok (.aload_n 0, 1) := by decide +kernel
theorem dX10_failedLong_1 : decode cX10_failedLong 1 = .ok (.iload_n 1, 1) := by decide +kernel
theorem dX10_failedLong_2 : decode cX10_failedLong 2 = .ok (.putfield 79, 3) := by decide +kernel
theorem dX10_failedLong_5 : decode cX10_failedLong 5 = .ok (.invokestatic 83, 3) := by decide +kernel
theorem dX10_failedLong_8 : decode cX10_failedLong 8 = .ok (.lreturn, 1) := by decide +kernel
theorem dX10_barred_0 : decode cX10_barred 0 = .ok (.iload_n 1, 1) := by decide +kernel
theorem dX10_barred_1 : decode cX10_barred 1 = .ok (.invokestatic 87, 3) := by decide +kernel
theorem dX10_barred_4 : decode cX10_barred 4 = .ok (.ifCond .eq 9, 3) := by decide +kernel
theorem dX10_barred_7 : decode cX10_barred 7 = .ok (.aload_n 0, 1) := by decide +kernel
theorem dX10_barred_8 : decode cX10_barred 8 = .ok (.iconst (-1), 1) := by decide +kernel
theorem dX10_barred_9 : decode cX10_barred 9 = .ok (.invokevirtual 91, 3) := by decide +kernel
theorem dX10_barred_12 : decode cX10_barred 12 = .ok (.ireturn, 1) := by decide +kernel
theorem dX10_barred_13 : decode cX10_barred 13 = .ok (.iload_n 2, 1) := by decide +kernel
theorem dX10_barred_14 : decode cX10_barred 14 = .ok (.i2l, 1) := by decide +kernel
theorem dX10_barred_15 : decode cX10_barred 15 = .ok (.lconst 0, 1) := by decide +kernel
theorem dX10_barred_16 : decode cX10_barred 16 = .ok (.ldc2_w 95, 3) := by decide +kernel
theorem dX10_barred_19 : decode cX10_barred 19 = .ok (.invokestatic 97, 3) := by decide +kernel
theorem dX10_barred_22 : decode cX10_barred 22 = .ok (.ifCond .ne 10, 3) := by decide +kernel
theorem dX10_barred_25 : decode cX10_barred 25 = .ok (.aload_n 0, 1) := by decide +kernel
theorem dX10_barred_26 : decode cX10_barred 26 = .ok (.bipush (-2), 2) := by decide +kernel
theorem dX10_barred_28 : decode cX10_barred 28 = .ok (.invokevirtual 91, 3) := by decide +kernel
theorem dX10_barred_31 : decode cX10_barred 31 = .ok (.ireturn, 1) := by decide +kernel
theorem dX10_barred_32 : decode cX10_barred 32 = .ok (.aload_n 0, 1) := by decide +kernel
theorem dX10_barred_33 : decode cX10_barred 33 = .ok (.getfield 65, 3) := by decide +kernel
theorem dX10_barred_36 : decode cX10_barred 36 = .ok (.iload_n 1, 1) := by decide +kernel
theorem dX10_barred_37 : decode cX10_barred 37 = .ok (.iaload, 1) := by decide +kernel
theorem dX10_barred_38 : decode cX10_barred 38 = .ok (.ifCond .lt 19, 3) := by decide +kernel
theorem dX10_barred_41 : decode cX10_barred 41 = .ok (.aload_n 0, 1) := by decide +kernel
theorem dX10_barred_42 : decode cX10_barred 42 = .ok (.getfield 68, 3) := by decide +kernel
theorem dX10_barred_45 : decode cX10_barred 45 = .ok (.iload_n 1, 1) := by decide +kernel
theorem dX10_barred_46 : decode cX10_barred 46 = .ok (.iaload, 1) := by decide +kernel
theorem dX10_barred_47 : decode cX10_barred 47 = .ok (.iload_n 2, 1) := by decide +kernel
theorem dX10_barred_48 : decode cX10_barred 48 = .ok (.if_icmp .eq 9, 3) := by decide +kernel
theorem dX10_barred_51 : decode cX10_barred 51 = .ok (.aload_n 0, 1) := by decide +kernel
theorem dX10_barred_52 : decode cX10_barred 52 = .ok (.iconst 2, 1) := by decide +kernel
theorem dX10_barred_53 : decode cX10_barred 53 = .ok (.invokevirtual 101, 3) := by decide +kernel
theorem dX10_barred_56 : decode cX10_barred 56 = .ok (.ireturn, 1) := by decide +kernel
theorem dX10_barred_57 : decode cX10_barred 57 = .ok (.aload_n 0, 1) := by decide +kernel
theorem dX10_barred_58 : decode cX10_barred 58 = .ok (.getfield 65, 3) := by decide +kernel
theorem dX10_barred_61 : decode cX10_barred 61 = .ok (.iload_n 1, 1) := by decide +kernel
theorem dX10_barred_62 : decode cX10_barred 62 = .ok (.iaload, 1) := by decide +kernel
theorem dX10_barred_63 : decode cX10_barred 63 = .ok (.ifCond .ge 9, 3) := by decide +kernel
theorem dX10_barred_66 : decode cX10_barred 66 = .ok (.aload_n 0, 1) := by decide +kernel
theorem dX10_barred_67 : decode cX10_barred 67 = .ok (.iconst 1, 1) := by decide +kernel
theorem dX10_barred_68 : decode cX10_barred 68 = .ok (.invokevirtual 101, 3) := by decide +kernel
theorem dX10_barred_71 : decode cX10_barred 71 = .ok (.ireturn, 1) := by decide +kernel
theorem dX10_barred_72 : decode cX10_barred 72 = .ok (.lload 4, 2) := by decide +kernel
theorem dX10_barred_74 : decode cX10_barred 74 = .ok (.lconst 0, 1) := by decide +kernel
theorem dX10_barred_75 : decode cX10_barred 75 = .ok (.lcmp, 1) := by decide +kernel
theorem dX10_barred_76 : decode cX10_barred 76 = .ok (.ifCond .ge 9, 3) := by decide +kernel
theorem dX10_barred_79 : decode cX10_barred 79 = .ok (.aload_n 0, 1) := by decide +kernel
theorem dX10_barred_80 : decode cX10_barred 80 = .ok (.iconst 4, 1) := by decide +kernel
theorem dX10_barred_81 : decode cX10_barred 81 = .ok (.invokevirtual 101, 3) := by decide +kernel
theorem dX10_barred_84 : decode cX10_barred 84 = .ok (.ireturn, 1) := by decide +kernel
theorem dX10_barred_85 : decode cX10_barred 85 = .ok (.iload_n 3, 1) := by decide +kernel
theorem dX10_barred_86 : decode cX10_barred 86 = .ok (.lload 4, 2) := by decide +kernel
theorem dX10_barred_88 : decode cX10_barred 88 = .ok (.aload_n 0, 1) := by decide +kernel
theorem dX10_barred_89 : decode cX10_barred 89 = .ok (.getfield 65, 3) := by decide +kernel
theorem dX10_barred_92 : decode cX10_barred 92 = .ok (.iload_n 1, 1) := by decide +kernel
theorem dX10_barred_93 : decode cX10_barred 93 = .ok (.iaload, 1) := by decide +kernel
theorem dX10_barred_94 : decode cX10_barred 94 = .ok (.invokestatic 104, 3) := by decide +kernel
theorem dX10_barred_97 : decode cX10_barred 97 = .ok (.ifCond .eq 11, 3) := by decide +kernel
theorem dX10_barred_100 : decode cX10_barred 100 = .ok (.aload_n 0, 1) := by decide +kernel
theorem dX10_barred_101 : decode cX10_barred 101 = .ok (.iconst 3, 1) := by decide +kernel
theorem dX10_barred_102 : decode cX10_barred 102 = .ok (.invokevirtual 101, 3) := by decide +kernel
theorem dX10_barred_105 : decode cX10_barred 105 = .ok (.goto 4, 3) := by decide +kernel
theorem dX10_barred_108 : decode cX10_barred 108 = .ok (.iconst 0, 1) := by decide +kernel
theorem dX10_barred_109 : decode cX10_barred 109 = .ok (.ireturn, 1) := by decide +kernel
theorem dX10_noRoom_0 : decode cX10_noRoom 0 = .ok (.iload_n 1, 1) := by decide +kernel
theorem dX10_noRoom_1 : decode cX10_noRoom 1 = .ok (.i2l, 1) := by decide +kernel
theorem dX10_noRoom_2 : decode cX10_noRoom 2 = .ok (.lconst 0, 1) := by decide +kernel
theorem dX10_noRoom_3 : decode cX10_noRoom 3 = .ok (.aload_n 0, 1) := by decide +kernel
theorem dX10_noRoom_4 : decode cX10_noRoom 4 = .ok (.getfield 108, 3) := by decide +kernel
theorem dX10_noRoom_7 : decode cX10_noRoom 7 = .ok (.i2l, 1) := by decide +kernel
theorem dX10_noRoom_8 : decode cX10_noRoom 8 = .ok (.lconst 1, 1) := by decide +kernel
theorem dX10_noRoom_9 : decode cX10_noRoom 9 = .ok (.lsub, 1) := by decide +kernel
theorem dX10_noRoom_10 : decode cX10_noRoom 10 = .ok (.invokestatic 97, 3) := by decide +kernel
theorem dX10_noRoom_13 : decode cX10_noRoom 13 = .ok (.ifCond .ne 7, 3) := by decide +kernel
theorem dX10_noRoom_16 : decode cX10_noRoom 16 = .ok (.iconst 1, 1) := by decide +kernel
theorem dX10_noRoom_17 : decode cX10_noRoom 17 = .ok (.goto 4, 3) := by decide +kernel
theorem dX10_noRoom_20 : decode cX10_noRoom 20 = .ok (.iconst 0, 1) := by decide +kernel
theorem dX10_noRoom_21 : decode cX10_noRoom 21 = .ok (.ireturn, 1) := by decide +kernel
theorem dX10_noDoor_0 : decode cX10_noDoor 0 = .ok (.iload_n 1, 1) := by decide +kernel
theorem dX10_noDoor_1 : decode cX10_noDoor 1 = .ok (.i2l, 1) := by decide +kernel
theorem dX10_noDoor_2 : decode cX10_noDoor 2 = .ok (.lconst 0, 1) := by decide +kernel
theorem dX10_noDoor_3 : decode cX10_noDoor 3 = .ok (.aload_n 0, 1) := by decide +kernel
theorem dX10_noDoor_4 : decode cX10_noDoor 4 = .ok (.getfield 111, 3) := by decide +kernel
theorem dX10_noDoor_7 : decode cX10_noDoor 7 = .ok (.i2l, 1) := by decide +kernel
theorem dX10_noDoor_8 : decode cX10_noDoor 8 = .ok (.lconst 1, 1) := by decide +kernel
theorem dX10_noDoor_9 : decode cX10_noDoor 9 = .ok (.lsub, 1) := by decide +kernel
theorem dX10_noDoor_10 : decode cX10_noDoor 10 = .ok (.invokestatic 97, 3) := by decide +kernel
theorem dX10_noDoor_13 : decode cX10_noDoor 13 = .ok (.ifCond .ne 7, 3) := by decide +kernel
theorem dX10_noDoor_16 : decode cX10_noDoor 16 = .ok (.iconst 1, 1) := by decide +kernel
theorem dX10_noDoor_17 : decode cX10_noDoor 17 = .ok (.goto 4, 3) := by decide +kernel
theorem dX10_noDoor_20 : decode cX10_noDoor 20 = .ok (.iconst 0, 1) := by decide +kernel
theorem dX10_noDoor_21 : decode cX10_noDoor 21 = .ok (.ireturn, 1) := by decide +kernel
theorem dX10_codeAt_0 : decode cX10_codeAt 0 = .ok (.aload_n 0, 1) := by decide +kernel
theorem dX10_codeAt_1 : decode cX10_codeAt 1 = .ok (.getfield 114, 3) := by decide +kernel
theorem dX10_codeAt_4 : decode cX10_codeAt 4 = .ok (.iload_n 2, 1) := by decide +kernel
theorem dX10_codeAt_5 : decode cX10_codeAt 5 = .ok (.if_icmp .ge 17, 3) := by decide +kernel
theorem dX10_codeAt_8 : decode cX10_codeAt 8 = .ok (.aload_n 0, 1) := by decide +kernel
theorem dX10_codeAt_9 : decode cX10_codeAt 9 = .ok (.getfield 71, 3) := by decide +kernel
theorem dX10_codeAt_12 : decode cX10_codeAt 12 = .ok (.iload_n 1, 1) := by decide +kernel
theorem dX10_codeAt_13 : decode cX10_codeAt 13 = .ok (.aload_n 0, 1) := by decide +kernel
theorem dX10_codeAt_14 : decode cX10_codeAt 14 = .ok (.getfield 114, 3) := by decide +kernel
theorem dX10_codeAt_17 : decode cX10_codeAt 17 = .ok (.iadd, 1) := by decide +kernel
theorem dX10_codeAt_18 : decode cX10_codeAt 18 = .ok (.iaload, 1) := by decide +kernel
theorem dX10_codeAt_19 : decode cX10_codeAt 19 = .ok (.goto 5, 3) := by decide +kernel
theorem dX10_codeAt_22 : decode cX10_codeAt 22 = .ok (.bipush (-9), 2) := by decide +kernel
theorem dX10_codeAt_24 : decode cX10_codeAt 24 = .ok (.ireturn, 1) := by decide +kernel
theorem dX10_figure_0 : decode cX10_figure 0 = .ok (.aload_n 0, 1) := by decide +kernel
theorem dX10_figure_1 : decode cX10_figure 1 = .ok (.iload_n 1, 1) := by decide +kernel
theorem dX10_figure_2 : decode cX10_figure 2 = .ok (.iload_n 2, 1) := by decide +kernel
theorem dX10_figure_3 : decode cX10_figure 3 = .ok (.invokevirtual 117, 3) := by decide +kernel
theorem dX10_figure_6 : decode cX10_figure 6 = .ok (.bipush 48, 2) := by decide +kernel
theorem dX10_figure_8 : decode cX10_figure 8 = .ok (.isub, 1) := by decide +kernel
theorem dX10_figure_9 : decode cX10_figure 9 = .ok (.istore 5, 2) := by decide +kernel
theorem dX10_figure_11 : decode cX10_figure 11 = .ok (.iload 5, 2) := by decide +kernel
theorem dX10_figure_13 : decode cX10_figure 13 = .ok (.i2l, 1) := by decide +kernel
theorem dX10_figure_14 : decode cX10_figure 14 = .ok (.iload_n 3, 1) := by decide +kernel
theorem dX10_figure_15 : decode cX10_figure 15 = .ok (.i2l, 1) := by decide +kernel
theorem dX10_figure_16 : decode cX10_figure 16 = .ok (.iload 4, 2) := by decide +kernel
theorem dX10_figure_18 : decode cX10_figure 18 = .ok (.i2l, 1) := by decide +kernel
theorem dX10_figure_19 : decode cX10_figure 19 = .ok (.invokestatic 97, 3) := by decide +kernel
theorem dX10_figure_22 : decode cX10_figure 22 = .ok (.istore 6, 2) := by decide +kernel
theorem dX10_figure_24 : decode cX10_figure 24 = .ok (.aload_n 0, 1) := by decide +kernel
theorem dX10_figure_25 : decode cX10_figure 25 = .ok (.dup, 1) := by decide +kernel
theorem dX10_figure_26 : decode cX10_figure 26 = .ok (.getfield 114, 3) := by decide +kernel
theorem dX10_figure_29 : decode cX10_figure 29 = .ok (.iload 6, 2) := by decide +kernel
theorem dX10_figure_31 : decode cX10_figure 31 = .ok (.ifCond .eq 7, 3) := by decide +kernel
theorem dX10_figure_34 : decode cX10_figure 34 = .ok (.iconst 1, 1) := by decide +kernel
theorem dX10_figure_35 : decode cX10_figure 35 = .ok (.goto 4, 3) := by decide +kernel
theorem dX10_figure_38 : decode cX10_figure 38 = .ok (.iconst 0, 1) := by decide +kernel
theorem dX10_figure_39 : decode cX10_figure 39 = .ok (.iadd, 1) := by decide +kernel
theorem dX10_figure_40 : decode cX10_figure 40 = .ok (.putfield 114, 3) := by decide +kernel
theorem dX10_figure_43 : decode cX10_figure 43 = .ok (.iload 6, 2) := by decide +kernel
theorem dX10_figure_45 : decode cX10_figure 45 = .ok (.ifCond .eq 8, 3) := by decide +kernel
theorem dX10_figure_48 : decode cX10_figure 48 = .ok (.iload 5, 2) := by decide +kernel
theorem dX10_figure_50 : decode cX10_figure 50 = .ok (.goto 5, 3) := by decide +kernel
theorem dX10_figure_53 : decode cX10_figure 53 = .ok (.bipush (-9), 2) := by decide +kernel
theorem dX10_figure_55 : decode cX10_figure 55 = .ok (.ireturn, 1) := by decide +kernel
theorem dX10_readsWeight_0 : decode cX10_readsWeight 0 = .ok (.aload_n 0, 1) := by decide +kernel
theorem dX10_readsWeight_1 : decode cX10_readsWeight 1 = .ok (.iload_n 1, 1) := by decide +kernel
theorem dX10_readsWeight_2 : decode cX10_readsWeight 2 = .ok (.iload_n 2, 1) := by decide +kernel
theorem dX10_readsWeight_3 : decode cX10_readsWeight 3 = .ok (.iconst 0, 1) := by decide +kernel
theorem dX10_readsWeight_4 : decode cX10_readsWeight 4 = .ok (.bipush 9, 2) := by decide +kernel
theorem dX10_readsWeight_6 : decode cX10_readsWeight 6 = .ok (.invokevirtual 121, 3) := by decide +kernel
theorem dX10_readsWeight_9 : decode cX10_readsWeight 9 = .ok (.istore_n 3, 1) := by decide +kernel
theorem dX10_readsWeight_10 : decode cX10_readsWeight 10 = .ok (.iload_n 3, 1) := by decide +kernel
theorem dX10_readsWeight_11 : decode cX10_readsWeight 11 = .ok (.ifCond .ge 8, 3) := by decide +kernel
theorem dX10_readsWeight_14 : decode cX10_readsWeight 14 = .ok (.bipush (-9), 2) := by decide +kernel
theorem dX10_readsWeight_16 : decode cX10_readsWeight 16 = .ok (.goto 12, 3) := by decide +kernel
theorem dX10_readsWeight_19 : decode cX10_readsWeight 19 = .ok (.aload_n 0, 1) := by decide +kernel
theorem dX10_readsWeight_20 : decode cX10_readsWeight 20 = .ok (.iload_n 1, 1) := by decide +kernel
theorem dX10_readsWeight_21 : decode cX10_readsWeight 21 = .ok (.iload_n 2, 1) := by decide +kernel
theorem dX10_readsWeight_22 : decode cX10_readsWeight 22 = .ok (.iconst 0, 1) := by decide +kernel
theorem dX10_readsWeight_23 : decode cX10_readsWeight 23 = .ok (.bipush 9, 2) := by decide +kernel
theorem dX10_readsWeight_25 : decode cX10_readsWeight 25 = .ok (.invokevirtual 121, 3) := by decide +kernel
theorem dX10_readsWeight_28 : decode cX10_readsWeight 28 = .ok (.istore 4, 2) := by decide +kernel
theorem dX10_readsWeight_30 : decode cX10_readsWeight 30 = .ok (.iload 4, 2) := by decide +kernel
theorem dX10_readsWeight_32 : decode cX10_readsWeight 32 = .ok (.ifCond .ge 6, 3) := by decide +kernel
theorem dX10_readsWeight_35 : decode cX10_readsWeight 35 = .ok (.bipush (-9), 2) := by decide +kernel
theorem dX10_readsWeight_37 : decode cX10_readsWeight 37 = .ok (.ireturn, 1) := by decide +kernel
theorem dX10_readsWeight_38 : decode cX10_readsWeight 38 = .ok (.iload_n 3, 1) := by decide +kernel
theorem dX10_readsWeight_39 : decode cX10_readsWeight 39 = .ok (.iload 4, 2) := by decide +kernel
theorem dX10_readsWeight_41 : decode cX10_readsWeight 41 = .ok (.iadd, 1) := by decide +kernel
theorem dX10_readsWeight_42 : decode cX10_readsWeight 42 = .ok (.ifCond .le 7, 3) := by decide +kernel
theorem dX10_readsWeight_45 : decode cX10_readsWeight 45 = .ok (.iconst 1, 1) := by decide +kernel
theorem dX10_readsWeight_46 : decode cX10_readsWeight 46 = .ok (.goto 4, 3) := by decide +kernel
theorem dX10_readsWeight_49 : decode cX10_readsWeight 49 = .ok (.iconst 0, 1) := by decide +kernel
theorem dX10_readsWeight_50 : decode cX10_readsWeight 50 = .ok (.istore 5, 2) := by decide +kernel
theorem dX10_readsWeight_52 : decode cX10_readsWeight 52 = .ok (.aload_n 0, 1) := by decide +kernel
theorem dX10_readsWeight_53 : decode cX10_readsWeight 53 = .ok (.dup, 1) := by decide +kernel
theorem dX10_readsWeight_54 : decode cX10_readsWeight 54 = .ok (.getfield 114, 3) := by decide +kernel
theorem dX10_readsWeight_57 : decode cX10_readsWeight 57 = .ok (.iload 5, 2) := by decide +kernel
theorem dX10_readsWeight_59 : decode cX10_readsWeight 59 = .ok (.ifCond .eq 7, 3) := by decide +kernel
theorem dX10_readsWeight_62 : decode cX10_readsWeight 62 = .ok (.iconst 0, 1) := by decide +kernel
theorem dX10_readsWeight_63 : decode cX10_readsWeight 63 = .ok (.goto 4, 3) := by decide +kernel
theorem dX10_readsWeight_66 : decode cX10_readsWeight 66 = .ok (.iconst 2, 1) := by decide +kernel
theorem dX10_readsWeight_67 : decode cX10_readsWeight 67 = .ok (.isub, 1) := by decide +kernel
theorem dX10_readsWeight_68 : decode cX10_readsWeight 68 = .ok (.putfield 114, 3) := by decide +kernel
theorem dX10_readsWeight_71 : decode cX10_readsWeight 71 = .ok (.iload 5, 2) := by decide +kernel
theorem dX10_readsWeight_73 : decode cX10_readsWeight 73 = .ok (.ifCond .eq 13, 3) := by decide +kernel
theorem dX10_readsWeight_76 : decode cX10_readsWeight 76 = .ok (.bipush 10, 2) := by decide +kernel
theorem dX10_readsWeight_78 : decode cX10_readsWeight 78 = .ok (.iload_n 3, 1) := by decide +kernel
theorem dX10_readsWeight_79 : decode cX10_readsWeight 79 = .ok (.imul, 1) := by decide +kernel
theorem dX10_readsWeight_80 : decode cX10_readsWeight 80 = .ok (.iload 4, 2) := by decide +kernel
theorem dX10_readsWeight_82 : decode cX10_readsWeight 82 = .ok (.iadd, 1) := by decide +kernel
theorem dX10_readsWeight_83 : decode cX10_readsWeight 83 = .ok (.goto 5, 3) := by decide +kernel
theorem dX10_readsWeight_86 : decode cX10_readsWeight 86 = .ok (.bipush (-9), 2) := by decide +kernel
theorem dX10_readsWeight_88 : decode cX10_readsWeight 88 = .ok (.ireturn, 1) := by decide +kernel
theorem dX10_readsDoor_0 : decode cX10_readsDoor 0 = .ok (.aload_n 0, 1) := by decide +kernel
theorem dX10_readsDoor_1 : decode cX10_readsDoor 1 = .ok (.getfield 125, 3) := by decide +kernel
theorem dX10_readsDoor_4 : decode cX10_readsDoor 4 = .ok (.bipush 8, 2) := by decide +kernel
theorem dX10_readsDoor_6 : decode cX10_readsDoor 6 = .ok (.if_icmp .eq 14, 3) := by decide +kernel
theorem dX10_readsDoor_9 : decode cX10_readsDoor 9 = .ok (.aload_n 0, 1) := by decide +kernel
theorem dX10_readsDoor_10 : decode cX10_readsDoor 10 = .ok (.iload_n 1, 1) := by decide +kernel
theorem dX10_readsDoor_11 : decode cX10_readsDoor 11 = .ok (.iload_n 2, 1) := by decide +kernel
theorem dX10_readsDoor_12 : decode cX10_readsDoor 12 = .ok (.invokevirtual 117, 3) := by decide +kernel
theorem dX10_readsDoor_15 : decode cX10_readsDoor 15 = .ok (.bipush 59, 2) := by decide +kernel
theorem dX10_readsDoor_17 : decode cX10_readsDoor 17 = .ok (.if_icmp .eq 5, 3) := by decide +kernel
theorem dX10_readsDoor_20 : decode cX10_readsDoor 20 = .ok (.iconst 0, 1) := by decide +kernel
theorem dX10_readsDoor_21 : decode cX10_readsDoor 21 = .ok (.ireturn, 1) := by decide +kernel
theorem dX10_readsDoor_22 : decode cX10_readsDoor 22 = .ok (.aload_n 0, 1) := by decide +kernel
theorem dX10_readsDoor_23 : decode cX10_readsDoor 23 = .ok (.dup, 1) := by decide +kernel
theorem dX10_readsDoor_24 : decode cX10_readsDoor 24 = .ok (.getfield 114, 3) := by decide +kernel
theorem dX10_readsDoor_27 : decode cX10_readsDoor 27 = .ok (.iconst 1, 1) := by decide +kernel
theorem dX10_readsDoor_28 : decode cX10_readsDoor 28 = .ok (.iadd, 1) := by decide +kernel
theorem dX10_readsDoor_29 : decode cX10_readsDoor 29 = .ok (.putfield 114, 3) := by decide +kernel
theorem dX10_readsDoor_32 : decode cX10_readsDoor 32 = .ok (.aload_n 0, 1) := by decide +kernel
theorem dX10_readsDoor_33 : decode cX10_readsDoor 33 = .ok (.iload_n 1, 1) := by decide +kernel
theorem dX10_readsDoor_34 : decode cX10_readsDoor 34 = .ok (.iload_n 2, 1) := by decide +kernel
theorem dX10_readsDoor_35 : decode cX10_readsDoor 35 = .ok (.invokevirtual 117, 3) := by decide +kernel
theorem dX10_readsDoor_38 : decode cX10_readsDoor 38 = .ok (.istore_n 3, 1) := by decide +kernel
theorem dX10_readsDoor_39 : decode cX10_readsDoor 39 = .ok (.iload_n 3, 1) := by decide +kernel
theorem dX10_readsDoor_40 : decode cX10_readsDoor 40 = .ok (.bipush 115, 2) := by decide +kernel
theorem dX10_readsDoor_42 : decode cX10_readsDoor 42 = .ok (.if_icmp .eq 17, 3) := by decide +kernel
theorem dX10_readsDoor_45 : decode cX10_readsDoor 45 = .ok (.iload_n 3, 1) := by decide +kernel
theorem dX10_readsDoor_46 : decode cX10_readsDoor 46 = .ok (.bipush 116, 2) := by decide +kernel
theorem dX10_readsDoor_48 : decode cX10_readsDoor 48 = .ok (.if_icmp .eq 11, 3) := by decide +kernel
theorem dX10_readsDoor_51 : decode cX10_readsDoor 51 = .ok (.iload_n 3, 1) := by decide +kernel
theorem dX10_readsDoor_52 : decode cX10_readsDoor 52 = .ok (.bipush 119, 2) := by decide +kernel
theorem dX10_readsDoor_54 : decode cX10_readsDoor 54 = .ok (.if_icmp .eq 5, 3) := by decide +kernel
theorem dX10_readsDoor_57 : decode cX10_readsDoor 57 = .ok (.iconst 0, 1) := by decide +kernel
theorem dX10_readsDoor_58 : decode cX10_readsDoor 58 = .ok (.ireturn, 1) := by decide +kernel
theorem dX10_readsDoor_59 : decode cX10_readsDoor 59 = .ok (.aload_n 0, 1) := by decide +kernel
theorem dX10_readsDoor_60 : decode cX10_readsDoor 60 = .ok (.dup, 1) := by decide +kernel
theorem dX10_readsDoor_61 : decode cX10_readsDoor 61 = .ok (.getfield 114, 3) := by decide +kernel
theorem dX10_readsDoor_64 : decode cX10_readsDoor 64 = .ok (.iconst 1, 1) := by decide +kernel
theorem dX10_readsDoor_65 : decode cX10_readsDoor 65 = .ok (.iadd, 1) := by decide +kernel
theorem dX10_readsDoor_66 : decode cX10_readsDoor 66 = .ok (.putfield 114, 3) := by decide +kernel
theorem dX10_readsDoor_69 : decode cX10_readsDoor 69 = .ok (.aload_n 0, 1) := by decide +kernel
theorem dX10_readsDoor_70 : decode cX10_readsDoor 70 = .ok (.iload_n 1, 1) := by decide +kernel
theorem dX10_readsDoor_71 : decode cX10_readsDoor 71 = .ok (.iload_n 2, 1) := by decide +kernel
theorem dX10_readsDoor_72 : decode cX10_readsDoor 72 = .ok (.iconst 0, 1) := by decide +kernel
theorem dX10_readsDoor_73 : decode cX10_readsDoor 73 = .ok (.aload_n 0, 1) := by decide +kernel
theorem dX10_readsDoor_74 : decode cX10_readsDoor 74 = .ok (.getfield 128, 3) := by decide +kernel
theorem dX10_readsDoor_77 : decode cX10_readsDoor 77 = .ok (.iconst 1, 1) := by decide +kernel
theorem dX10_readsDoor_78 : decode cX10_readsDoor 78 = .ok (.isub, 1) := by decide +kernel
theorem dX10_readsDoor_79 : decode cX10_readsDoor 79 = .ok (.invokevirtual 121, 3) := by decide +kernel
theorem dX10_readsDoor_82 : decode cX10_readsDoor 82 = .ok (.istore 4, 2) := by decide +kernel
theorem dX10_readsDoor_84 : decode cX10_readsDoor 84 = .ok (.iload 4, 2) := by decide +kernel
theorem dX10_readsDoor_86 : decode cX10_readsDoor 86 = .ok (.ifCond .lt 17, 3) := by decide +kernel
theorem dX10_readsDoor_89 : decode cX10_readsDoor 89 = .ok (.aload_n 0, 1) := by decide +kernel
theorem dX10_readsDoor_90 : decode cX10_readsDoor 90 = .ok (.iload_n 1, 1) := by decide +kernel
theorem dX10_readsDoor_91 : decode cX10_readsDoor 91 = .ok (.iload_n 2, 1) := by decide +kernel
theorem dX10_readsDoor_92 : decode cX10_readsDoor 92 = .ok (.invokevirtual 117, 3) := by decide +kernel
theorem dX10_readsDoor_95 : decode cX10_readsDoor 95 = .ok (.bipush 48, 2) := by decide +kernel
theorem dX10_readsDoor_97 : decode cX10_readsDoor 97 = .ok (.iload 4, 2) := by decide +kernel
theorem dX10_readsDoor_99 : decode cX10_readsDoor 99 = .ok (.iadd, 1) := by decide +kernel
theorem dX10_readsDoor_100 : decode cX10_readsDoor 100 = .ok (.if_icmp .ne 5, 3) := by decide +kernel
theorem dX10_readsDoor_103 : decode cX10_readsDoor 103 = .ok (.iconst 0, 1) := by decide +kernel
theorem dX10_readsDoor_104 : decode cX10_readsDoor 104 = .ok (.ireturn, 1) := by decide +kernel
theorem dX10_readsDoor_105 : decode cX10_readsDoor 105 = .ok (.aload_n 0, 1) := by decide +kernel
theorem dX10_readsDoor_106 : decode cX10_readsDoor 106 = .ok (.iload_n 1, 1) := by decide +kernel
theorem dX10_readsDoor_107 : decode cX10_readsDoor 107 = .ok (.iload_n 2, 1) := by decide +kernel
theorem dX10_readsDoor_108 : decode cX10_readsDoor 108 = .ok (.iconst 0, 1) := by decide +kernel
theorem dX10_readsDoor_109 : decode cX10_readsDoor 109 = .ok (.aload_n 0, 1) := by decide +kernel
theorem dX10_readsDoor_110 : decode cX10_readsDoor 110 = .ok (.getfield 128, 3) := by decide +kernel
theorem dX10_readsDoor_113 : decode cX10_readsDoor 113 = .ok (.iconst 1, 1) := by decide +kernel
theorem dX10_readsDoor_114 : decode cX10_readsDoor 114 = .ok (.isub, 1) := by decide +kernel
theorem dX10_readsDoor_115 : decode cX10_readsDoor 115 = .ok (.invokevirtual 121, 3) := by decide +kernel
theorem dX10_readsDoor_118 : decode cX10_readsDoor 118 = .ok (.istore 5, 2) := by decide +kernel
theorem dX10_readsDoor_120 : decode cX10_readsDoor 120 = .ok (.iload 5, 2) := by decide +kernel
theorem dX10_readsDoor_122 : decode cX10_readsDoor 122 = .ok (.ifCond .ge 8, 3) := by decide +kernel
theorem dX10_readsDoor_125 : decode cX10_readsDoor 125 = .ok (.bipush (-9), 2) := by decide +kernel
theorem dX10_readsDoor_127 : decode cX10_readsDoor 127 = .ok (.goto 9, 3) := by decide +kernel
theorem dX10_readsDoor_130 : decode cX10_readsDoor 130 = .ok (.aload_n 0, 1) := by decide +kernel
theorem dX10_readsDoor_131 : decode cX10_readsDoor 131 = .ok (.iload_n 1, 1) := by decide +kernel
theorem dX10_readsDoor_132 : decode cX10_readsDoor 132 = .ok (.iload_n 2, 1) := by decide +kernel
theorem dX10_readsDoor_133 : decode cX10_readsDoor 133 = .ok (.invokevirtual 131, 3) := by decide +kernel
theorem dX10_readsDoor_136 : decode cX10_readsDoor 136 = .ok (.istore 6, 2) := by decide +kernel
theorem dX10_readsDoor_138 : decode cX10_readsDoor 138 = .ok (.iload 6, 2) := by decide +kernel
theorem dX10_readsDoor_140 : decode cX10_readsDoor 140 = .ok (.ifCond .ge 5, 3) := by decide +kernel
theorem dX10_readsDoor_143 : decode cX10_readsDoor 143 = .ok (.iconst 0, 1) := by decide +kernel
theorem dX10_readsDoor_144 : decode cX10_readsDoor 144 = .ok (.ireturn, 1) := by decide +kernel
theorem dX10_readsDoor_145 : decode cX10_readsDoor 145 = .ok (.aload_n 0, 1) := by decide +kernel
theorem dX10_readsDoor_146 : decode cX10_readsDoor 146 = .ok (.getfield 19, 3) := by decide +kernel
theorem dX10_readsDoor_149 : decode cX10_readsDoor 149 = .ok (.aload_n 0, 1) := by decide +kernel
theorem dX10_readsDoor_150 : decode cX10_readsDoor 150 = .ok (.getfield 125, 3) := by decide +kernel
theorem dX10_readsDoor_153 : decode cX10_readsDoor 153 = .ok (.iload_n 3, 1) := by decide +kernel
theorem dX10_readsDoor_154 : decode cX10_readsDoor 154 = .ok (.bipush 115, 2) := by decide +kernel
theorem dX10_readsDoor_156 : decode cX10_readsDoor 156 = .ok (.if_icmp .ne 7, 3) := by decide +kernel
theorem dX10_readsDoor_159 : decode cX10_readsDoor 159 = .ok (.iconst 0, 1) := by decide +kernel
theorem dX10_readsDoor_160 : decode cX10_readsDoor 160 = .ok (.goto 14, 3) := by decide +kernel
theorem dX10_readsDoor_163 : decode cX10_readsDoor 163 = .ok (.iload_n 3, 1) := by decide +kernel
theorem dX10_readsDoor_164 : decode cX10_readsDoor 164 = .ok (.bipush 116, 2) := by decide +kernel
theorem dX10_readsDoor_166 : decode cX10_readsDoor 166 = .ok (.if_icmp .ne 7, 3) := by decide +kernel
theorem dX10_readsDoor_169 : decode cX10_readsDoor 169 = .ok (.iconst 1, 1) := by decide +kernel
theorem dX10_readsDoor_170 : decode cX10_readsDoor 170 = .ok (.goto 4, 3) := by decide +kernel
theorem dX10_readsDoor_173 : decode cX10_readsDoor 173 = .ok (.iconst 2, 1) := by decide +kernel
theorem dX10_readsDoor_174 : decode cX10_readsDoor 174 = .ok (.iastore, 1) := by decide +kernel
theorem dX10_readsDoor_175 : decode cX10_readsDoor 175 = .ok (.aload_n 0, 1) := by decide +kernel
theorem dX10_readsDoor_176 : decode cX10_readsDoor 176 = .ok (.getfield 22, 3) := by decide +kernel
theorem dX10_readsDoor_179 : decode cX10_readsDoor 179 = .ok (.iconst 2, 1) := by decide +kernel
theorem dX10_readsDoor_180 : decode cX10_readsDoor 180 = .ok (.aload_n 0, 1) := by decide +kernel
theorem dX10_readsDoor_181 : decode cX10_readsDoor 181 = .ok (.getfield 125, 3) := by decide +kernel
theorem dX10_readsDoor_184 : decode cX10_readsDoor 184 = .ok (.imul, 1) := by decide +kernel
theorem dX10_readsDoor_185 : decode cX10_readsDoor 185 = .ok (.iload 4, 2) := by decide +kernel
theorem dX10_readsDoor_187 : decode cX10_readsDoor 187 = .ok (.iastore, 1) := by decide +kernel
theorem dX10_readsDoor_188 : decode cX10_readsDoor 188 = .ok (.aload_n 0, 1) := by decide +kernel
theorem dX10_readsDoor_189 : decode cX10_readsDoor 189 = .ok (.getfield 22, 3) := by decide +kernel
theorem dX10_readsDoor_192 : decode cX10_readsDoor 192 = .ok (.iconst 2, 1) := by decide +kernel
theorem dX10_readsDoor_193 : decode cX10_readsDoor 193 = .ok (.aload_n 0, 1) := by decide +kernel
theorem dX10_readsDoor_194 : decode cX10_readsDoor 194 = .ok (.getfield 125, 3) := by decide +kernel
theorem dX10_readsDoor_197 : decode cX10_readsDoor 197 = .ok (.imul, 1) := by decide +kernel
theorem dX10_readsDoor_198 : decode cX10_readsDoor 198 = .ok (.iconst 1, 1) := by decide +kernel
theorem dX10_readsDoor_199 : decode cX10_readsDoor 199 = .ok (.iadd, 1) := by decide +kernel
theorem dX10_readsDoor_200 : decode cX10_readsDoor 200 = .ok (.iload 5, 2) := by decide +kernel
theorem dX10_readsDoor_202 : decode cX10_readsDoor 202 = .ok (.iastore, 1) := by decide +kernel
theorem dX10_readsDoor_203 : decode cX10_readsDoor 203 = .ok (.aload_n 0, 1) := by decide +kernel
theorem dX10_readsDoor_204 : decode cX10_readsDoor 204 = .ok (.getfield 25, 3) := by decide +kernel
theorem dX10_readsDoor_207 : decode cX10_readsDoor 207 = .ok (.aload_n 0, 1) := by decide +kernel
theorem dX10_readsDoor_208 : decode cX10_readsDoor 208 = .ok (.getfield 125, 3) := by decide +kernel
theorem dX10_readsDoor_211 : decode cX10_readsDoor 211 = .ok (.iload 6, 2) := by decide +kernel
theorem dX10_readsDoor_213 : decode cX10_readsDoor 213 = .ok (.iastore, 1) := by decide +kernel
theorem dX10_readsDoor_214 : decode cX10_readsDoor 214 = .ok (.aload_n 0, 1) := by decide +kernel
theorem dX10_readsDoor_215 : decode cX10_readsDoor 215 = .ok (.dup, 1) := by decide +kernel
theorem dX10_readsDoor_216 : decode cX10_readsDoor 216 = .ok (.getfield 125, 3) := by decide +kernel
theorem dX10_readsDoor_219 : decode cX10_readsDoor 219 = .ok (.iconst 1, 1) := by decide +kernel
theorem dX10_readsDoor_220 : decode cX10_readsDoor 220 = .ok (.iadd, 1) := by decide +kernel
theorem dX10_readsDoor_221 : decode cX10_readsDoor 221 = .ok (.putfield 125, 3) := by decide +kernel
theorem dX10_readsDoor_224 : decode cX10_readsDoor 224 = .ok (.iconst 1, 1) := by decide +kernel
theorem dX10_readsDoor_225 : decode cX10_readsDoor 225 = .ok (.ireturn, 1) := by decide +kernel
theorem dX10_readsHouse_0 : decode cX10_readsHouse 0 = .ok (.aload_n 0, 1) := by decide +kernel
theorem dX10_readsHouse_1 : decode cX10_readsHouse 1 = .ok (.iconst 0, 1) := by decide +kernel
theorem dX10_readsHouse_2 : decode cX10_readsHouse 2 = .ok (.putfield 114, 3) := by decide +kernel
theorem dX10_readsHouse_5 : decode cX10_readsHouse 5 = .ok (.aload_n 0, 1) := by decide +kernel
theorem dX10_readsHouse_6 : decode cX10_readsHouse 6 = .ok (.iconst 0, 1) := by decide +kernel
theorem dX10_readsHouse_7 : decode cX10_readsHouse 7 = .ok (.putfield 125, 3) := by decide +kernel
theorem dX10_readsHouse_10 : decode cX10_readsHouse 10 = .ok (.aload_n 0, 1) := by decide +kernel
theorem dX10_readsHouse_11 : decode cX10_readsHouse 11 = .ok (.iload_n 1, 1) := by decide +kernel
theorem dX10_readsHouse_12 : decode cX10_readsHouse 12 = .ok (.iload_n 2, 1) := by decide +kernel
theorem dX10_readsHouse_13 : decode cX10_readsHouse 13 = .ok (.invokevirtual 117, 3) := by decide +kernel
theorem dX10_readsHouse_16 : decode cX10_readsHouse 16 = .ok (.bipush 104, 2) := by decide +kernel
theorem dX10_readsHouse_18 : decode cX10_readsHouse 18 = .ok (.if_icmp .ne 7, 3) := by decide +kernel
theorem dX10_readsHouse_21 : decode cX10_readsHouse 21 = .ok (.iconst 1, 1) := by decide +kernel
theorem dX10_readsHouse_22 : decode cX10_readsHouse 22 = .ok (.goto 4, 3) := by decide +kernel
theorem dX10_readsHouse_25 : decode cX10_readsHouse 25 = .ok (.iconst 0, 1) := by decide +kernel
theorem dX10_readsHouse_26 : decode cX10_readsHouse 26 = .ok (.istore_n 3, 1) := by decide +kernel
theorem dX10_readsHouse_27 : decode cX10_readsHouse 27 = .ok (.aload_n 0, 1) := by decide +kernel
theorem dX10_readsHouse_28 : decode cX10_readsHouse 28 = .ok (.dup, 1) := by decide +kernel
theorem dX10_readsHouse_29 : decode cX10_readsHouse 29 = .ok (.getfield 114, 3) := by decide +kernel
theorem dX10_readsHouse_32 : decode cX10_readsHouse 32 = .ok (.iload_n 3, 1) := by decide +kernel
theorem dX10_readsHouse_33 : decode cX10_readsHouse 33 = .ok (.ifCond .eq 7, 3) := by decide +kernel
theorem dX10_readsHouse_36 : decode cX10_readsHouse 36 = .ok (.iconst 1, 1) := by decide +kernel
theorem dX10_readsHouse_37 : decode cX10_readsHouse 37 = .ok (.goto 4, 3) := by decide +kernel
theorem dX10_readsHouse_40 : decode cX10_readsHouse 40 = .ok (.iconst 0, 1) := by decide +kernel
theorem dX10_readsHouse_41 : decode cX10_readsHouse 41 = .ok (.iadd, 1) := by decide +kernel
theorem dX10_readsHouse_42 : decode cX10_readsHouse 42 = .ok (.putfield 114, 3) := by decide +kernel
theorem dX10_readsHouse_45 : decode cX10_readsHouse 45 = .ok (.aload_n 0, 1) := by decide +kernel
theorem dX10_readsHouse_46 : decode cX10_readsHouse 46 = .ok (.iload_n 3, 1) := by decide +kernel
theorem dX10_readsHouse_47 : decode cX10_readsHouse 47 = .ok (.ifCond .eq 15, 3) := by decide +kernel
theorem dX10_readsHouse_50 : decode cX10_readsHouse 50 = .ok (.aload_n 0, 1) := by decide +kernel
theorem dX10_readsHouse_51 : decode cX10_readsHouse 51 = .ok (.iload_n 1, 1) := by decide +kernel
theorem dX10_readsHouse_52 : decode cX10_readsHouse 52 = .ok (.iload_n 2, 1) := by decide +kernel
theorem dX10_readsHouse_53 : decode cX10_readsHouse 53 = .ok (.iconst 2, 1) := by decide +kernel
theorem dX10_readsHouse_54 : decode cX10_readsHouse 54 = .ok (.bipush 6, 2) := by decide +kernel
theorem dX10_readsHouse_56 : decode cX10_readsHouse 56 = .ok (.invokevirtual 121, 3) := by decide +kernel
theorem dX10_readsHouse_59 : decode cX10_readsHouse 59 = .ok (.goto 5, 3) := by decide +kernel
theorem dX10_readsHouse_62 : decode cX10_readsHouse 62 = .ok (.bipush (-9), 2) := by decide +kernel
theorem dX10_readsHouse_64 : decode cX10_readsHouse 64 = .ok (.putfield 128, 3) := by decide +kernel
theorem dX10_readsHouse_67 : decode cX10_readsHouse 67 = .ok (.aload_n 0, 1) := by decide +kernel
theorem dX10_readsHouse_68 : decode cX10_readsHouse 68 = .ok (.getfield 128, 3) := by decide +kernel
theorem dX10_readsHouse_71 : decode cX10_readsHouse 71 = .ok (.ifCond .le 7, 3) := by decide +kernel
theorem dX10_readsHouse_74 : decode cX10_readsHouse 74 = .ok (.iconst 1, 1) := by decide +kernel
theorem dX10_readsHouse_75 : decode cX10_readsHouse 75 = .ok (.goto 4, 3) := by decide +kernel
theorem dX10_readsHouse_78 : decode cX10_readsHouse 78 = .ok (.iconst 0, 1) := by decide +kernel
theorem dX10_readsHouse_79 : decode cX10_readsHouse 79 = .ok (.istore_n 3, 1) := by decide +kernel
theorem dX10_readsHouse_80 : decode cX10_readsHouse 80 = .ok (.iload_n 3, 1) := by decide +kernel
theorem dX10_readsHouse_81 : decode cX10_readsHouse 81 = .ok (.ifCond .eq 29, 3) := by decide +kernel
theorem dX10_readsHouse_84 : decode cX10_readsHouse 84 = .ok (.aload_n 0, 1) := by decide +kernel
theorem dX10_readsHouse_85 : decode cX10_readsHouse 85 = .ok (.getfield 125, 3) := by decide +kernel
theorem dX10_readsHouse_88 : decode cX10_readsHouse 88 = .ok (.iconst 1, 1) := by decide +kernel
theorem dX10_readsHouse_89 : decode cX10_readsHouse 89 = .ok (.if_icmp .lt 11, 3) := by decide +kernel
theorem dX10_readsHouse_92 : decode cX10_readsHouse 92 = .ok (.aload_n 0, 1) := by decide +kernel
theorem dX10_readsHouse_93 : decode cX10_readsHouse 93 = .ok (.getfield 114, 3) := by decide +kernel
theorem dX10_readsHouse_96 : decode cX10_readsHouse 96 = .ok (.iload_n 2, 1) := by decide +kernel
theorem dX10_readsHouse_97 : decode cX10_readsHouse 97 = .ok (.if_icmp .ge 13, 3) := by decide +kernel
theorem dX10_readsHouse_100 : decode cX10_readsHouse 100 = .ok (.aload_n 0, 1) := by decide +kernel
theorem dX10_readsHouse_101 : decode cX10_readsHouse 101 = .ok (.iload_n 1, 1) := by decide +kernel
theorem dX10_readsHouse_102 : decode cX10_readsHouse 102 = .ok (.iload_n 2, 1) := by decide +kernel
theorem dX10_readsHouse_103 : decode cX10_readsHouse 103 = .ok (.invokevirtual 134, 3) := by decide +kernel
theorem dX10_readsHouse_106 : decode cX10_readsHouse 106 = .ok (.istore_n 3, 1) := by decide +kernel
theorem dX10_readsHouse_107 : decode cX10_readsHouse 107 = .ok (.goto (-27), 3) := by decide +kernel
theorem dX10_readsHouse_110 : decode cX10_readsHouse 110 = .ok (.iload_n 3, 1) := by decide +kernel
theorem dX10_readsHouse_111 : decode cX10_readsHouse 111 = .ok (.ireturn, 1) := by decide +kernel
theorem dX10_house_0 : decode cX10_house 0 = .ok (.aload_n 0, 1) := by decide +kernel
theorem dX10_house_1 : decode cX10_house 1 = .ok (.iload_n 1, 1) := by decide +kernel
theorem dX10_house_2 : decode cX10_house 2 = .ok (.iload_n 2, 1) := by decide +kernel
theorem dX10_house_3 : decode cX10_house 3 = .ok (.iload_n 3, 1) := by decide +kernel
theorem dX10_house_4 : decode cX10_house 4 = .ok (.iload 4, 2) := by decide +kernel
theorem dX10_house_6 : decode cX10_house 6 = .ok (.i2l, 1) := by decide +kernel
theorem dX10_house_7 : decode cX10_house 7 = .ok (.invokevirtual 138, 3) := by decide +kernel
theorem dX10_house_10 : decode cX10_house 10 = .ok (.istore 5, 2) := by decide +kernel
theorem dX10_house_12 : decode cX10_house 12 = .ok (.iload 5, 2) := by decide +kernel
theorem dX10_house_14 : decode cX10_house 14 = .ok (.ifCond .ge 6, 3) := by decide +kernel
theorem dX10_house_17 : decode cX10_house 17 = .ok (.iload 5, 2) := by decide +kernel
theorem dX10_house_19 : decode cX10_house 19 = .ok (.ireturn, 1) := by decide +kernel
theorem dX10_house_20 : decode cX10_house 20 = .ok (.aload_n 0, 1) := by decide +kernel
theorem dX10_house_21 : decode cX10_house 21 = .ok (.bipush 60, 2) := by decide +kernel
theorem dX10_house_23 : decode cX10_house 23 = .ok (.iload_n 1, 1) := by decide +kernel
theorem dX10_house_24 : decode cX10_house 24 = .ok (.imul, 1) := by decide +kernel
theorem dX10_house_25 : decode cX10_house 25 = .ok (.iload_n 3, 1) := by decide +kernel
theorem dX10_house_26 : decode cX10_house 26 = .ok (.iadd, 1) := by decide +kernel
theorem dX10_house_27 : decode cX10_house 27 = .ok (.iload 4, 2) := by decide +kernel
theorem dX10_house_29 : decode cX10_house 29 = .ok (.invokevirtual 142, 3) := by decide +kernel
theorem dX10_house_32 : decode cX10_house 32 = .ok (.ifCond .ne 15, 3) := by decide +kernel
theorem dX10_house_35 : decode cX10_house 35 = .ok (.aload_n 0, 1) := by decide +kernel
theorem dX10_house_36 : decode cX10_house 36 = .ok (.bipush (-100), 2) := by decide +kernel
theorem dX10_house_38 : decode cX10_house 38 = .ok (.aload_n 0, 1) := by decide +kernel
theorem dX10_house_39 : decode cX10_house 39 = .ok (.getfield 114, 3) := by decide +kernel
theorem dX10_house_42 : decode cX10_house 42 = .ok (.isub, 1) := by decide +kernel
theorem dX10_house_43 : decode cX10_house 43 = .ok (.invokevirtual 91, 3) := by decide +kernel
theorem dX10_house_46 : decode cX10_house 46 = .ok (.ireturn, 1) := by decide +kernel
theorem dX10_house_47 : decode cX10_house 47 = .ok (.aload_n 0, 1) := by decide +kernel
theorem dX10_house_48 : decode cX10_house 48 = .ok (.aload_n 0, 1) := by decide +kernel
theorem dX10_house_49 : decode cX10_house 49 = .ok (.getfield 128, 3) := by decide +kernel
theorem dX10_house_52 : decode cX10_house 52 = .ok (.putfield 108, 3) := by decide +kernel
theorem dX10_house_55 : decode cX10_house 55 = .ok (.aload_n 0, 1) := by decide +kernel
theorem dX10_house_56 : decode cX10_house 56 = .ok (.aload_n 0, 1) := by decide +kernel
theorem dX10_house_57 : decode cX10_house 57 = .ok (.getfield 125, 3) := by decide +kernel
theorem dX10_house_60 : decode cX10_house 60 = .ok (.putfield 111, 3) := by decide +kernel
theorem dX10_house_63 : decode cX10_house 63 = .ok (.iconst 0, 1) := by decide +kernel
theorem dX10_house_64 : decode cX10_house 64 = .ok (.istore 6, 2) := by decide +kernel
theorem dX10_house_66 : decode cX10_house 66 = .ok (.iload 6, 2) := by decide +kernel
theorem dX10_house_68 : decode cX10_house 68 = .ok (.aload_n 0, 1) := by decide +kernel
theorem dX10_house_69 : decode cX10_house 69 = .ok (.getfield 111, 3) := by decide +kernel
theorem dX10_house_72 : decode cX10_house 72 = .ok (.if_icmp .ge 77, 3) := by decide +kernel
theorem dX10_house_75 : decode cX10_house 75 = .ok (.aload_n 0, 1) := by decide +kernel
theorem dX10_house_76 : decode cX10_house 76 = .ok (.getfield 7, 3) := by decide +kernel
theorem dX10_house_79 : decode cX10_house 79 = .ok (.iload 6, 2) := by decide +kernel
theorem dX10_house_81 : decode cX10_house 81 = .ok (.aload_n 0, 1) := by decide +kernel
theorem dX10_house_82 : decode cX10_house 82 = .ok (.getfield 19, 3) := by decide +kernel
theorem dX10_house_85 : decode cX10_house 85 = .ok (.iload 6, 2) := by decide +kernel
theorem dX10_house_87 : decode cX10_house 87 = .ok (.iaload, 1) := by decide +kernel
theorem dX10_house_88 : decode cX10_house 88 = .ok (.iastore, 1) := by decide +kernel
theorem dX10_house_89 : decode cX10_house 89 = .ok (.aload_n 0, 1) := by decide +kernel
theorem dX10_house_90 : decode cX10_house 90 = .ok (.getfield 13, 3) := by decide +kernel
theorem dX10_house_93 : decode cX10_house 93 = .ok (.iconst 2, 1) := by decide +kernel
theorem dX10_house_94 : decode cX10_house 94 = .ok (.iload 6, 2) := by decide +kernel
theorem dX10_house_96 : decode cX10_house 96 = .ok (.imul, 1) := by decide +kernel
theorem dX10_house_97 : decode cX10_house 97 = .ok (.aload_n 0, 1) := by decide +kernel
theorem dX10_house_98 : decode cX10_house 98 = .ok (.getfield 22, 3) := by decide +kernel
theorem dX10_house_101 : decode cX10_house 101 = .ok (.iconst 2, 1) := by decide +kernel
theorem dX10_house_102 : decode cX10_house 102 = .ok (.iload 6, 2) := by decide +kernel
theorem dX10_house_104 : decode cX10_house 104 = .ok (.imul, 1) := by decide +kernel
theorem dX10_house_105 : decode cX10_house 105 = .ok (.iaload, 1) := by decide +kernel
theorem dX10_house_106 : decode cX10_house 106 = .ok (.iastore, 1) := by decide +kernel
theorem dX10_house_107 : decode cX10_house 107 = .ok (.aload_n 0, 1) := by decide +kernel
theorem dX10_house_108 : decode cX10_house 108 = .ok (.getfield 13, 3) := by decide +kernel
theorem dX10_house_111 : decode cX10_house 111 = .ok (.iconst 2, 1) := by decide +kernel
theorem dX10_house_112 : decode cX10_house 112 = .ok (.iload 6, 2) := by decide +kernel
theorem dX10_house_114 : decode cX10_house 114 = .ok (.imul, 1) := by decide +kernel
theorem dX10_house_115 : decode cX10_house 115 = .ok (.iconst 1, 1) := by decide +kernel
theorem dX10_house_116 : decode cX10_house 116 = .ok (.iadd, 1) := by decide +kernel
theorem dX10_house_117 : decode cX10_house 117 = .ok (.aload_n 0, 1) := by decide +kernel
theorem dX10_house_118 : decode cX10_house 118 = .ok (.getfield 22, 3) := by decide +kernel
theorem dX10_house_121 : decode cX10_house 121 = .ok (.iconst 2, 1) := by decide +kernel
theorem dX10_house_122 : decode cX10_house 122 = .ok (.iload 6, 2) := by decide +kernel
theorem dX10_house_124 : decode cX10_house 124 = .ok (.imul, 1) := by decide +kernel
theorem dX10_house_125 : decode cX10_house 125 = .ok (.iconst 1, 1) := by decide +kernel
theorem dX10_house_126 : decode cX10_house 126 = .ok (.iadd, 1) := by decide +kernel
theorem dX10_house_127 : decode cX10_house 127 = .ok (.iaload, 1) := by decide +kernel
theorem dX10_house_128 : decode cX10_house 128 = .ok (.iastore, 1) := by decide +kernel
theorem dX10_house_129 : decode cX10_house 129 = .ok (.aload_n 0, 1) := by decide +kernel
theorem dX10_house_130 : decode cX10_house 130 = .ok (.getfield 16, 3) := by decide +kernel
theorem dX10_house_133 : decode cX10_house 133 = .ok (.iload 6, 2) := by decide +kernel
theorem dX10_house_135 : decode cX10_house 135 = .ok (.aload_n 0, 1) := by decide +kernel
theorem dX10_house_136 : decode cX10_house 136 = .ok (.getfield 25, 3) := by decide +kernel
theorem dX10_house_139 : decode cX10_house 139 = .ok (.iload 6, 2) := by decide +kernel
theorem dX10_house_141 : decode cX10_house 141 = .ok (.iaload, 1) := by decide +kernel
theorem dX10_house_142 : decode cX10_house 142 = .ok (.iastore, 1) := by decide +kernel
theorem dX10_house_143 : decode cX10_house 143 = .ok (.iinc 6 1, 3) := by decide +kernel
theorem dX10_house_146 : decode cX10_house 146 = .ok (.goto (-80), 3) := by decide +kernel
theorem dX10_house_149 : decode cX10_house 149 = .ok (.aload_n 0, 1) := by decide +kernel
theorem dX10_house_150 : decode cX10_house 150 = .ok (.iconst 0, 1) := by decide +kernel
theorem dX10_house_151 : decode cX10_house 151 = .ok (.putfield 145, 3) := by decide +kernel
theorem dX10_house_154 : decode cX10_house 154 = .ok (.aload_n 0, 1) := by decide +kernel
theorem dX10_house_155 : decode cX10_house 155 = .ok (.iconst 0, 1) := by decide +kernel
theorem dX10_house_156 : decode cX10_house 156 = .ok (.putfield 148, 3) := by decide +kernel
theorem dX10_house_159 : decode cX10_house 159 = .ok (.aload_n 0, 1) := by decide +kernel
theorem dX10_house_160 : decode cX10_house 160 = .ok (.aload_n 0, 1) := by decide +kernel
theorem dX10_house_161 : decode cX10_house 161 = .ok (.getfield 111, 3) := by decide +kernel
theorem dX10_house_164 : decode cX10_house 164 = .ok (.invokevirtual 91, 3) := by decide +kernel
theorem dX10_house_167 : decode cX10_house 167 = .ok (.ireturn, 1) := by decide +kernel
theorem dX10_slackOf_0 : decode cX10_slackOf 0 = .ok (.aload_n 0, 1) := by decide +kernel
theorem dX10_slackOf_1 : decode cX10_slackOf 1 = .ok (.getfield 7, 3) := by decide +kernel
theorem dX10_slackOf_4 : decode cX10_slackOf 4 = .ok (.iload_n 1, 1) := by decide +kernel
theorem dX10_slackOf_5 : decode cX10_slackOf 5 = .ok (.iaload, 1) := by decide +kernel
theorem dX10_slackOf_6 : decode cX10_slackOf 6 = .ok (.iconst 2, 1) := by decide +kernel
theorem dX10_slackOf_7 : decode cX10_slackOf 7 = .ok (.if_icmp .ne 7, 3) := by decide +kernel
theorem dX10_slackOf_10 : decode cX10_slackOf 10 = .ok (.iconst 5, 1) := by decide +kernel
theorem dX10_slackOf_11 : decode cX10_slackOf 11 = .ok (.goto 4, 3) := by decide +kernel
theorem dX10_slackOf_14 : decode cX10_slackOf 14 = .ok (.iconst 2, 1) := by decide +kernel
theorem dX10_slackOf_15 : decode cX10_slackOf 15 = .ok (.ireturn, 1) := by decide +kernel
theorem dX10_asks_0 : decode cX10_asks 0 = .ok (.iload_n 2, 1) := by decide +kernel
theorem dX10_asks_1 : decode cX10_asks 1 = .ok (.iconst 1, 1) := by decide +kernel
theorem dX10_asks_2 : decode cX10_asks 2 = .ok (.if_icmp .ne 24, 3) := by decide +kernel
theorem dX10_asks_5 : decode cX10_asks 5 = .ok (.aload_n 0, 1) := by decide +kernel
theorem dX10_asks_6 : decode cX10_asks 6 = .ok (.getfield 7, 3) := by decide +kernel
theorem dX10_asks_9 : decode cX10_asks 9 = .ok (.iload_n 1, 1) := by decide +kernel
theorem dX10_asks_10 : decode cX10_asks 10 = .ok (.iaload, 1) := by decide +kernel
theorem dX10_asks_11 : decode cX10_asks 11 = .ok (.ifCond .le 15, 3) := by decide +kernel
theorem dX10_asks_14 : decode cX10_asks 14 = .ok (.aload_n 0, 1) := by decide +kernel
theorem dX10_asks_15 : decode cX10_asks 15 = .ok (.getfield 16, 3) := by decide +kernel
theorem dX10_asks_18 : decode cX10_asks 18 = .ok (.iload_n 1, 1) := by decide +kernel
theorem dX10_asks_19 : decode cX10_asks 19 = .ok (.iaload, 1) := by decide +kernel
theorem dX10_asks_20 : decode cX10_asks 20 = .ok (.bipush 10, 2) := by decide +kernel
theorem dX10_asks_22 : decode cX10_asks 22 = .ok (.iadd, 1) := by decide +kernel
theorem dX10_asks_23 : decode cX10_asks 23 = .ok (.goto 9, 3) := by decide +kernel
theorem dX10_asks_26 : decode cX10_asks 26 = .ok (.aload_n 0, 1) := by decide +kernel
theorem dX10_asks_27 : decode cX10_asks 27 = .ok (.getfield 16, 3) := by decide +kernel
theorem dX10_asks_30 : decode cX10_asks 30 = .ok (.iload_n 1, 1) := by decide +kernel
theorem dX10_asks_31 : decode cX10_asks 31 = .ok (.iaload, 1) := by decide +kernel
theorem dX10_asks_32 : decode cX10_asks 32 = .ok (.ireturn, 1) := by decide +kernel
theorem dX10_isOpen_0 : decode cX10_isOpen 0 = .ok (.iload_n 3, 1) := by decide +kernel
theorem dX10_isOpen_1 : decode cX10_isOpen 1 = .ok (.i2l, 1) := by decide +kernel
theorem dX10_isOpen_2 : decode cX10_isOpen 2 = .ok (.aload_n 0, 1) := by decide +kernel
theorem dX10_isOpen_3 : decode cX10_isOpen 3 = .ok (.iload_n 1, 1) := by decide +kernel
theorem dX10_isOpen_4 : decode cX10_isOpen 4 = .ok (.iload_n 2, 1) := by decide +kernel
theorem dX10_isOpen_5 : decode cX10_isOpen 5 = .ok (.invokevirtual 151, 3) := by decide +kernel
theorem dX10_isOpen_8 : decode cX10_isOpen 8 = .ok (.aload_n 0, 1) := by decide +kernel
theorem dX10_isOpen_9 : decode cX10_isOpen 9 = .ok (.iload_n 1, 1) := by decide +kernel
theorem dX10_isOpen_10 : decode cX10_isOpen 10 = .ok (.invokevirtual 154, 3) := by decide +kernel
theorem dX10_isOpen_13 : decode cX10_isOpen 13 = .ok (.isub, 1) := by decide +kernel
theorem dX10_isOpen_14 : decode cX10_isOpen 14 = .ok (.i2l, 1) := by decide +kernel
theorem dX10_isOpen_15 : decode cX10_isOpen 15 = .ok (.aload_n 0, 1) := by decide +kernel
theorem dX10_isOpen_16 : decode cX10_isOpen 16 = .ok (.iload_n 1, 1) := by decide +kernel
theorem dX10_isOpen_17 : decode cX10_isOpen 17 = .ok (.iload_n 2, 1) := by decide +kernel
theorem dX10_isOpen_18 : decode cX10_isOpen 18 = .ok (.invokevirtual 151, 3) := by decide +kernel
theorem dX10_isOpen_21 : decode cX10_isOpen 21 = .ok (.aload_n 0, 1) := by decide +kernel
theorem dX10_isOpen_22 : decode cX10_isOpen 22 = .ok (.iload_n 1, 1) := by decide +kernel
theorem dX10_isOpen_23 : decode cX10_isOpen 23 = .ok (.invokevirtual 154, 3) := by decide +kernel
theorem dX10_isOpen_26 : decode cX10_isOpen 26 = .ok (.iadd, 1) := by decide +kernel
theorem dX10_isOpen_27 : decode cX10_isOpen 27 = .ok (.i2l, 1) := by decide +kernel
theorem dX10_isOpen_28 : decode cX10_isOpen 28 = .ok (.invokestatic 97, 3) := by decide +kernel
theorem dX10_isOpen_31 : decode cX10_isOpen 31 = .ok (.ireturn, 1) := by decide +kernel
theorem dX10_sideIn_0 : decode cX10_sideIn 0 = .ok (.aload_n 0, 1) := by decide +kernel
theorem dX10_sideIn_1 : decode cX10_sideIn 1 = .ok (.getfield 13, 3) := by decide +kernel
theorem dX10_sideIn_4 : decode cX10_sideIn 4 = .ok (.iconst 2, 1) := by decide +kernel
theorem dX10_sideIn_5 : decode cX10_sideIn 5 = .ok (.iload_n 1, 1) := by decide +kernel
theorem dX10_sideIn_6 : decode cX10_sideIn 6 = .ok (.imul, 1) := by decide +kernel
theorem dX10_sideIn_7 : decode cX10_sideIn 7 = .ok (.iaload, 1) := by decide +kernel
theorem dX10_sideIn_8 : decode cX10_sideIn 8 = .ok (.iload_n 2, 1) := by decide +kernel
theorem dX10_sideIn_9 : decode cX10_sideIn 9 = .ok (.if_icmp .ne 7, 3) := by decide +kernel
theorem dX10_sideIn_12 : decode cX10_sideIn 12 = .ok (.iconst 0, 1) := by decide +kernel
theorem dX10_sideIn_13 : decode cX10_sideIn 13 = .ok (.goto 23, 3) := by decide +kernel
theorem dX10_sideIn_16 : decode cX10_sideIn 16 = .ok (.aload_n 0, 1) := by decide +kernel
theorem dX10_sideIn_17 : decode cX10_sideIn 17 = .ok (.getfield 13, 3) := by decide +kernel
theorem dX10_sideIn_20 : decode cX10_sideIn 20 = .ok (.iconst 2, 1) := by decide +kernel
theorem dX10_sideIn_21 : decode cX10_sideIn 21 = .ok (.iload_n 1, 1) := by decide +kernel
theorem dX10_sideIn_22 : decode cX10_sideIn 22 = .ok (.imul, 1) := by decide +kernel
theorem dX10_sideIn_23 : decode cX10_sideIn 23 = .ok (.iconst 1, 1) := by decide +kernel
theorem dX10_sideIn_24 : decode cX10_sideIn 24 = .ok (.iadd, 1) := by decide +kernel
theorem dX10_sideIn_25 : decode cX10_sideIn 25 = .ok (.iaload, 1) := by decide +kernel
theorem dX10_sideIn_26 : decode cX10_sideIn 26 = .ok (.iload_n 2, 1) := by decide +kernel
theorem dX10_sideIn_27 : decode cX10_sideIn 27 = .ok (.if_icmp .ne 7, 3) := by decide +kernel
theorem dX10_sideIn_30 : decode cX10_sideIn 30 = .ok (.iconst 1, 1) := by decide +kernel
theorem dX10_sideIn_31 : decode cX10_sideIn 31 = .ok (.goto 5, 3) := by decide +kernel
theorem dX10_sideIn_34 : decode cX10_sideIn 34 = .ok (.bipush (-9), 2) := by decide +kernel
theorem dX10_sideIn_36 : decode cX10_sideIn 36 = .ok (.ireturn, 1) := by decide +kernel
theorem dX10_throughTo_0 : decode cX10_throughTo 0 = .ok (.aload_n 0, 1) := by decide +kernel
theorem dX10_throughTo_1 : decode cX10_throughTo 1 = .ok (.iload_n 1, 1) := by decide +kernel
theorem dX10_throughTo_2 : decode cX10_throughTo 2 = .ok (.iload_n 2, 1) := by decide +kernel
theorem dX10_throughTo_3 : decode cX10_throughTo 3 = .ok (.invokevirtual 157, 3) := by decide +kernel
theorem dX10_throughTo_6 : decode cX10_throughTo 6 = .ok (.istore 4, 2) := by decide +kernel
theorem dX10_throughTo_8 : decode cX10_throughTo 8 = .ok (.iload 4, 2) := by decide +kernel
theorem dX10_throughTo_10 : decode cX10_throughTo 10 = .ok (.ifCond .lt 30, 3) := by decide +kernel
theorem dX10_throughTo_13 : decode cX10_throughTo 13 = .ok (.aload_n 0, 1) := by decide +kernel
theorem dX10_throughTo_14 : decode cX10_throughTo 14 = .ok (.iload_n 1, 1) := by decide +kernel
theorem dX10_throughTo_15 : decode cX10_throughTo 15 = .ok (.iload 4, 2) := by decide +kernel
theorem dX10_throughTo_17 : decode cX10_throughTo 17 = .ok (.iload_n 3, 1) := by decide +kernel
theorem dX10_throughTo_18 : decode cX10_throughTo 18 = .ok (.invokevirtual 160, 3) := by decide +kernel
theorem dX10_throughTo_21 : decode cX10_throughTo 21 = .ok (.ifCond .eq 19, 3) := by decide +kernel
theorem dX10_throughTo_24 : decode cX10_throughTo 24 = .ok (.aload_n 0, 1) := by decide +kernel
theorem dX10_throughTo_25 : decode cX10_throughTo 25 = .ok (.getfield 13, 3) := by decide +kernel
theorem dX10_throughTo_28 : decode cX10_throughTo 28 = .ok (.iconst 2, 1) := by decide +kernel
theorem dX10_throughTo_29 : decode cX10_throughTo 29 = .ok (.iload_n 1, 1) := by decide +kernel
theorem dX10_throughTo_30 : decode cX10_throughTo 30 = .ok (.imul, 1) := by decide +kernel
theorem dX10_throughTo_31 : decode cX10_throughTo 31 = .ok (.iconst 1, 1) := by decide +kernel
theorem dX10_throughTo_32 : decode cX10_throughTo 32 = .ok (.iadd, 1) := by decide +kernel
theorem dX10_throughTo_33 : decode cX10_throughTo 33 = .ok (.iload 4, 2) := by decide +kernel
theorem dX10_throughTo_35 : decode cX10_throughTo 35 = .ok (.isub, 1) := by decide +kernel
theorem dX10_throughTo_36 : decode cX10_throughTo 36 = .ok (.iaload, 1) := by decide +kernel
theorem dX10_throughTo_37 : decode cX10_throughTo 37 = .ok (.goto 5, 3) := by decide +kernel
theorem dX10_throughTo_40 : decode cX10_throughTo 40 = .ok (.bipush (-9), 2) := by decide +kernel
theorem dX10_throughTo_42 : decode cX10_throughTo 42 = .ok (.ireturn, 1) := by decide +kernel
theorem dX10_ofDoor_0 : decode cX10_ofDoor 0 = .ok (.aload_n 0, 1) := by decide +kernel
theorem dX10_ofDoor_1 : decode cX10_ofDoor 1 = .ok (.iload_n 1, 1) := by decide +kernel
theorem dX10_ofDoor_2 : decode cX10_ofDoor 2 = .ok (.invokevirtual 164, 3) := by decide +kernel
theorem dX10_ofDoor_5 : decode cX10_ofDoor 5 = .ok (.ifCond .eq 5, 3) := by decide +kernel
theorem dX10_ofDoor_8 : decode cX10_ofDoor 8 = .ok (.iconst (-1), 1) := by decide +kernel
theorem dX10_ofDoor_9 : decode cX10_ofDoor 9 = .ok (.ireturn, 1) := by decide +kernel
theorem dX10_ofDoor_10 : decode cX10_ofDoor 10 = .ok (.iconst 0, 1) := by decide +kernel
theorem dX10_ofDoor_11 : decode cX10_ofDoor 11 = .ok (.istore_n 3, 1) := by decide +kernel
theorem dX10_ofDoor_12 : decode cX10_ofDoor 12 = .ok (.iload_n 2, 1) := by decide +kernel
theorem dX10_ofDoor_13 : decode cX10_ofDoor 13 = .ok (.tableswitch 118 0 7 #[47, 54, 54, 67, 74, 101, 74, 101], 47) := by decide +kernel
theorem dX10_ofDoor_60 : decode cX10_ofDoor 60 = .ok (.aload_n 0, 1) := by decide +kernel
theorem dX10_ofDoor_61 : decode cX10_ofDoor 61 = .ok (.getfield 7, 3) := by decide +kernel
theorem dX10_ofDoor_64 : decode cX10_ofDoor 64 = .ok (.iload_n 1, 1) := by decide +kernel
theorem dX10_ofDoor_65 : decode cX10_ofDoor 65 = .ok (.iaload, 1) := by decide +kernel
theorem dX10_ofDoor_66 : decode cX10_ofDoor 66 = .ok (.ireturn, 1) := by decide +kernel
theorem dX10_ofDoor_67 : decode cX10_ofDoor 67 = .ok (.aload_n 0, 1) := by decide +kernel
theorem dX10_ofDoor_68 : decode cX10_ofDoor 68 = .ok (.getfield 13, 3) := by decide +kernel
theorem dX10_ofDoor_71 : decode cX10_ofDoor 71 = .ok (.iconst 2, 1) := by decide +kernel
theorem dX10_ofDoor_72 : decode cX10_ofDoor 72 = .ok (.iload_n 1, 1) := by decide +kernel
theorem dX10_ofDoor_73 : decode cX10_ofDoor 73 = .ok (.imul, 1) := by decide +kernel
theorem dX10_ofDoor_74 : decode cX10_ofDoor 74 = .ok (.iload_n 2, 1) := by decide +kernel
theorem dX10_ofDoor_75 : decode cX10_ofDoor 75 = .ok (.iadd, 1) := by decide +kernel
theorem dX10_ofDoor_76 : decode cX10_ofDoor 76 = .ok (.iconst 1, 1) := by decide +kernel
theorem dX10_ofDoor_77 : decode cX10_ofDoor 77 = .ok (.isub, 1) := by decide +kernel
theorem dX10_ofDoor_78 : decode cX10_ofDoor 78 = .ok (.iaload, 1) := by decide +kernel
theorem dX10_ofDoor_79 : decode cX10_ofDoor 79 = .ok (.ireturn, 1) := by decide +kernel
theorem dX10_ofDoor_80 : decode cX10_ofDoor 80 = .ok (.aload_n 0, 1) := by decide +kernel
theorem dX10_ofDoor_81 : decode cX10_ofDoor 81 = .ok (.getfield 16, 3) := by decide +kernel
theorem dX10_ofDoor_84 : decode cX10_ofDoor 84 = .ok (.iload_n 1, 1) := by decide +kernel
theorem dX10_ofDoor_85 : decode cX10_ofDoor 85 = .ok (.iaload, 1) := by decide +kernel
theorem dX10_ofDoor_86 : decode cX10_ofDoor 86 = .ok (.ireturn, 1) := by decide +kernel
theorem dX10_ofDoor_87 : decode cX10_ofDoor 87 = .ok (.aload_n 0, 1) := by decide +kernel
theorem dX10_ofDoor_88 : decode cX10_ofDoor 88 = .ok (.iload_n 1, 1) := by decide +kernel
theorem dX10_ofDoor_89 : decode cX10_ofDoor 89 = .ok (.iload_n 2, 1) := by decide +kernel
theorem dX10_ofDoor_90 : decode cX10_ofDoor 90 = .ok (.iconst 2, 1) := by decide +kernel
theorem dX10_ofDoor_91 : decode cX10_ofDoor 91 = .ok (.idiv, 1) := by decide +kernel
theorem dX10_ofDoor_92 : decode cX10_ofDoor 92 = .ok (.iconst 2, 1) := by decide +kernel
theorem dX10_ofDoor_93 : decode cX10_ofDoor 93 = .ok (.isub, 1) := by decide +kernel
theorem dX10_ofDoor_94 : decode cX10_ofDoor 94 = .ok (.invokevirtual 151, 3) := by decide +kernel
theorem dX10_ofDoor_97 : decode cX10_ofDoor 97 = .ok (.aload_n 0, 1) := by decide +kernel
theorem dX10_ofDoor_98 : decode cX10_ofDoor 98 = .ok (.iload_n 1, 1) := by decide +kernel
theorem dX10_ofDoor_99 : decode cX10_ofDoor 99 = .ok (.invokevirtual 154, 3) := by decide +kernel
theorem dX10_ofDoor_102 : decode cX10_ofDoor 102 = .ok (.isub, 1) := by decide +kernel
theorem dX10_ofDoor_103 : decode cX10_ofDoor 103 = .ok (.istore_n 3, 1) := by decide +kernel
theorem dX10_ofDoor_104 : decode cX10_ofDoor 104 = .ok (.iload_n 3, 1) := by decide +kernel
theorem dX10_ofDoor_105 : decode cX10_ofDoor 105 = .ok (.ifCond .ge 7, 3) := by decide +kernel
theorem dX10_ofDoor_108 : decode cX10_ofDoor 108 = .ok (.iconst 0, 1) := by decide +kernel
theorem dX10_ofDoor_109 : decode cX10_ofDoor 109 = .ok (.goto 4, 3) := by decide +kernel
theorem dX10_ofDoor_112 : decode cX10_ofDoor 112 = .ok (.iload_n 3, 1) := by decide +kernel
theorem dX10_ofDoor_113 : decode cX10_ofDoor 113 = .ok (.ireturn, 1) := by decide +kernel
theorem dX10_ofDoor_114 : decode cX10_ofDoor 114 = .ok (.aload_n 0, 1) := by decide +kernel
theorem dX10_ofDoor_115 : decode cX10_ofDoor 115 = .ok (.iload_n 1, 1) := by decide +kernel
theorem dX10_ofDoor_116 : decode cX10_ofDoor 116 = .ok (.iload_n 2, 1) := by decide +kernel
theorem dX10_ofDoor_117 : decode cX10_ofDoor 117 = .ok (.iconst 2, 1) := by decide +kernel
theorem dX10_ofDoor_118 : decode cX10_ofDoor 118 = .ok (.idiv, 1) := by decide +kernel
theorem dX10_ofDoor_119 : decode cX10_ofDoor 119 = .ok (.iconst 2, 1) := by decide +kernel
theorem dX10_ofDoor_120 : decode cX10_ofDoor 120 = .ok (.isub, 1) := by decide +kernel
theorem dX10_ofDoor_121 : decode cX10_ofDoor 121 = .ok (.invokevirtual 151, 3) := by decide +kernel
theorem dX10_ofDoor_124 : decode cX10_ofDoor 124 = .ok (.aload_n 0, 1) := by decide +kernel
theorem dX10_ofDoor_125 : decode cX10_ofDoor 125 = .ok (.iload_n 1, 1) := by decide +kernel
theorem dX10_ofDoor_126 : decode cX10_ofDoor 126 = .ok (.invokevirtual 154, 3) := by decide +kernel
theorem dX10_ofDoor_129 : decode cX10_ofDoor 129 = .ok (.iadd, 1) := by decide +kernel
theorem dX10_ofDoor_130 : decode cX10_ofDoor 130 = .ok (.ireturn, 1) := by decide +kernel
theorem dX10_ofDoor_131 : decode cX10_ofDoor 131 = .ok (.bipush (-2), 2) := by decide +kernel
theorem dX10_ofDoor_133 : decode cX10_ofDoor 133 = .ok (.ireturn, 1) := by decide +kernel
theorem dX10_noPerson_0 : decode cX10_noPerson 0 = .ok (.iload_n 1, 1) := by decide +kernel
theorem dX10_noPerson_1 : decode cX10_noPerson 1 = .ok (.i2l, 1) := by decide +kernel
theorem dX10_noPerson_2 : decode cX10_noPerson 2 = .ok (.lconst 0, 1) := by decide +kernel
theorem dX10_noPerson_3 : decode cX10_noPerson 3 = .ok (.aload_n 0, 1) := by decide +kernel
theorem dX10_noPerson_4 : decode cX10_noPerson 4 = .ok (.getfield 145, 3) := by decide +kernel
theorem dX10_noPerson_7 : decode cX10_noPerson 7 = .ok (.i2l, 1) := by decide +kernel
theorem dX10_noPerson_8 : decode cX10_noPerson 8 = .ok (.lconst 1, 1) := by decide +kernel
theorem dX10_noPerson_9 : decode cX10_noPerson 9 = .ok (.lsub, 1) := by decide +kernel
theorem dX10_noPerson_10 : decode cX10_noPerson 10 = .ok (.invokestatic 97, 3) := by decide +kernel
theorem dX10_noPerson_13 : decode cX10_noPerson 13 = .ok (.ifCond .ne 7, 3) := by decide +kernel
theorem dX10_noPerson_16 : decode cX10_noPerson 16 = .ok (.iconst 1, 1) := by decide +kernel
theorem dX10_noPerson_17 : decode cX10_noPerson 17 = .ok (.goto 4, 3) := by decide +kernel
theorem dX10_noPerson_20 : decode cX10_noPerson 20 = .ok (.iconst 0, 1) := by decide +kernel
theorem dX10_noPerson_21 : decode cX10_noPerson 21 = .ok (.ireturn, 1) := by decide +kernel
theorem dX10_noStone_0 : decode cX10_noStone 0 = .ok (.iload_n 1, 1) := by decide +kernel
theorem dX10_noStone_1 : decode cX10_noStone 1 = .ok (.i2l, 1) := by decide +kernel
theorem dX10_noStone_2 : decode cX10_noStone 2 = .ok (.lconst 0, 1) := by decide +kernel
theorem dX10_noStone_3 : decode cX10_noStone 3 = .ok (.aload_n 0, 1) := by decide +kernel
theorem dX10_noStone_4 : decode cX10_noStone 4 = .ok (.getfield 148, 3) := by decide +kernel
theorem dX10_noStone_7 : decode cX10_noStone 7 = .ok (.i2l, 1) := by decide +kernel
theorem dX10_noStone_8 : decode cX10_noStone 8 = .ok (.lconst 1, 1) := by decide +kernel
theorem dX10_noStone_9 : decode cX10_noStone 9 = .ok (.lsub, 1) := by decide +kernel
theorem dX10_noStone_10 : decode cX10_noStone 10 = .ok (.invokestatic 97, 3) := by decide +kernel
theorem dX10_noStone_13 : decode cX10_noStone 13 = .ok (.ifCond .ne 7, 3) := by decide +kernel
theorem dX10_noStone_16 : decode cX10_noStone 16 = .ok (.iconst 1, 1) := by decide +kernel
theorem dX10_noStone_17 : decode cX10_noStone 17 = .ok (.goto 4, 3) := by decide +kernel
theorem dX10_noStone_20 : decode cX10_noStone 20 = .ok (.iconst 0, 1) := by decide +kernel
theorem dX10_noStone_21 : decode cX10_noStone 21 = .ok (.ireturn, 1) := by decide +kernel
theorem dX10_person_0 : decode cX10_person 0 = .ok (.aload_n 0, 1) := by decide +kernel
theorem dX10_person_1 : decode cX10_person 1 = .ok (.iload_n 2, 1) := by decide +kernel
theorem dX10_person_2 : decode cX10_person 2 = .ok (.invokevirtual 167, 3) := by decide +kernel
theorem dX10_person_5 : decode cX10_person 5 = .ok (.ifCond .eq 5, 3) := by decide +kernel
theorem dX10_person_8 : decode cX10_person 8 = .ok (.iconst (-1), 1) := by decide +kernel
theorem dX10_person_9 : decode cX10_person 9 = .ok (.ireturn, 1) := by decide +kernel
theorem dX10_person_10 : decode cX10_person 10 = .ok (.iload_n 1, 1) := by decide +kernel
theorem dX10_person_11 : decode cX10_person 11 = .ok (.i2l, 1) := by decide +kernel
theorem dX10_person_12 : decode cX10_person 12 = .ok (.ldc2_w 170, 3) := by decide +kernel
theorem dX10_person_15 : decode cX10_person 15 = .ok (.ldc2_w 172, 3) := by decide +kernel
theorem dX10_person_18 : decode cX10_person 18 = .ok (.invokestatic 97, 3) := by decide +kernel
theorem dX10_person_21 : decode cX10_person 21 = .ok (.ifCond .ne 6, 3) := by decide +kernel
theorem dX10_person_24 : decode cX10_person 24 = .ok (.bipush (-2), 2) := by decide +kernel
theorem dX10_person_26 : decode cX10_person 26 = .ok (.ireturn, 1) := by decide +kernel
theorem dX10_person_27 : decode cX10_person 27 = .ok (.aload_n 0, 1) := by decide +kernel
theorem dX10_person_28 : decode cX10_person 28 = .ok (.getfield 145, 3) := by decide +kernel
theorem dX10_person_31 : decode cX10_person 31 = .ok (.iconst 4, 1) := by decide +kernel
theorem dX10_person_32 : decode cX10_person 32 = .ok (.if_icmp .ne 6, 3) := by decide +kernel
theorem dX10_person_35 : decode cX10_person 35 = .ok (.bipush (-4), 2) := by decide +kernel
theorem dX10_person_37 : decode cX10_person 37 = .ok (.ireturn, 1) := by decide +kernel
theorem dX10_person_38 : decode cX10_person 38 = .ok (.aload_n 0, 1) := by decide +kernel
theorem dX10_person_39 : decode cX10_person 39 = .ok (.getfield 28, 3) := by decide +kernel
theorem dX10_person_42 : decode cX10_person 42 = .ok (.aload_n 0, 1) := by decide +kernel
theorem dX10_person_43 : decode cX10_person 43 = .ok (.getfield 145, 3) := by decide +kernel
theorem dX10_person_46 : decode cX10_person 46 = .ok (.iload_n 1, 1) := by decide +kernel
theorem dX10_person_47 : decode cX10_person 47 = .ok (.iastore, 1) := by decide +kernel
theorem dX10_person_48 : decode cX10_person 48 = .ok (.aload_n 0, 1) := by decide +kernel
theorem dX10_person_49 : decode cX10_person 49 = .ok (.getfield 31, 3) := by decide +kernel
theorem dX10_person_52 : decode cX10_person 52 = .ok (.aload_n 0, 1) := by decide +kernel
theorem dX10_person_53 : decode cX10_person 53 = .ok (.getfield 145, 3) := by decide +kernel
theorem dX10_person_56 : decode cX10_person 56 = .ok (.iload_n 2, 1) := by decide +kernel
theorem dX10_person_57 : decode cX10_person 57 = .ok (.iastore, 1) := by decide +kernel
theorem dX10_person_58 : decode cX10_person 58 = .ok (.aload_n 0, 1) := by decide +kernel
theorem dX10_person_59 : decode cX10_person 59 = .ok (.dup, 1) := by decide +kernel
theorem dX10_person_60 : decode cX10_person 60 = .ok (.getfield 145, 3) := by decide +kernel
theorem dX10_person_63 : decode cX10_person 63 = .ok (.iconst 1, 1) := by decide +kernel
theorem dX10_person_64 : decode cX10_person 64 = .ok (.iadd, 1) := by decide +kernel
theorem dX10_person_65 : decode cX10_person 65 = .ok (.putfield 145, 3) := by decide +kernel
theorem dX10_person_68 : decode cX10_person 68 = .ok (.aload_n 0, 1) := by decide +kernel
theorem dX10_person_69 : decode cX10_person 69 = .ok (.getfield 145, 3) := by decide +kernel
theorem dX10_person_72 : decode cX10_person 72 = .ok (.iconst 1, 1) := by decide +kernel
theorem dX10_person_73 : decode cX10_person 73 = .ok (.isub, 1) := by decide +kernel
theorem dX10_person_74 : decode cX10_person 74 = .ok (.ireturn, 1) := by decide +kernel
theorem dX10_stone_0 : decode cX10_stone 0 = .ok (.aload_n 0, 1) := by decide +kernel
theorem dX10_stone_1 : decode cX10_stone 1 = .ok (.iload_n 2, 1) := by decide +kernel
theorem dX10_stone_2 : decode cX10_stone 2 = .ok (.invokevirtual 167, 3) := by decide +kernel
theorem dX10_stone_5 : decode cX10_stone 5 = .ok (.ifCond .eq 5, 3) := by decide +kernel
theorem dX10_stone_8 : decode cX10_stone 8 = .ok (.iconst (-1), 1) := by decide +kernel
theorem dX10_stone_9 : decode cX10_stone 9 = .ok (.ireturn, 1) := by decide +kernel
theorem dX10_stone_10 : decode cX10_stone 10 = .ok (.iload_n 1, 1) := by decide +kernel
theorem dX10_stone_11 : decode cX10_stone 11 = .ok (.i2l, 1) := by decide +kernel
theorem dX10_stone_12 : decode cX10_stone 12 = .ok (.lconst 1, 1) := by decide +kernel
theorem dX10_stone_13 : decode cX10_stone 13 = .ok (.ldc2_w 174, 3) := by decide +kernel
theorem dX10_stone_16 : decode cX10_stone 16 = .ok (.invokestatic 97, 3) := by decide +kernel
theorem dX10_stone_19 : decode cX10_stone 19 = .ok (.ifCond .ne 6, 3) := by decide +kernel
theorem dX10_stone_22 : decode cX10_stone 22 = .ok (.bipush (-2), 2) := by decide +kernel
theorem dX10_stone_24 : decode cX10_stone 24 = .ok (.ireturn, 1) := by decide +kernel
theorem dX10_stone_25 : decode cX10_stone 25 = .ok (.aload_n 0, 1) := by decide +kernel
theorem dX10_stone_26 : decode cX10_stone 26 = .ok (.getfield 148, 3) := by decide +kernel
theorem dX10_stone_29 : decode cX10_stone 29 = .ok (.iconst 4, 1) := by decide +kernel
theorem dX10_stone_30 : decode cX10_stone 30 = .ok (.if_icmp .ne 6, 3) := by decide +kernel
theorem dX10_stone_33 : decode cX10_stone 33 = .ok (.bipush (-4), 2) := by decide +kernel
theorem dX10_stone_35 : decode cX10_stone 35 = .ok (.ireturn, 1) := by decide +kernel
theorem dX10_stone_36 : decode cX10_stone 36 = .ok (.aload_n 0, 1) := by decide +kernel
theorem dX10_stone_37 : decode cX10_stone 37 = .ok (.getfield 34, 3) := by decide +kernel
theorem dX10_stone_40 : decode cX10_stone 40 = .ok (.aload_n 0, 1) := by decide +kernel
theorem dX10_stone_41 : decode cX10_stone 41 = .ok (.getfield 148, 3) := by decide +kernel
theorem dX10_stone_44 : decode cX10_stone 44 = .ok (.iload_n 1, 1) := by decide +kernel
theorem dX10_stone_45 : decode cX10_stone 45 = .ok (.iastore, 1) := by decide +kernel
theorem dX10_stone_46 : decode cX10_stone 46 = .ok (.aload_n 0, 1) := by decide +kernel
theorem dX10_stone_47 : decode cX10_stone 47 = .ok (.getfield 37, 3) := by decide +kernel
theorem dX10_stone_50 : decode cX10_stone 50 = .ok (.aload_n 0, 1) := by decide +kernel
theorem dX10_stone_51 : decode cX10_stone 51 = .ok (.getfield 148, 3) := by decide +kernel
theorem dX10_stone_54 : decode cX10_stone 54 = .ok (.iload_n 2, 1) := by decide +kernel
theorem dX10_stone_55 : decode cX10_stone 55 = .ok (.iastore, 1) := by decide +kernel
theorem dX10_stone_56 : decode cX10_stone 56 = .ok (.aload_n 0, 1) := by decide +kernel
theorem dX10_stone_57 : decode cX10_stone 57 = .ok (.dup, 1) := by decide +kernel
theorem dX10_stone_58 : decode cX10_stone 58 = .ok (.getfield 148, 3) := by decide +kernel
theorem dX10_stone_61 : decode cX10_stone 61 = .ok (.iconst 1, 1) := by decide +kernel
theorem dX10_stone_62 : decode cX10_stone 62 = .ok (.iadd, 1) := by decide +kernel
theorem dX10_stone_63 : decode cX10_stone 63 = .ok (.putfield 148, 3) := by decide +kernel
theorem dX10_stone_66 : decode cX10_stone 66 = .ok (.aload_n 0, 1) := by decide +kernel
theorem dX10_stone_67 : decode cX10_stone 67 = .ok (.getfield 148, 3) := by decide +kernel
theorem dX10_stone_70 : decode cX10_stone 70 = .ok (.iconst 1, 1) := by decide +kernel
theorem dX10_stone_71 : decode cX10_stone 71 = .ok (.isub, 1) := by decide +kernel
theorem dX10_stone_72 : decode cX10_stone 72 = .ok (.ireturn, 1) := by decide +kernel
theorem dX10_carriedBy_0 : decode cX10_carriedBy 0 = .ok (.iconst 0, 1) := by decide +kernel
theorem dX10_carriedBy_1 : decode cX10_carriedBy 1 = .ok (.istore_n 2, 1) := by decide +kernel
theorem dX10_carriedBy_2 : decode cX10_carriedBy 2 = .ok (.iconst 0, 1) := by decide +kernel
theorem dX10_carriedBy_3 : decode cX10_carriedBy 3 = .ok (.istore_n 3, 1) := by decide +kernel
theorem dX10_carriedBy_4 : decode cX10_carriedBy 4 = .ok (.iload_n 3, 1) := by decide +kernel
theorem dX10_carriedBy_5 : decode cX10_carriedBy 5 = .ok (.aload_n 0, 1) := by decide +kernel
theorem dX10_carriedBy_6 : decode cX10_carriedBy 6 = .ok (.getfield 148, 3) := by decide +kernel
theorem dX10_carriedBy_9 : decode cX10_carriedBy 9 = .ok (.if_icmp .ge 32, 3) := by decide +kernel
theorem dX10_carriedBy_12 : decode cX10_carriedBy 12 = .ok (.iload_n 2, 1) := by decide +kernel
theorem dX10_carriedBy_13 : decode cX10_carriedBy 13 = .ok (.aload_n 0, 1) := by decide +kernel
theorem dX10_carriedBy_14 : decode cX10_carriedBy 14 = .ok (.getfield 37, 3) := by decide +kernel
theorem dX10_carriedBy_17 : decode cX10_carriedBy 17 = .ok (.iload_n 3, 1) := by decide +kernel
theorem dX10_carriedBy_18 : decode cX10_carriedBy 18 = .ok (.iaload, 1) := by decide +kernel
theorem dX10_carriedBy_19 : decode cX10_carriedBy 19 = .ok (.bipush 20, 2) := by decide +kernel
theorem dX10_carriedBy_21 : decode cX10_carriedBy 21 = .ok (.iload_n 1, 1) := by decide +kernel
theorem dX10_carriedBy_22 : decode cX10_carriedBy 22 = .ok (.iadd, 1) := by decide +kernel
theorem dX10_carriedBy_23 : decode cX10_carriedBy 23 = .ok (.if_icmp .ne 9, 3) := by decide +kernel
theorem dX10_carriedBy_26 : decode cX10_carriedBy 26 = .ok (.iconst 1, 1) := by decide +kernel
theorem dX10_carriedBy_27 : decode cX10_carriedBy 27 = .ok (.iload_n 3, 1) := by decide +kernel
theorem dX10_carriedBy_28 : decode cX10_carriedBy 28 = .ok (.ishl, 1) := by decide +kernel
theorem dX10_carriedBy_29 : decode cX10_carriedBy 29 = .ok (.goto 4, 3) := by decide +kernel
theorem dX10_carriedBy_32 : decode cX10_carriedBy 32 = .ok (.iconst 0, 1) := by decide +kernel
theorem dX10_carriedBy_33 : decode cX10_carriedBy 33 = .ok (.ior, 1) := by decide +kernel
theorem dX10_carriedBy_34 : decode cX10_carriedBy 34 = .ok (.istore_n 2, 1) := by decide +kernel
theorem dX10_carriedBy_35 : decode cX10_carriedBy 35 = .ok (.iinc 3 1, 3) := by decide +kernel
theorem dX10_carriedBy_38 : decode cX10_carriedBy 38 = .ok (.goto (-34), 3) := by decide +kernel
theorem dX10_carriedBy_41 : decode cX10_carriedBy 41 = .ok (.iload_n 2, 1) := by decide +kernel
theorem dX10_carriedBy_42 : decode cX10_carriedBy 42 = .ok (.ireturn, 1) := by decide +kernel
theorem dX10_bits_0 : decode cX10_bits 0 = .ok (.iconst 0, 1) := by decide +kernel
theorem dX10_bits_1 : decode cX10_bits 1 = .ok (.istore_n 1, 1) := by decide +kernel
theorem dX10_bits_2 : decode cX10_bits 2 = .ok (.iload_n 0, 1) := by decide +kernel
theorem dX10_bits_3 : decode cX10_bits 3 = .ok (.istore_n 2, 1) := by decide +kernel
theorem dX10_bits_4 : decode cX10_bits 4 = .ok (.iload_n 2, 1) := by decide +kernel
theorem dX10_bits_5 : decode cX10_bits 5 = .ok (.ifCond .le 16, 3) := by decide +kernel
theorem dX10_bits_8 : decode cX10_bits 8 = .ok (.iload_n 1, 1) := by decide +kernel
theorem dX10_bits_9 : decode cX10_bits 9 = .ok (.iload_n 2, 1) := by decide +kernel
theorem dX10_bits_10 : decode cX10_bits 10 = .ok (.iconst 1, 1) := by decide +kernel
theorem dX10_bits_11 : decode cX10_bits 11 = .ok (.iand, 1) := by decide +kernel
theorem dX10_bits_12 : decode cX10_bits 12 = .ok (.iadd, 1) := by decide +kernel
theorem dX10_bits_13 : decode cX10_bits 13 = .ok (.istore_n 1, 1) := by decide +kernel
theorem dX10_bits_14 : decode cX10_bits 14 = .ok (.iload_n 2, 1) := by decide +kernel
theorem dX10_bits_15 : decode cX10_bits 15 = .ok (.iconst 1, 1) := by decide +kernel
theorem dX10_bits_16 : decode cX10_bits 16 = .ok (.ishr, 1) := by decide +kernel
theorem dX10_bits_17 : decode cX10_bits 17 = .ok (.istore_n 2, 1) := by decide +kernel
theorem dX10_bits_18 : decode cX10_bits 18 = .ok (.goto (-14), 3) := by decide +kernel
theorem dX10_bits_21 : decode cX10_bits 21 = .ok (.iload_n 1, 1) := by decide +kernel
theorem dX10_bits_22 : decode cX10_bits 22 = .ok (.ireturn, 1) := by decide +kernel
theorem dX10_withStones_0 : decode cX10_withStones 0 = .ok (.aload_n 0, 1) := by decide +kernel
theorem dX10_withStones_1 : decode cX10_withStones 1 = .ok (.getfield 28, 3) := by decide +kernel
theorem dX10_withStones_4 : decode cX10_withStones 4 = .ok (.iload_n 1, 1) := by decide +kernel
theorem dX10_withStones_5 : decode cX10_withStones 5 = .ok (.iaload, 1) := by decide +kernel
theorem dX10_withStones_6 : decode cX10_withStones 6 = .ok (.istore_n 2, 1) := by decide +kernel
theorem dX10_withStones_7 : decode cX10_withStones 7 = .ok (.iconst 0, 1) := by decide +kernel
theorem dX10_withStones_8 : decode cX10_withStones 8 = .ok (.istore_n 3, 1) := by decide +kernel
theorem dX10_withStones_9 : decode cX10_withStones 9 = .ok (.iload_n 3, 1) := by decide +kernel
theorem dX10_withStones_10 : decode cX10_withStones 10 = .ok (.aload_n 0, 1) := by decide +kernel
theorem dX10_withStones_11 : decode cX10_withStones 11 = .ok (.getfield 148, 3) := by decide +kernel
theorem dX10_withStones_14 : decode cX10_withStones 14 = .ok (.if_icmp .ge 35, 3) := by decide +kernel
theorem dX10_withStones_17 : decode cX10_withStones 17 = .ok (.iload_n 2, 1) := by decide +kernel
theorem dX10_withStones_18 : decode cX10_withStones 18 = .ok (.aload_n 0, 1) := by decide +kernel
theorem dX10_withStones_19 : decode cX10_withStones 19 = .ok (.getfield 37, 3) := by decide +kernel
theorem dX10_withStones_22 : decode cX10_withStones 22 = .ok (.iload_n 3, 1) := by decide +kernel
theorem dX10_withStones_23 : decode cX10_withStones 23 = .ok (.iaload, 1) := by decide +kernel
theorem dX10_withStones_24 : decode cX10_withStones 24 = .ok (.bipush 20, 2) := by decide +kernel
theorem dX10_withStones_26 : decode cX10_withStones 26 = .ok (.iload_n 1, 1) := by decide +kernel
theorem dX10_withStones_27 : decode cX10_withStones 27 = .ok (.iadd, 1) := by decide +kernel
theorem dX10_withStones_28 : decode cX10_withStones 28 = .ok (.if_icmp .ne 12, 3) := by decide +kernel
theorem dX10_withStones_31 : decode cX10_withStones 31 = .ok (.aload_n 0, 1) := by decide +kernel
theorem dX10_withStones_32 : decode cX10_withStones 32 = .ok (.getfield 34, 3) := by decide +kernel
theorem dX10_withStones_35 : decode cX10_withStones 35 = .ok (.iload_n 3, 1) := by decide +kernel
theorem dX10_withStones_36 : decode cX10_withStones 36 = .ok (.iaload, 1) := by decide +kernel
theorem dX10_withStones_37 : decode cX10_withStones 37 = .ok (.goto 4, 3) := by decide +kernel
theorem dX10_withStones_40 : decode cX10_withStones 40 = .ok (.iconst 0, 1) := by decide +kernel
theorem dX10_withStones_41 : decode cX10_withStones 41 = .ok (.iadd, 1) := by decide +kernel
theorem dX10_withStones_42 : decode cX10_withStones 42 = .ok (.istore_n 2, 1) := by decide +kernel
theorem dX10_withStones_43 : decode cX10_withStones 43 = .ok (.iinc 3 1, 3) := by decide +kernel
theorem dX10_withStones_46 : decode cX10_withStones 46 = .ok (.goto (-37), 3) := by decide +kernel
theorem dX10_withStones_49 : decode cX10_withStones 49 = .ok (.iload_n 2, 1) := by decide +kernel
theorem dX10_withStones_50 : decode cX10_withStones 50 = .ok (.ireturn, 1) := by decide +kernel
theorem dX10_ofPerson_0 : decode cX10_ofPerson 0 = .ok (.aload_n 0, 1) := by decide +kernel
theorem dX10_ofPerson_1 : decode cX10_ofPerson 1 = .ok (.iload_n 1, 1) := by decide +kernel
theorem dX10_ofPerson_2 : decode cX10_ofPerson 2 = .ok (.invokevirtual 176, 3) := by decide +kernel
theorem dX10_ofPerson_5 : decode cX10_ofPerson 5 = .ok (.ifCond .eq 5, 3) := by decide +kernel
theorem dX10_ofPerson_8 : decode cX10_ofPerson 8 = .ok (.iconst (-1), 1) := by decide +kernel
theorem dX10_ofPerson_9 : decode cX10_ofPerson 9 = .ok (.ireturn, 1) := by decide +kernel
theorem dX10_ofPerson_10 : decode cX10_ofPerson 10 = .ok (.iload_n 2, 1) := by decide +kernel
theorem dX10_ofPerson_11 : decode cX10_ofPerson 11 = .ok (.tableswitch 55 0 3 #[29, 36, 43, 49], 29) := by decide +kernel
theorem dX10_ofPerson_40 : decode cX10_ofPerson 40 = .ok (.aload_n 0, 1) := by decide +kernel
theorem dX10_ofPerson_41 : decode cX10_ofPerson 41 = .ok (.getfield 28, 3) := by decide +kernel
theorem dX10_ofPerson_44 : decode cX10_ofPerson 44 = .ok (.iload_n 1, 1) := by decide +kernel
theorem dX10_ofPerson_45 : decode cX10_ofPerson 45 = .ok (.iaload, 1) := by decide +kernel
theorem dX10_ofPerson_46 : decode cX10_ofPerson 46 = .ok (.ireturn, 1) := by decide +kernel
theorem dX10_ofPerson_47 : decode cX10_ofPerson 47 = .ok (.aload_n 0, 1) := by decide +kernel
theorem dX10_ofPerson_48 : decode cX10_ofPerson 48 = .ok (.getfield 31, 3) := by decide +kernel
theorem dX10_ofPerson_51 : decode cX10_ofPerson 51 = .ok (.iload_n 1, 1) := by decide +kernel
theorem dX10_ofPerson_52 : decode cX10_ofPerson 52 = .ok (.iaload, 1) := by decide +kernel
theorem dX10_ofPerson_53 : decode cX10_ofPerson 53 = .ok (.ireturn, 1) := by decide +kernel
theorem dX10_ofPerson_54 : decode cX10_ofPerson 54 = .ok (.aload_n 0, 1) := by decide +kernel
theorem dX10_ofPerson_55 : decode cX10_ofPerson 55 = .ok (.iload_n 1, 1) := by decide +kernel
theorem dX10_ofPerson_56 : decode cX10_ofPerson 56 = .ok (.invokevirtual 179, 3) := by decide +kernel
theorem dX10_ofPerson_59 : decode cX10_ofPerson 59 = .ok (.ireturn, 1) := by decide +kernel
theorem dX10_ofPerson_60 : decode cX10_ofPerson 60 = .ok (.aload_n 0, 1) := by decide +kernel
theorem dX10_ofPerson_61 : decode cX10_ofPerson 61 = .ok (.iload_n 1, 1) := by decide +kernel
theorem dX10_ofPerson_62 : decode cX10_ofPerson 62 = .ok (.invokevirtual 182, 3) := by decide +kernel
theorem dX10_ofPerson_65 : decode cX10_ofPerson 65 = .ok (.ireturn, 1) := by decide +kernel
theorem dX10_ofPerson_66 : decode cX10_ofPerson 66 = .ok (.bipush (-2), 2) := by decide +kernel
theorem dX10_ofPerson_68 : decode cX10_ofPerson 68 = .ok (.ireturn, 1) := by decide +kernel
theorem dX10_ofStone_0 : decode cX10_ofStone 0 = .ok (.aload_n 0, 1) := by decide +kernel
theorem dX10_ofStone_1 : decode cX10_ofStone 1 = .ok (.iload_n 1, 1) := by decide +kernel
theorem dX10_ofStone_2 : decode cX10_ofStone 2 = .ok (.invokevirtual 185, 3) := by decide +kernel
theorem dX10_ofStone_5 : decode cX10_ofStone 5 = .ok (.ifCond .eq 5, 3) := by decide +kernel
theorem dX10_ofStone_8 : decode cX10_ofStone 8 = .ok (.iconst (-1), 1) := by decide +kernel
theorem dX10_ofStone_9 : decode cX10_ofStone 9 = .ok (.ireturn, 1) := by decide +kernel
theorem dX10_ofStone_10 : decode cX10_ofStone 10 = .ok (.iload_n 2, 1) := by decide +kernel
theorem dX10_ofStone_11 : decode cX10_ofStone 11 = .ok (.ifCond .ne 12, 3) := by decide +kernel
theorem dX10_ofStone_14 : decode cX10_ofStone 14 = .ok (.aload_n 0, 1) := by decide +kernel
theorem dX10_ofStone_15 : decode cX10_ofStone 15 = .ok (.getfield 34, 3) := by decide +kernel
theorem dX10_ofStone_18 : decode cX10_ofStone 18 = .ok (.iload_n 1, 1) := by decide +kernel
theorem dX10_ofStone_19 : decode cX10_ofStone 19 = .ok (.iaload, 1) := by decide +kernel
theorem dX10_ofStone_20 : decode cX10_ofStone 20 = .ok (.goto 40, 3) := by decide +kernel
theorem dX10_ofStone_23 : decode cX10_ofStone 23 = .ok (.iload_n 2, 1) := by decide +kernel
theorem dX10_ofStone_24 : decode cX10_ofStone 24 = .ok (.iconst 1, 1) := by decide +kernel
theorem dX10_ofStone_25 : decode cX10_ofStone 25 = .ok (.if_icmp .ne 33, 3) := by decide +kernel
theorem dX10_ofStone_28 : decode cX10_ofStone 28 = .ok (.aload_n 0, 1) := by decide +kernel
theorem dX10_ofStone_29 : decode cX10_ofStone 29 = .ok (.getfield 37, 3) := by decide +kernel
theorem dX10_ofStone_32 : decode cX10_ofStone 32 = .ok (.iload_n 1, 1) := by decide +kernel
theorem dX10_ofStone_33 : decode cX10_ofStone 33 = .ok (.iaload, 1) := by decide +kernel
theorem dX10_ofStone_34 : decode cX10_ofStone 34 = .ok (.bipush 20, 2) := by decide +kernel
theorem dX10_ofStone_36 : decode cX10_ofStone 36 = .ok (.if_icmp .ge 12, 3) := by decide +kernel
theorem dX10_ofStone_39 : decode cX10_ofStone 39 = .ok (.aload_n 0, 1) := by decide +kernel
theorem dX10_ofStone_40 : decode cX10_ofStone 40 = .ok (.getfield 37, 3) := by decide +kernel
theorem dX10_ofStone_43 : decode cX10_ofStone 43 = .ok (.iload_n 1, 1) := by decide +kernel
theorem dX10_ofStone_44 : decode cX10_ofStone 44 = .ok (.iaload, 1) := by decide +kernel
theorem dX10_ofStone_45 : decode cX10_ofStone 45 = .ok (.goto 15, 3) := by decide +kernel
theorem dX10_ofStone_48 : decode cX10_ofStone 48 = .ok (.aload_n 0, 1) := by decide +kernel
theorem dX10_ofStone_49 : decode cX10_ofStone 49 = .ok (.getfield 37, 3) := by decide +kernel
theorem dX10_ofStone_52 : decode cX10_ofStone 52 = .ok (.iload_n 1, 1) := by decide +kernel
theorem dX10_ofStone_53 : decode cX10_ofStone 53 = .ok (.iaload, 1) := by decide +kernel
theorem dX10_ofStone_54 : decode cX10_ofStone 54 = .ok (.ineg, 1) := by decide +kernel
theorem dX10_ofStone_55 : decode cX10_ofStone 55 = .ok (.goto 5, 3) := by decide +kernel
theorem dX10_ofStone_58 : decode cX10_ofStone 58 = .ok (.bipush (-2), 2) := by decide +kernel
theorem dX10_ofStone_60 : decode cX10_ofStone 60 = .ok (.ireturn, 1) := by decide +kernel
theorem dX10_take_0 : decode cX10_take 0 = .ok (.aload_n 0, 1) := by decide +kernel
theorem dX10_take_1 : decode cX10_take 1 = .ok (.iload_n 1, 1) := by decide +kernel
theorem dX10_take_2 : decode cX10_take 2 = .ok (.invokevirtual 176, 3) := by decide +kernel
theorem dX10_take_5 : decode cX10_take 5 = .ok (.ifCond .ne 11, 3) := by decide +kernel
theorem dX10_take_8 : decode cX10_take 8 = .ok (.aload_n 0, 1) := by decide +kernel
theorem dX10_take_9 : decode cX10_take 9 = .ok (.iload_n 2, 1) := by decide +kernel
theorem dX10_take_10 : decode cX10_take 10 = .ok (.invokevirtual 185, 3) := by decide +kernel
theorem dX10_take_13 : decode cX10_take 13 = .ok (.ifCond .eq 5, 3) := by decide +kernel
theorem dX10_take_16 : decode cX10_take 16 = .ok (.iconst (-1), 1) := by decide +kernel
theorem dX10_take_17 : decode cX10_take 17 = .ok (.ireturn, 1) := by decide +kernel
theorem dX10_take_18 : decode cX10_take 18 = .ok (.aload_n 0, 1) := by decide +kernel
theorem dX10_take_19 : decode cX10_take 19 = .ok (.getfield 37, 3) := by decide +kernel
theorem dX10_take_22 : decode cX10_take 22 = .ok (.iload_n 2, 1) := by decide +kernel
theorem dX10_take_23 : decode cX10_take 23 = .ok (.iaload, 1) := by decide +kernel
theorem dX10_take_24 : decode cX10_take 24 = .ok (.aload_n 0, 1) := by decide +kernel
theorem dX10_take_25 : decode cX10_take 25 = .ok (.getfield 31, 3) := by decide +kernel
theorem dX10_take_28 : decode cX10_take 28 = .ok (.iload_n 1, 1) := by decide +kernel
theorem dX10_take_29 : decode cX10_take 29 = .ok (.iaload, 1) := by decide +kernel
theorem dX10_take_30 : decode cX10_take 30 = .ok (.if_icmp .eq 6, 3) := by decide +kernel
theorem dX10_take_33 : decode cX10_take 33 = .ok (.bipush (-3), 2) := by decide +kernel
theorem dX10_take_35 : decode cX10_take 35 = .ok (.ireturn, 1) := by decide +kernel
theorem dX10_take_36 : decode cX10_take 36 = .ok (.aload_n 0, 1) := by decide +kernel
theorem dX10_take_37 : decode cX10_take 37 = .ok (.iload_n 1, 1) := by decide +kernel
theorem dX10_take_38 : decode cX10_take 38 = .ok (.invokevirtual 179, 3) := by decide +kernel
theorem dX10_take_41 : decode cX10_take 41 = .ok (.invokestatic 188, 3) := by decide +kernel
theorem dX10_take_44 : decode cX10_take 44 = .ok (.iconst 2, 1) := by decide +kernel
theorem dX10_take_45 : decode cX10_take 45 = .ok (.if_icmp .ne 6, 3) := by decide +kernel
theorem dX10_take_48 : decode cX10_take 48 = .ok (.bipush (-4), 2) := by decide +kernel
theorem dX10_take_50 : decode cX10_take 50 = .ok (.ireturn, 1) := by decide +kernel
theorem dX10_take_51 : decode cX10_take 51 = .ok (.aload_n 0, 1) := by decide +kernel
theorem dX10_take_52 : decode cX10_take 52 = .ok (.getfield 37, 3) := by decide +kernel
theorem dX10_take_55 : decode cX10_take 55 = .ok (.iload_n 2, 1) := by decide +kernel
theorem dX10_take_56 : decode cX10_take 56 = .ok (.bipush 20, 2) := by decide +kernel
theorem dX10_take_58 : decode cX10_take 58 = .ok (.iload_n 1, 1) := by decide +kernel
theorem dX10_take_59 : decode cX10_take 59 = .ok (.iadd, 1) := by decide +kernel
theorem dX10_take_60 : decode cX10_take 60 = .ok (.iastore, 1) := by decide +kernel
theorem dX10_take_61 : decode cX10_take 61 = .ok (.aload_n 0, 1) := by decide +kernel
theorem dX10_take_62 : decode cX10_take 62 = .ok (.iload_n 1, 1) := by decide +kernel
theorem dX10_take_63 : decode cX10_take 63 = .ok (.invokevirtual 179, 3) := by decide +kernel
theorem dX10_take_66 : decode cX10_take 66 = .ok (.invokestatic 188, 3) := by decide +kernel
theorem dX10_take_69 : decode cX10_take 69 = .ok (.ireturn, 1) := by decide +kernel
theorem dX10_lay_0 : decode cX10_lay 0 = .ok (.aload_n 0, 1) := by decide +kernel
theorem dX10_lay_1 : decode cX10_lay 1 = .ok (.iload_n 1, 1) := by decide +kernel
theorem dX10_lay_2 : decode cX10_lay 2 = .ok (.invokevirtual 176, 3) := by decide +kernel
theorem dX10_lay_5 : decode cX10_lay 5 = .ok (.ifCond .ne 11, 3) := by decide +kernel
theorem dX10_lay_8 : decode cX10_lay 8 = .ok (.aload_n 0, 1) := by decide +kernel
theorem dX10_lay_9 : decode cX10_lay 9 = .ok (.iload_n 2, 1) := by decide +kernel
theorem dX10_lay_10 : decode cX10_lay 10 = .ok (.invokevirtual 185, 3) := by decide +kernel
theorem dX10_lay_13 : decode cX10_lay 13 = .ok (.ifCond .eq 5, 3) := by decide +kernel
theorem dX10_lay_16 : decode cX10_lay 16 = .ok (.iconst (-1), 1) := by decide +kernel
theorem dX10_lay_17 : decode cX10_lay 17 = .ok (.ireturn, 1) := by decide +kernel
theorem dX10_lay_18 : decode cX10_lay 18 = .ok (.aload_n 0, 1) := by decide +kernel
theorem dX10_lay_19 : decode cX10_lay 19 = .ok (.getfield 37, 3) := by decide +kernel
theorem dX10_lay_22 : decode cX10_lay 22 = .ok (.iload_n 2, 1) := by decide +kernel
theorem dX10_lay_23 : decode cX10_lay 23 = .ok (.iaload, 1) := by decide +kernel
theorem dX10_lay_24 : decode cX10_lay 24 = .ok (.bipush 20, 2) := by decide +kernel
theorem dX10_lay_26 : decode cX10_lay 26 = .ok (.iload_n 1, 1) := by decide +kernel
theorem dX10_lay_27 : decode cX10_lay 27 = .ok (.iadd, 1) := by decide +kernel
theorem dX10_lay_28 : decode cX10_lay 28 = .ok (.if_icmp .eq 6, 3) := by decide +kernel
theorem dX10_lay_31 : decode cX10_lay 31 = .ok (.bipush (-3), 2) := by decide +kernel
theorem dX10_lay_33 : decode cX10_lay 33 = .ok (.ireturn, 1) := by decide +kernel
theorem dX10_lay_34 : decode cX10_lay 34 = .ok (.aload_n 0, 1) := by decide +kernel
theorem dX10_lay_35 : decode cX10_lay 35 = .ok (.getfield 37, 3) := by decide +kernel
theorem dX10_lay_38 : decode cX10_lay 38 = .ok (.iload_n 2, 1) := by decide +kernel
theorem dX10_lay_39 : decode cX10_lay 39 = .ok (.aload_n 0, 1) := by decide +kernel
theorem dX10_lay_40 : decode cX10_lay 40 = .ok (.getfield 31, 3) := by decide +kernel
theorem dX10_lay_43 : decode cX10_lay 43 = .ok (.iload_n 1, 1) := by decide +kernel
theorem dX10_lay_44 : decode cX10_lay 44 = .ok (.iaload, 1) := by decide +kernel
theorem dX10_lay_45 : decode cX10_lay 45 = .ok (.iastore, 1) := by decide +kernel
theorem dX10_lay_46 : decode cX10_lay 46 = .ok (.aload_n 0, 1) := by decide +kernel
theorem dX10_lay_47 : decode cX10_lay 47 = .ok (.iload_n 1, 1) := by decide +kernel
theorem dX10_lay_48 : decode cX10_lay 48 = .ok (.invokevirtual 179, 3) := by decide +kernel
theorem dX10_lay_51 : decode cX10_lay 51 = .ok (.invokestatic 188, 3) := by decide +kernel
theorem dX10_lay_54 : decode cX10_lay 54 = .ok (.ireturn, 1) := by decide +kernel
theorem dX10_roomOf_0 : decode cX10_roomOf 0 = .ok (.bipush (-9), 2) := by decide +kernel
theorem dX10_roomOf_2 : decode cX10_roomOf 2 = .ok (.istore_n 2, 1) := by decide +kernel
theorem dX10_roomOf_3 : decode cX10_roomOf 3 = .ok (.iconst 1, 1) := by decide +kernel
theorem dX10_roomOf_4 : decode cX10_roomOf 4 = .ok (.istore_n 3, 1) := by decide +kernel
theorem dX10_roomOf_5 : decode cX10_roomOf 5 = .ok (.iconst 0, 1) := by decide +kernel
theorem dX10_roomOf_6 : decode cX10_roomOf 6 = .ok (.istore 4, 2) := by decide +kernel
theorem dX10_roomOf_8 : decode cX10_roomOf 8 = .ok (.iload 4, 2) := by decide +kernel
theorem dX10_roomOf_10 : decode cX10_roomOf 10 = .ok (.aload_n 0, 1) := by decide +kernel
theorem dX10_roomOf_11 : decode cX10_roomOf 11 = .ok (.getfield 145, 3) := by decide +kernel
theorem dX10_roomOf_14 : decode cX10_roomOf 14 = .ok (.if_icmp .ge 52, 3) := by decide +kernel
theorem dX10_roomOf_17 : decode cX10_roomOf 17 = .ok (.iload_n 1, 1) := by decide +kernel
theorem dX10_roomOf_18 : decode cX10_roomOf 18 = .ok (.iload 4, 2) := by decide +kernel
theorem dX10_roomOf_20 : decode cX10_roomOf 20 = .ok (.ishr, 1) := by decide +kernel
theorem dX10_roomOf_21 : decode cX10_roomOf 21 = .ok (.iconst 1, 1) := by decide +kernel
theorem dX10_roomOf_22 : decode cX10_roomOf 22 = .ok (.iand, 1) := by decide +kernel
theorem dX10_roomOf_23 : decode cX10_roomOf 23 = .ok (.iconst 1, 1) := by decide +kernel
theorem dX10_roomOf_24 : decode cX10_roomOf 24 = .ok (.if_icmp .ne 36, 3) := by decide +kernel
theorem dX10_roomOf_27 : decode cX10_roomOf 27 = .ok (.iload_n 3, 1) := by decide +kernel
theorem dX10_roomOf_28 : decode cX10_roomOf 28 = .ok (.ifCond .eq 22, 3) := by decide +kernel
theorem dX10_roomOf_31 : decode cX10_roomOf 31 = .ok (.iload_n 2, 1) := by decide +kernel
theorem dX10_roomOf_32 : decode cX10_roomOf 32 = .ok (.ifCond .lt 14, 3) := by decide +kernel
theorem dX10_roomOf_35 : decode cX10_roomOf 35 = .ok (.iload_n 2, 1) := by decide +kernel
theorem dX10_roomOf_36 : decode cX10_roomOf 36 = .ok (.aload_n 0, 1) := by decide +kernel
theorem dX10_roomOf_37 : decode cX10_roomOf 37 = .ok (.getfield 31, 3) := by decide +kernel
theorem dX10_roomOf_40 : decode cX10_roomOf 40 = .ok (.iload 4, 2) := by decide +kernel
theorem dX10_roomOf_42 : decode cX10_roomOf 42 = .ok (.iaload, 1) := by decide +kernel
theorem dX10_roomOf_43 : decode cX10_roomOf 43 = .ok (.if_icmp .ne 7, 3) := by decide +kernel
theorem dX10_roomOf_46 : decode cX10_roomOf 46 = .ok (.iconst 1, 1) := by decide +kernel
theorem dX10_roomOf_47 : decode cX10_roomOf 47 = .ok (.goto 4, 3) := by decide +kernel
theorem dX10_roomOf_50 : decode cX10_roomOf 50 = .ok (.iconst 0, 1) := by decide +kernel
theorem dX10_roomOf_51 : decode cX10_roomOf 51 = .ok (.istore_n 3, 1) := by decide +kernel
theorem dX10_roomOf_52 : decode cX10_roomOf 52 = .ok (.aload_n 0, 1) := by decide +kernel
theorem dX10_roomOf_53 : decode cX10_roomOf 53 = .ok (.getfield 31, 3) := by decide +kernel
theorem dX10_roomOf_56 : decode cX10_roomOf 56 = .ok (.iload 4, 2) := by decide +kernel
theorem dX10_roomOf_58 : decode cX10_roomOf 58 = .ok (.iaload, 1) := by decide +kernel
theorem dX10_roomOf_59 : decode cX10_roomOf 59 = .ok (.istore_n 2, 1) := by decide +kernel
theorem dX10_roomOf_60 : decode cX10_roomOf 60 = .ok (.iinc 4 1, 3) := by decide +kernel
theorem dX10_roomOf_63 : decode cX10_roomOf 63 = .ok (.goto (-55), 3) := by decide +kernel
theorem dX10_roomOf_66 : decode cX10_roomOf 66 = .ok (.iload_n 3, 1) := by decide +kernel
theorem dX10_roomOf_67 : decode cX10_roomOf 67 = .ok (.ifCond .eq 7, 3) := by decide +kernel
theorem dX10_roomOf_70 : decode cX10_roomOf 70 = .ok (.iload_n 2, 1) := by decide +kernel
theorem dX10_roomOf_71 : decode cX10_roomOf 71 = .ok (.goto 5, 3) := by decide +kernel
theorem dX10_roomOf_74 : decode cX10_roomOf 74 = .ok (.bipush (-9), 2) := by decide +kernel
theorem dX10_roomOf_76 : decode cX10_roomOf 76 = .ok (.ireturn, 1) := by decide +kernel
theorem dX10_weightOfAll_0 : decode cX10_weightOfAll 0 = .ok (.iconst 0, 1) := by decide +kernel
theorem dX10_weightOfAll_1 : decode cX10_weightOfAll 1 = .ok (.istore_n 2, 1) := by decide +kernel
theorem dX10_weightOfAll_2 : decode cX10_weightOfAll 2 = .ok (.iconst 0, 1) := by decide +kernel
theorem dX10_weightOfAll_3 : decode cX10_weightOfAll 3 = .ok (.istore_n 3, 1) := by decide +kernel
theorem dX10_weightOfAll_4 : decode cX10_weightOfAll 4 = .ok (.iload_n 3, 1) := by decide +kernel
theorem dX10_weightOfAll_5 : decode cX10_weightOfAll 5 = .ok (.aload_n 0, 1) := by decide +kernel
theorem dX10_weightOfAll_6 : decode cX10_weightOfAll 6 = .ok (.getfield 145, 3) := by decide +kernel
theorem dX10_weightOfAll_9 : decode cX10_weightOfAll 9 = .ok (.if_icmp .ge 30, 3) := by decide +kernel
theorem dX10_weightOfAll_12 : decode cX10_weightOfAll 12 = .ok (.iload_n 2, 1) := by decide +kernel
theorem dX10_weightOfAll_13 : decode cX10_weightOfAll 13 = .ok (.iload_n 1, 1) := by decide +kernel
theorem dX10_weightOfAll_14 : decode cX10_weightOfAll 14 = .ok (.iload_n 3, 1) := by decide +kernel
theorem dX10_weightOfAll_15 : decode cX10_weightOfAll 15 = .ok (.ishr, 1) := by decide +kernel
theorem dX10_weightOfAll_16 : decode cX10_weightOfAll 16 = .ok (.iconst 1, 1) := by decide +kernel
theorem dX10_weightOfAll_17 : decode cX10_weightOfAll 17 = .ok (.iand, 1) := by decide +kernel
theorem dX10_weightOfAll_18 : decode cX10_weightOfAll 18 = .ok (.iconst 1, 1) := by decide +kernel
theorem dX10_weightOfAll_19 : decode cX10_weightOfAll 19 = .ok (.if_icmp .ne 11, 3) := by decide +kernel
theorem dX10_weightOfAll_22 : decode cX10_weightOfAll 22 = .ok (.aload_n 0, 1) := by decide +kernel
theorem dX10_weightOfAll_23 : decode cX10_weightOfAll 23 = .ok (.iload_n 3, 1) := by decide +kernel
theorem dX10_weightOfAll_24 : decode cX10_weightOfAll 24 = .ok (.invokevirtual 182, 3) := by decide +kernel
theorem dX10_weightOfAll_27 : decode cX10_weightOfAll 27 = .ok (.goto 4, 3) := by decide +kernel
theorem dX10_weightOfAll_30 : decode cX10_weightOfAll 30 = .ok (.iconst 0, 1) := by decide +kernel
theorem dX10_weightOfAll_31 : decode cX10_weightOfAll 31 = .ok (.iadd, 1) := by decide +kernel
theorem dX10_weightOfAll_32 : decode cX10_weightOfAll 32 = .ok (.istore_n 2, 1) := by decide +kernel
theorem dX10_weightOfAll_33 : decode cX10_weightOfAll 33 = .ok (.iinc 3 1, 3) := by decide +kernel
theorem dX10_weightOfAll_36 : decode cX10_weightOfAll 36 = .ok (.goto (-32), 3) := by decide +kernel
theorem dX10_weightOfAll_39 : decode cX10_weightOfAll 39 = .ok (.iload_n 2, 1) := by decide +kernel
theorem dX10_weightOfAll_40 : decode cX10_weightOfAll 40 = .ok (.ireturn, 1) := by decide +kernel
theorem dX10_partyBarred_0 : decode cX10_partyBarred 0 = .ok (.iload_n 1, 1) := by decide +kernel
theorem dX10_partyBarred_1 : decode cX10_partyBarred 1 = .ok (.iconst 1, 1) := by decide +kernel
theorem dX10_partyBarred_2 : decode cX10_partyBarred 2 = .ok (.if_icmp .lt 12, 3) := by decide +kernel
theorem dX10_partyBarred_5 : decode cX10_partyBarred 5 = .ok (.iload_n 1, 1) := by decide +kernel
theorem dX10_partyBarred_6 : decode cX10_partyBarred 6 = .ok (.aload_n 0, 1) := by decide +kernel
theorem dX10_partyBarred_7 : decode cX10_partyBarred 7 = .ok (.getfield 145, 3) := by decide +kernel
theorem dX10_partyBarred_10 : decode cX10_partyBarred 10 = .ok (.ishr, 1) := by decide +kernel
theorem dX10_partyBarred_11 : decode cX10_partyBarred 11 = .ok (.ifCond .eq 6, 3) := by decide +kernel
theorem dX10_partyBarred_14 : decode cX10_partyBarred 14 = .ok (.bipush (-2), 2) := by decide +kernel
theorem dX10_partyBarred_16 : decode cX10_partyBarred 16 = .ok (.ireturn, 1) := by decide +kernel
theorem dX10_partyBarred_17 : decode cX10_partyBarred 17 = .ok (.aload_n 0, 1) := by decide +kernel
theorem dX10_partyBarred_18 : decode cX10_partyBarred 18 = .ok (.iload_n 2, 1) := by decide +kernel
theorem dX10_partyBarred_19 : decode cX10_partyBarred 19 = .ok (.invokevirtual 164, 3) := by decide +kernel
theorem dX10_partyBarred_22 : decode cX10_partyBarred 22 = .ok (.ifCond .eq 5, 3) := by decide +kernel
theorem dX10_partyBarred_25 : decode cX10_partyBarred 25 = .ok (.iconst (-1), 1) := by decide +kernel
theorem dX10_partyBarred_26 : decode cX10_partyBarred 26 = .ok (.ireturn, 1) := by decide +kernel
theorem dX10_partyBarred_27 : decode cX10_partyBarred 27 = .ok (.aload_n 0, 1) := by decide +kernel
theorem dX10_partyBarred_28 : decode cX10_partyBarred 28 = .ok (.iload_n 1, 1) := by decide +kernel
theorem dX10_partyBarred_29 : decode cX10_partyBarred 29 = .ok (.invokevirtual 191, 3) := by decide +kernel
theorem dX10_partyBarred_32 : decode cX10_partyBarred 32 = .ok (.istore_n 3, 1) := by decide +kernel
theorem dX10_partyBarred_33 : decode cX10_partyBarred 33 = .ok (.iload_n 3, 1) := by decide +kernel
theorem dX10_partyBarred_34 : decode cX10_partyBarred 34 = .ok (.ifCond .lt 12, 3) := by decide +kernel
theorem dX10_partyBarred_37 : decode cX10_partyBarred 37 = .ok (.aload_n 0, 1) := by decide +kernel
theorem dX10_partyBarred_38 : decode cX10_partyBarred 38 = .ok (.iload_n 2, 1) := by decide +kernel
theorem dX10_partyBarred_39 : decode cX10_partyBarred 39 = .ok (.iload_n 3, 1) := by decide +kernel
theorem dX10_partyBarred_40 : decode cX10_partyBarred 40 = .ok (.invokevirtual 157, 3) := by decide +kernel
theorem dX10_partyBarred_43 : decode cX10_partyBarred 43 = .ok (.ifCond .ge 8, 3) := by decide +kernel
theorem dX10_partyBarred_46 : decode cX10_partyBarred 46 = .ok (.bipush (-3), 2) := by decide +kernel
theorem dX10_partyBarred_48 : decode cX10_partyBarred 48 = .ok (.goto 4, 3) := by decide +kernel
theorem dX10_partyBarred_51 : decode cX10_partyBarred 51 = .ok (.iconst 0, 1) := by decide +kernel
theorem dX10_partyBarred_52 : decode cX10_partyBarred 52 = .ok (.ireturn, 1) := by decide +kernel
theorem dX10_opens_0 : decode cX10_opens 0 = .ok (.aload_n 0, 1) := by decide +kernel
theorem dX10_opens_1 : decode cX10_opens 1 = .ok (.iload_n 1, 1) := by decide +kernel
theorem dX10_opens_2 : decode cX10_opens 2 = .ok (.iload_n 2, 1) := by decide +kernel
theorem dX10_opens_3 : decode cX10_opens 3 = .ok (.invokevirtual 194, 3) := by decide +kernel
theorem dX10_opens_6 : decode cX10_opens 6 = .ok (.istore_n 3, 1) := by decide +kernel
theorem dX10_opens_7 : decode cX10_opens 7 = .ok (.iload_n 3, 1) := by decide +kernel
theorem dX10_opens_8 : decode cX10_opens 8 = .ok (.ifCond .ge 5, 3) := by decide +kernel
theorem dX10_opens_11 : decode cX10_opens 11 = .ok (.iload_n 3, 1) := by decide +kernel
theorem dX10_opens_12 : decode cX10_opens 12 = .ok (.ireturn, 1) := by decide +kernel
theorem dX10_opens_13 : decode cX10_opens 13 = .ok (.aload_n 0, 1) := by decide +kernel
theorem dX10_opens_14 : decode cX10_opens 14 = .ok (.iload_n 2, 1) := by decide +kernel
theorem dX10_opens_15 : decode cX10_opens 15 = .ok (.aload_n 0, 1) := by decide +kernel
theorem dX10_opens_16 : decode cX10_opens 16 = .ok (.iload_n 1, 1) := by decide +kernel
theorem dX10_opens_17 : decode cX10_opens 17 = .ok (.invokevirtual 191, 3) := by decide +kernel
theorem dX10_opens_20 : decode cX10_opens 20 = .ok (.aload_n 0, 1) := by decide +kernel
theorem dX10_opens_21 : decode cX10_opens 21 = .ok (.iload_n 1, 1) := by decide +kernel
theorem dX10_opens_22 : decode cX10_opens 22 = .ok (.invokevirtual 197, 3) := by decide +kernel
theorem dX10_opens_25 : decode cX10_opens 25 = .ok (.invokevirtual 200, 3) := by decide +kernel
theorem dX10_opens_28 : decode cX10_opens 28 = .ok (.ifCond .ge 7, 3) := by decide +kernel
theorem dX10_opens_31 : decode cX10_opens 31 = .ok (.iconst 0, 1) := by decide +kernel
theorem dX10_opens_32 : decode cX10_opens 32 = .ok (.goto 4, 3) := by decide +kernel
theorem dX10_opens_35 : decode cX10_opens 35 = .ok (.iconst 1, 1) := by decide +kernel
theorem dX10_opens_36 : decode cX10_opens 36 = .ok (.ireturn, 1) := by decide +kernel
theorem dX10_pass_0 : decode cX10_pass 0 = .ok (.aload_n 0, 1) := by decide +kernel
theorem dX10_pass_1 : decode cX10_pass 1 = .ok (.iload_n 1, 1) := by decide +kernel
theorem dX10_pass_2 : decode cX10_pass 2 = .ok (.iload_n 2, 1) := by decide +kernel
theorem dX10_pass_3 : decode cX10_pass 3 = .ok (.invokevirtual 194, 3) := by decide +kernel
theorem dX10_pass_6 : decode cX10_pass 6 = .ok (.istore_n 3, 1) := by decide +kernel
theorem dX10_pass_7 : decode cX10_pass 7 = .ok (.iload_n 3, 1) := by decide +kernel
theorem dX10_pass_8 : decode cX10_pass 8 = .ok (.ifCond .ge 5, 3) := by decide +kernel
theorem dX10_pass_11 : decode cX10_pass 11 = .ok (.iload_n 3, 1) := by decide +kernel
theorem dX10_pass_12 : decode cX10_pass 12 = .ok (.ireturn, 1) := by decide +kernel
theorem dX10_pass_13 : decode cX10_pass 13 = .ok (.aload_n 0, 1) := by decide +kernel
theorem dX10_pass_14 : decode cX10_pass 14 = .ok (.iload_n 2, 1) := by decide +kernel
theorem dX10_pass_15 : decode cX10_pass 15 = .ok (.aload_n 0, 1) := by decide +kernel
theorem dX10_pass_16 : decode cX10_pass 16 = .ok (.iload_n 1, 1) := by decide +kernel
theorem dX10_pass_17 : decode cX10_pass 17 = .ok (.invokevirtual 191, 3) := by decide +kernel
theorem dX10_pass_20 : decode cX10_pass 20 = .ok (.aload_n 0, 1) := by decide +kernel
theorem dX10_pass_21 : decode cX10_pass 21 = .ok (.iload_n 1, 1) := by decide +kernel
theorem dX10_pass_22 : decode cX10_pass 22 = .ok (.invokevirtual 197, 3) := by decide +kernel
theorem dX10_pass_25 : decode cX10_pass 25 = .ok (.invokevirtual 200, 3) := by decide +kernel
theorem dX10_pass_28 : decode cX10_pass 28 = .ok (.istore 4, 2) := by decide +kernel
theorem dX10_pass_30 : decode cX10_pass 30 = .ok (.iload 4, 2) := by decide +kernel
theorem dX10_pass_32 : decode cX10_pass 32 = .ok (.ifCond .ge 6, 3) := by decide +kernel
theorem dX10_pass_35 : decode cX10_pass 35 = .ok (.bipush (-3), 2) := by decide +kernel
theorem dX10_pass_37 : decode cX10_pass 37 = .ok (.ireturn, 1) := by decide +kernel
theorem dX10_pass_38 : decode cX10_pass 38 = .ok (.iconst 0, 1) := by decide +kernel
theorem dX10_pass_39 : decode cX10_pass 39 = .ok (.istore 5, 2) := by decide +kernel
theorem dX10_pass_41 : decode cX10_pass 41 = .ok (.iload 5, 2) := by decide +kernel
theorem dX10_pass_43 : decode cX10_pass 43 = .ok (.aload_n 0, 1) := by decide +kernel
theorem dX10_pass_44 : decode cX10_pass 44 = .ok (.getfield 145, 3) := by decide +kernel
theorem dX10_pass_47 : decode cX10_pass 47 = .ok (.if_icmp .ge 38, 3) := by decide +kernel
theorem dX10_pass_50 : decode cX10_pass 50 = .ok (.aload_n 0, 1) := by decide +kernel
theorem dX10_pass_51 : decode cX10_pass 51 = .ok (.getfield 31, 3) := by decide +kernel
theorem dX10_pass_54 : decode cX10_pass 54 = .ok (.iload 5, 2) := by decide +kernel
theorem dX10_pass_56 : decode cX10_pass 56 = .ok (.iload_n 1, 1) := by decide +kernel
theorem dX10_pass_57 : decode cX10_pass 57 = .ok (.iload 5, 2) := by decide +kernel
theorem dX10_pass_59 : decode cX10_pass 59 = .ok (.ishr, 1) := by decide +kernel
theorem dX10_pass_60 : decode cX10_pass 60 = .ok (.iconst 1, 1) := by decide +kernel
theorem dX10_pass_61 : decode cX10_pass 61 = .ok (.iand, 1) := by decide +kernel
theorem dX10_pass_62 : decode cX10_pass 62 = .ok (.iconst 1, 1) := by decide +kernel
theorem dX10_pass_63 : decode cX10_pass 63 = .ok (.if_icmp .ne 8, 3) := by decide +kernel
theorem dX10_pass_66 : decode cX10_pass 66 = .ok (.iload 4, 2) := by decide +kernel
theorem dX10_pass_68 : decode cX10_pass 68 = .ok (.goto 10, 3) := by decide +kernel
theorem dX10_pass_71 : decode cX10_pass 71 = .ok (.aload_n 0, 1) := by decide +kernel
theorem dX10_pass_72 : decode cX10_pass 72 = .ok (.getfield 31, 3) := by decide +kernel
theorem dX10_pass_75 : decode cX10_pass 75 = .ok (.iload 5, 2) := by decide +kernel
theorem dX10_pass_77 : decode cX10_pass 77 = .ok (.iaload, 1) := by decide +kernel
theorem dX10_pass_78 : decode cX10_pass 78 = .ok (.iastore, 1) := by decide +kernel
theorem dX10_pass_79 : decode cX10_pass 79 = .ok (.iinc 5 1, 3) := by decide +kernel
theorem dX10_pass_82 : decode cX10_pass 82 = .ok (.goto (-41), 3) := by decide +kernel
theorem dX10_pass_85 : decode cX10_pass 85 = .ok (.iload 4, 2) := by decide +kernel
theorem dX10_pass_87 : decode cX10_pass 87 = .ok (.ireturn, 1) := by decide +kernel
theorem dX10_weigh_0 : decode cX10_weigh 0 = .ok (.aload_n 0, 1) := by decide +kernel
theorem dX10_weigh_1 : decode cX10_weigh 1 = .ok (.iload_n 1, 1) := by decide +kernel
theorem dX10_weigh_2 : decode cX10_weigh 2 = .ok (.invokevirtual 176, 3) := by decide +kernel
theorem dX10_weigh_5 : decode cX10_weigh 5 = .ok (.ifCond .eq 5, 3) := by decide +kernel
theorem dX10_weigh_8 : decode cX10_weigh 8 = .ok (.iconst (-1), 1) := by decide +kernel
theorem dX10_weigh_9 : decode cX10_weigh 9 = .ok (.ireturn, 1) := by decide +kernel
theorem dX10_weigh_10 : decode cX10_weigh 10 = .ok (.iload_n 2, 1) := by decide +kernel
theorem dX10_weigh_11 : decode cX10_weigh 11 = .ok (.i2l, 1) := by decide +kernel
theorem dX10_weigh_12 : decode cX10_weigh 12 = .ok (.ldc2_w 170, 3) := by decide +kernel
theorem dX10_weigh_15 : decode cX10_weigh 15 = .ok (.ldc2_w 172, 3) := by decide +kernel
theorem dX10_weigh_18 : decode cX10_weigh 18 = .ok (.invokestatic 97, 3) := by decide +kernel
theorem dX10_weigh_21 : decode cX10_weigh 21 = .ok (.ifCond .ne 6, 3) := by decide +kernel
theorem dX10_weigh_24 : decode cX10_weigh 24 = .ok (.bipush (-2), 2) := by decide +kernel
theorem dX10_weigh_26 : decode cX10_weigh 26 = .ok (.ireturn, 1) := by decide +kernel
theorem dX10_weigh_27 : decode cX10_weigh 27 = .ok (.aload_n 0, 1) := by decide +kernel
theorem dX10_weigh_28 : decode cX10_weigh 28 = .ok (.getfield 28, 3) := by decide +kernel
theorem dX10_weigh_31 : decode cX10_weigh 31 = .ok (.iload_n 1, 1) := by decide +kernel
theorem dX10_weigh_32 : decode cX10_weigh 32 = .ok (.iaload, 1) := by decide +kernel
theorem dX10_weigh_33 : decode cX10_weigh 33 = .ok (.istore_n 3, 1) := by decide +kernel
theorem dX10_weigh_34 : decode cX10_weigh 34 = .ok (.aload_n 0, 1) := by decide +kernel
theorem dX10_weigh_35 : decode cX10_weigh 35 = .ok (.getfield 28, 3) := by decide +kernel
theorem dX10_weigh_38 : decode cX10_weigh 38 = .ok (.iload_n 1, 1) := by decide +kernel
theorem dX10_weigh_39 : decode cX10_weigh 39 = .ok (.iload_n 2, 1) := by decide +kernel
theorem dX10_weigh_40 : decode cX10_weigh 40 = .ok (.iastore, 1) := by decide +kernel
theorem dX10_weigh_41 : decode cX10_weigh 41 = .ok (.iload_n 3, 1) := by decide +kernel
theorem dX10_weigh_42 : decode cX10_weigh 42 = .ok (.ireturn, 1) := by decide +kernel
theorem dX10_stateNow_0 : decode cX10_stateNow 0 = .ok (.iconst 0, 1) := by decide +kernel
theorem dX10_stateNow_1 : decode cX10_stateNow 1 = .ok (.istore_n 1, 1) := by decide +kernel
theorem dX10_stateNow_2 : decode cX10_stateNow 2 = .ok (.iconst 3, 1) := by decide +kernel
theorem dX10_stateNow_3 : decode cX10_stateNow 3 = .ok (.istore_n 2, 1) := by decide +kernel
theorem dX10_stateNow_4 : decode cX10_stateNow 4 = .ok (.iload_n 2, 1) := by decide +kernel
theorem dX10_stateNow_5 : decode cX10_stateNow 5 = .ok (.ifCond .lt 42, 3) := by decide +kernel
theorem dX10_stateNow_8 : decode cX10_stateNow 8 = .ok (.iload_n 1, 1) := by decide +kernel
theorem dX10_stateNow_9 : decode cX10_stateNow 9 = .ok (.bipush 7, 2) := by decide +kernel
theorem dX10_stateNow_11 : decode cX10_stateNow 11 = .ok (.imul, 1) := by decide +kernel
theorem dX10_stateNow_12 : decode cX10_stateNow 12 = .ok (.iload_n 2, 1) := by decide +kernel
theorem dX10_stateNow_13 : decode cX10_stateNow 13 = .ok (.aload_n 0, 1) := by decide +kernel
theorem dX10_stateNow_14 : decode cX10_stateNow 14 = .ok (.getfield 204, 3) := by decide +kernel
theorem dX10_stateNow_17 : decode cX10_stateNow 17 = .ok (.if_icmp .ge 21, 3) := by decide +kernel
theorem dX10_stateNow_20 : decode cX10_stateNow 20 = .ok (.aload_n 0, 1) := by decide +kernel
theorem dX10_stateNow_21 : decode cX10_stateNow 21 = .ok (.getfield 46, 3) := by decide +kernel
theorem dX10_stateNow_24 : decode cX10_stateNow 24 = .ok (.iload_n 2, 1) := by decide +kernel
theorem dX10_stateNow_25 : decode cX10_stateNow 25 = .ok (.baload, 1) := by decide +kernel
theorem dX10_stateNow_26 : decode cX10_stateNow 26 = .ok (.ifCond .eq 12, 3) := by decide +kernel
theorem dX10_stateNow_29 : decode cX10_stateNow 29 = .ok (.aload_n 0, 1) := by decide +kernel
theorem dX10_stateNow_30 : decode cX10_stateNow 30 = .ok (.getfield 40, 3) := by decide +kernel
theorem dX10_stateNow_33 : decode cX10_stateNow 33 = .ok (.iload_n 2, 1) := by decide +kernel
theorem dX10_stateNow_34 : decode cX10_stateNow 34 = .ok (.iaload, 1) := by decide +kernel
theorem dX10_stateNow_35 : decode cX10_stateNow 35 = .ok (.goto 4, 3) := by decide +kernel
theorem dX10_stateNow_38 : decode cX10_stateNow 38 = .ok (.iconst 0, 1) := by decide +kernel
theorem dX10_stateNow_39 : decode cX10_stateNow 39 = .ok (.iadd, 1) := by decide +kernel
theorem dX10_stateNow_40 : decode cX10_stateNow 40 = .ok (.istore_n 1, 1) := by decide +kernel
theorem dX10_stateNow_41 : decode cX10_stateNow 41 = .ok (.iinc 2 (-1), 3) := by decide +kernel
theorem dX10_stateNow_44 : decode cX10_stateNow 44 = .ok (.goto (-40), 3) := by decide +kernel
theorem dX10_stateNow_47 : decode cX10_stateNow 47 = .ok (.iload_n 1, 1) := by decide +kernel
theorem dX10_stateNow_48 : decode cX10_stateNow 48 = .ok (.bipush 6, 2) := by decide +kernel
theorem dX10_stateNow_50 : decode cX10_stateNow 50 = .ok (.imul, 1) := by decide +kernel
theorem dX10_stateNow_51 : decode cX10_stateNow 51 = .ok (.aload_n 0, 1) := by decide +kernel
theorem dX10_stateNow_52 : decode cX10_stateNow 52 = .ok (.getfield 207, 3) := by decide +kernel
theorem dX10_stateNow_55 : decode cX10_stateNow 55 = .ok (.iadd, 1) := by decide +kernel
theorem dX10_stateNow_56 : decode cX10_stateNow 56 = .ok (.ireturn, 1) := by decide +kernel
theorem dX10_takeState_0 : decode cX10_takeState 0 = .ok (.aload_n 0, 1) := by decide +kernel
theorem dX10_takeState_1 : decode cX10_takeState 1 = .ok (.iload_n 1, 1) := by decide +kernel
theorem dX10_takeState_2 : decode cX10_takeState 2 = .ok (.bipush 6, 2) := by decide +kernel
theorem dX10_takeState_4 : decode cX10_takeState 4 = .ok (.irem, 1) := by decide +kernel
theorem dX10_takeState_5 : decode cX10_takeState 5 = .ok (.putfield 207, 3) := by decide +kernel
theorem dX10_takeState_8 : decode cX10_takeState 8 = .ok (.iload_n 1, 1) := by decide +kernel
theorem dX10_takeState_9 : decode cX10_takeState 9 = .ok (.bipush 6, 2) := by decide +kernel
theorem dX10_takeState_11 : decode cX10_takeState 11 = .ok (.idiv, 1) := by decide +kernel
theorem dX10_takeState_12 : decode cX10_takeState 12 = .ok (.istore_n 2, 1) := by decide +kernel
theorem dX10_takeState_13 : decode cX10_takeState 13 = .ok (.iconst 0, 1) := by decide +kernel
theorem dX10_takeState_14 : decode cX10_takeState 14 = .ok (.istore_n 3, 1) := by decide +kernel
theorem dX10_takeState_15 : decode cX10_takeState 15 = .ok (.iload_n 3, 1) := by decide +kernel
theorem dX10_takeState_16 : decode cX10_takeState 16 = .ok (.iconst 4, 1) := by decide +kernel
theorem dX10_takeState_17 : decode cX10_takeState 17 = .ok (.if_icmp .ge 41, 3) := by decide +kernel
theorem dX10_takeState_20 : decode cX10_takeState 20 = .ok (.iload_n 3, 1) := by decide +kernel
theorem dX10_takeState_21 : decode cX10_takeState 21 = .ok (.aload_n 0, 1) := by decide +kernel
theorem dX10_takeState_22 : decode cX10_takeState 22 = .ok (.getfield 204, 3) := by decide +kernel
theorem dX10_takeState_25 : decode cX10_takeState 25 = .ok (.if_icmp .ge 22, 3) := by decide +kernel
theorem dX10_takeState_28 : decode cX10_takeState 28 = .ok (.aload_n 0, 1) := by decide +kernel
theorem dX10_takeState_29 : decode cX10_takeState 29 = .ok (.getfield 46, 3) := by decide +kernel
theorem dX10_takeState_32 : decode cX10_takeState 32 = .ok (.iload_n 3, 1) := by decide +kernel
theorem dX10_takeState_33 : decode cX10_takeState 33 = .ok (.baload, 1) := by decide +kernel
theorem dX10_takeState_34 : decode cX10_takeState 34 = .ok (.ifCond .eq 13, 3) := by decide +kernel
theorem dX10_takeState_37 : decode cX10_takeState 37 = .ok (.aload_n 0, 1) := by decide +kernel
theorem dX10_takeState_38 : decode cX10_takeState 38 = .ok (.getfield 40, 3) := by decide +kernel
theorem dX10_takeState_41 : decode cX10_takeState 41 = .ok (.iload_n 3, 1) := by decide +kernel
theorem dX10_takeState_42 : decode cX10_takeState 42 = .ok (.iload_n 2, 1) := by decide +kernel
theorem dX10_takeState_43 : decode cX10_takeState 43 = .ok (.bipush 7, 2) := by decide +kernel
theorem dX10_takeState_45 : decode cX10_takeState 45 = .ok (.irem, 1) := by decide +kernel
theorem dX10_takeState_46 : decode cX10_takeState 46 = .ok (.iastore, 1) := by decide +kernel
theorem dX10_takeState_47 : decode cX10_takeState 47 = .ok (.iload_n 2, 1) := by decide +kernel
theorem dX10_takeState_48 : decode cX10_takeState 48 = .ok (.bipush 7, 2) := by decide +kernel
theorem dX10_takeState_50 : decode cX10_takeState 50 = .ok (.idiv, 1) := by decide +kernel
theorem dX10_takeState_51 : decode cX10_takeState 51 = .ok (.istore_n 2, 1) := by decide +kernel
theorem dX10_takeState_52 : decode cX10_takeState 52 = .ok (.iinc 3 1, 3) := by decide +kernel
theorem dX10_takeState_55 : decode cX10_takeState 55 = .ok (.goto (-40), 3) := by decide +kernel
theorem dX10_takeState_58 : decode cX10_takeState 58 = .ok (.return_, 1) := by decide +kernel
theorem dX10_add_0 : decode cX10_add 0 = .ok (.aload_n 0, 1) := by decide +kernel
theorem dX10_add_1 : decode cX10_add 1 = .ok (.invokevirtual 210, 3) := by decide +kernel
theorem dX10_add_4 : decode cX10_add 4 = .ok (.istore_n 3, 1) := by decide +kernel
theorem dX10_add_5 : decode cX10_add 5 = .ok (.aload_n 0, 1) := by decide +kernel
theorem dX10_add_6 : decode cX10_add 6 = .ok (.getfield 59, 3) := by decide +kernel
theorem dX10_add_9 : decode cX10_add 9 = .ok (.iload_n 3, 1) := by decide +kernel
theorem dX10_add_10 : decode cX10_add 10 = .ok (.baload, 1) := by decide +kernel
theorem dX10_add_11 : decode cX10_add 11 = .ok (.ifCond .ne 50, 3) := by decide +kernel
theorem dX10_add_14 : decode cX10_add 14 = .ok (.aload_n 0, 1) := by decide +kernel
theorem dX10_add_15 : decode cX10_add 15 = .ok (.getfield 59, 3) := by decide +kernel
theorem dX10_add_18 : decode cX10_add 18 = .ok (.iload_n 3, 1) := by decide +kernel
theorem dX10_add_19 : decode cX10_add 19 = .ok (.iconst 1, 1) := by decide +kernel
theorem dX10_add_20 : decode cX10_add 20 = .ok (.bastore, 1) := by decide +kernel
theorem dX10_add_21 : decode cX10_add 21 = .ok (.aload_n 0, 1) := by decide +kernel
theorem dX10_add_22 : decode cX10_add 22 = .ok (.getfield 50, 3) := by decide +kernel
theorem dX10_add_25 : decode cX10_add 25 = .ok (.aload_n 0, 1) := by decide +kernel
theorem dX10_add_26 : decode cX10_add 26 = .ok (.getfield 214, 3) := by decide +kernel
theorem dX10_add_29 : decode cX10_add 29 = .ok (.iload_n 3, 1) := by decide +kernel
theorem dX10_add_30 : decode cX10_add 30 = .ok (.iastore, 1) := by decide +kernel
theorem dX10_add_31 : decode cX10_add 31 = .ok (.aload_n 0, 1) := by decide +kernel
theorem dX10_add_32 : decode cX10_add 32 = .ok (.getfield 53, 3) := by decide +kernel
theorem dX10_add_35 : decode cX10_add 35 = .ok (.aload_n 0, 1) := by decide +kernel
theorem dX10_add_36 : decode cX10_add 36 = .ok (.getfield 214, 3) := by decide +kernel
