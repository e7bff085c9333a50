theorem dX10_add_39 : decode cX10_add 39 = .ok (.iload_n 1, 1) := by decide +kernel
theorem dX10_add_40 : decode cX10_add 40 = .ok (.iastore, 1) := by decide +kernel
theorem dX10_add_41 : decode cX10_add 41 = .ok (.aload_n 0, 1) := by decide +kernel
theorem dX10_add_42 : decode cX10_add 42 = .ok (.getfield 56, 3) := by decide +kernel
theorem dX10_add_45 : decode cX10_add 45 = .ok (.aload_n 0, 1) := by decide +kernel
theorem dX10_add_46 : decode cX10_add 46 = .ok (.getfield 214, 3) := by decide +kernel
theorem dX10_add_49 : decode cX10_add 49 = .ok (.iload_n 2, 1) := by decide +kernel
theorem dX10_add_50 : decode cX10_add 50 = .ok (.iastore, 1) := by decide +kernel
theorem dX10_add_51 : decode cX10_add 51 = .ok (.aload_n 0, 1) := by decide +kernel
theorem dX10_add_52 : decode cX10_add 52 = .ok (.dup, 1) := by decide +kernel
theorem dX10_add_53 : decode cX10_add 53 = .ok (.getfield 214, 3) := by decide +kernel
theorem dX10_add_56 : decode cX10_add 56 = .ok (.iconst 1, 1) := by decide +kernel
theorem dX10_add_57 : decode cX10_add 57 = .ok (.iadd, 1) := by decide +kernel
theorem dX10_add_58 : decode cX10_add 58 = .ok (.putfield 214, 3) := by decide +kernel
theorem dX10_add_61 : decode cX10_add 61 = .ok (.return_, 1) := by decide +kernel
theorem dX10_carriedNow_0 : decode cX10_carriedNow 0 = .ok (.iconst 0, 1) := by decide +kernel
theorem dX10_carriedNow_1 : decode cX10_carriedNow 1 = .ok (.istore_n 1, 1) := by decide +kernel
theorem dX10_carriedNow_2 : decode cX10_carriedNow 2 = .ok (.iconst 0, 1) := by decide +kernel
theorem dX10_carriedNow_3 : decode cX10_carriedNow 3 = .ok (.istore_n 2, 1) := by decide +kernel
theorem dX10_carriedNow_4 : decode cX10_carriedNow 4 = .ok (.iload_n 2, 1) := by decide +kernel
theorem dX10_carriedNow_5 : decode cX10_carriedNow 5 = .ok (.aload_n 0, 1) := by decide +kernel
theorem dX10_carriedNow_6 : decode cX10_carriedNow 6 = .ok (.getfield 204, 3) := by decide +kernel
theorem dX10_carriedNow_9 : decode cX10_carriedNow 9 = .ok (.if_icmp .ge 37, 3) := by decide +kernel
theorem dX10_carriedNow_12 : decode cX10_carriedNow 12 = .ok (.iload_n 1, 1) := by decide +kernel
theorem dX10_carriedNow_13 : decode cX10_carriedNow 13 = .ok (.aload_n 0, 1) := by decide +kernel
theorem dX10_carriedNow_14 : decode cX10_carriedNow 14 = .ok (.getfield 46, 3) := by decide +kernel
theorem dX10_carriedNow_17 : decode cX10_carriedNow 17 = .ok (.iload_n 2, 1) := by decide +kernel
theorem dX10_carriedNow_18 : decode cX10_carriedNow 18 = .ok (.baload, 1) := by decide +kernel
theorem dX10_carriedNow_19 : decode cX10_carriedNow 19 = .ok (.ifCond .eq 18, 3) := by decide +kernel
theorem dX10_carriedNow_22 : decode cX10_carriedNow 22 = .ok (.aload_n 0, 1) := by decide +kernel
theorem dX10_carriedNow_23 : decode cX10_carriedNow 23 = .ok (.getfield 40, 3) := by decide +kernel
theorem dX10_carriedNow_26 : decode cX10_carriedNow 26 = .ok (.iload_n 2, 1) := by decide +kernel
theorem dX10_carriedNow_27 : decode cX10_carriedNow 27 = .ok (.iaload, 1) := by decide +kernel
theorem dX10_carriedNow_28 : decode cX10_carriedNow 28 = .ok (.bipush 6, 2) := by decide +kernel
theorem dX10_carriedNow_30 : decode cX10_carriedNow 30 = .ok (.if_icmp .ne 7, 3) := by decide +kernel
theorem dX10_carriedNow_33 : decode cX10_carriedNow 33 = .ok (.iconst 1, 1) := by decide +kernel
theorem dX10_carriedNow_34 : decode cX10_carriedNow 34 = .ok (.goto 4, 3) := by decide +kernel
theorem dX10_carriedNow_37 : decode cX10_carriedNow 37 = .ok (.iconst 0, 1) := by decide +kernel
theorem dX10_carriedNow_38 : decode cX10_carriedNow 38 = .ok (.iadd, 1) := by decide +kernel
theorem dX10_carriedNow_39 : decode cX10_carriedNow 39 = .ok (.istore_n 1, 1) := by decide +kernel
theorem dX10_carriedNow_40 : decode cX10_carriedNow 40 = .ok (.iinc 2 1, 3) := by decide +kernel
theorem dX10_carriedNow_43 : decode cX10_carriedNow 43 = .ok (.goto (-39), 3) := by decide +kernel
theorem dX10_carriedNow_46 : decode cX10_carriedNow 46 = .ok (.iload_n 1, 1) := by decide +kernel
theorem dX10_carriedNow_47 : decode cX10_carriedNow 47 = .ok (.ireturn, 1) := by decide +kernel
theorem dX10_weightNow_0 : decode cX10_weightNow 0 = .ok (.aload_n 0, 1) := by decide +kernel
theorem dX10_weightNow_1 : decode cX10_weightNow 1 = .ok (.getfield 217, 3) := by decide +kernel
theorem dX10_weightNow_4 : decode cX10_weightNow 4 = .ok (.istore_n 1, 1) := by decide +kernel
theorem dX10_weightNow_5 : decode cX10_weightNow 5 = .ok (.iconst 0, 1) := by decide +kernel
theorem dX10_weightNow_6 : decode cX10_weightNow 6 = .ok (.istore_n 2, 1) := by decide +kernel
theorem dX10_weightNow_7 : decode cX10_weightNow 7 = .ok (.iload_n 2, 1) := by decide +kernel
theorem dX10_weightNow_8 : decode cX10_weightNow 8 = .ok (.aload_n 0, 1) := by decide +kernel
theorem dX10_weightNow_9 : decode cX10_weightNow 9 = .ok (.getfield 204, 3) := by decide +kernel
theorem dX10_weightNow_12 : decode cX10_weightNow 12 = .ok (.if_icmp .ge 42, 3) := by decide +kernel
theorem dX10_weightNow_15 : decode cX10_weightNow 15 = .ok (.iload_n 1, 1) := by decide +kernel
theorem dX10_weightNow_16 : decode cX10_weightNow 16 = .ok (.aload_n 0, 1) := by decide +kernel
theorem dX10_weightNow_17 : decode cX10_weightNow 17 = .ok (.getfield 46, 3) := by decide +kernel
theorem dX10_weightNow_20 : decode cX10_weightNow 20 = .ok (.iload_n 2, 1) := by decide +kernel
theorem dX10_weightNow_21 : decode cX10_weightNow 21 = .ok (.baload, 1) := by decide +kernel
theorem dX10_weightNow_22 : decode cX10_weightNow 22 = .ok (.ifCond .eq 23, 3) := by decide +kernel
theorem dX10_weightNow_25 : decode cX10_weightNow 25 = .ok (.aload_n 0, 1) := by decide +kernel
theorem dX10_weightNow_26 : decode cX10_weightNow 26 = .ok (.getfield 40, 3) := by decide +kernel
theorem dX10_weightNow_29 : decode cX10_weightNow 29 = .ok (.iload_n 2, 1) := by decide +kernel
theorem dX10_weightNow_30 : decode cX10_weightNow 30 = .ok (.iaload, 1) := by decide +kernel
theorem dX10_weightNow_31 : decode cX10_weightNow 31 = .ok (.bipush 6, 2) := by decide +kernel
theorem dX10_weightNow_33 : decode cX10_weightNow 33 = .ok (.if_icmp .ne 12, 3) := by decide +kernel
theorem dX10_weightNow_36 : decode cX10_weightNow 36 = .ok (.aload_n 0, 1) := by decide +kernel
theorem dX10_weightNow_37 : decode cX10_weightNow 37 = .ok (.getfield 43, 3) := by decide +kernel
theorem dX10_weightNow_40 : decode cX10_weightNow 40 = .ok (.iload_n 2, 1) := by decide +kernel
theorem dX10_weightNow_41 : decode cX10_weightNow 41 = .ok (.iaload, 1) := by decide +kernel
theorem dX10_weightNow_42 : decode cX10_weightNow 42 = .ok (.goto 4, 3) := by decide +kernel
theorem dX10_weightNow_45 : decode cX10_weightNow 45 = .ok (.iconst 0, 1) := by decide +kernel
theorem dX10_weightNow_46 : decode cX10_weightNow 46 = .ok (.iadd, 1) := by decide +kernel
theorem dX10_weightNow_47 : decode cX10_weightNow 47 = .ok (.istore_n 1, 1) := by decide +kernel
theorem dX10_weightNow_48 : decode cX10_weightNow 48 = .ok (.iinc 2 1, 3) := by decide +kernel
theorem dX10_weightNow_51 : decode cX10_weightNow 51 = .ok (.goto (-44), 3) := by decide +kernel
theorem dX10_weightNow_54 : decode cX10_weightNow 54 = .ok (.iload_n 1, 1) := by decide +kernel
theorem dX10_weightNow_55 : decode cX10_weightNow 55 = .ok (.ireturn, 1) := by decide +kernel
theorem dX10_spread_0 : decode cX10_spread 0 = .ok (.aload_n 0, 1) := by decide +kernel
theorem dX10_spread_1 : decode cX10_spread 1 = .ok (.getfield 50, 3) := by decide +kernel
theorem dX10_spread_4 : decode cX10_spread 4 = .ok (.iload_n 1, 1) := by decide +kernel
theorem dX10_spread_5 : decode cX10_spread 5 = .ok (.iaload, 1) := by decide +kernel
theorem dX10_spread_6 : decode cX10_spread 6 = .ok (.istore_n 2, 1) := by decide +kernel
theorem dX10_spread_7 : decode cX10_spread 7 = .ok (.iconst 0, 1) := by decide +kernel
theorem dX10_spread_8 : decode cX10_spread 8 = .ok (.istore_n 3, 1) := by decide +kernel
theorem dX10_spread_9 : decode cX10_spread 9 = .ok (.iload_n 3, 1) := by decide +kernel
theorem dX10_spread_10 : decode cX10_spread 10 = .ok (.aload_n 0, 1) := by decide +kernel
theorem dX10_spread_11 : decode cX10_spread 11 = .ok (.getfield 204, 3) := by decide +kernel
theorem dX10_spread_14 : decode cX10_spread 14 = .ok (.if_icmp .ge 60, 3) := by decide +kernel
theorem dX10_spread_17 : decode cX10_spread 17 = .ok (.aload_n 0, 1) := by decide +kernel
theorem dX10_spread_18 : decode cX10_spread 18 = .ok (.iload_n 2, 1) := by decide +kernel
theorem dX10_spread_19 : decode cX10_spread 19 = .ok (.invokevirtual 220, 3) := by decide +kernel
theorem dX10_spread_22 : decode cX10_spread 22 = .ok (.aload_n 0, 1) := by decide +kernel
theorem dX10_spread_23 : decode cX10_spread 23 = .ok (.getfield 46, 3) := by decide +kernel
theorem dX10_spread_26 : decode cX10_spread 26 = .ok (.iload_n 3, 1) := by decide +kernel
theorem dX10_spread_27 : decode cX10_spread 27 = .ok (.baload, 1) := by decide +kernel
theorem dX10_spread_28 : decode cX10_spread 28 = .ok (.ifCond .eq 40, 3) := by decide +kernel
theorem dX10_spread_31 : decode cX10_spread 31 = .ok (.aload_n 0, 1) := by decide +kernel
theorem dX10_spread_32 : decode cX10_spread 32 = .ok (.getfield 40, 3) := by decide +kernel
theorem dX10_spread_35 : decode cX10_spread 35 = .ok (.iload_n 3, 1) := by decide +kernel
theorem dX10_spread_36 : decode cX10_spread 36 = .ok (.iaload, 1) := by decide +kernel
theorem dX10_spread_37 : decode cX10_spread 37 = .ok (.aload_n 0, 1) := by decide +kernel
theorem dX10_spread_38 : decode cX10_spread 38 = .ok (.getfield 207, 3) := by decide +kernel
theorem dX10_spread_41 : decode cX10_spread 41 = .ok (.if_icmp .ne 27, 3) := by decide +kernel
theorem dX10_spread_44 : decode cX10_spread 44 = .ok (.aload_n 0, 1) := by decide +kernel
theorem dX10_spread_45 : decode cX10_spread 45 = .ok (.invokevirtual 224, 3) := by decide +kernel
theorem dX10_spread_48 : decode cX10_spread 48 = .ok (.iconst 2, 1) := by decide +kernel
theorem dX10_spread_49 : decode cX10_spread 49 = .ok (.if_icmp .ge 19, 3) := by decide +kernel
theorem dX10_spread_52 : decode cX10_spread 52 = .ok (.aload_n 0, 1) := by decide +kernel
theorem dX10_spread_53 : decode cX10_spread 53 = .ok (.getfield 40, 3) := by decide +kernel
theorem dX10_spread_56 : decode cX10_spread 56 = .ok (.iload_n 3, 1) := by decide +kernel
theorem dX10_spread_57 : decode cX10_spread 57 = .ok (.bipush 6, 2) := by decide +kernel
theorem dX10_spread_59 : decode cX10_spread 59 = .ok (.iastore, 1) := by decide +kernel
theorem dX10_spread_60 : decode cX10_spread 60 = .ok (.aload_n 0, 1) := by decide +kernel
theorem dX10_spread_61 : decode cX10_spread 61 = .ok (.iload_n 1, 1) := by decide +kernel
theorem dX10_spread_62 : decode cX10_spread 62 = .ok (.iconst 0, 1) := by decide +kernel
theorem dX10_spread_63 : decode cX10_spread 63 = .ok (.iload_n 3, 1) := by decide +kernel
theorem dX10_spread_64 : decode cX10_spread 64 = .ok (.iadd, 1) := by decide +kernel
theorem dX10_spread_65 : decode cX10_spread 65 = .ok (.invokevirtual 227, 3) := by decide +kernel
theorem dX10_spread_68 : decode cX10_spread 68 = .ok (.iinc 3 1, 3) := by decide +kernel
theorem dX10_spread_71 : decode cX10_spread 71 = .ok (.goto (-62), 3) := by decide +kernel
theorem dX10_spread_74 : decode cX10_spread 74 = .ok (.iconst 0, 1) := by decide +kernel
theorem dX10_spread_75 : decode cX10_spread 75 = .ok (.istore_n 3, 1) := by decide +kernel
theorem dX10_spread_76 : decode cX10_spread 76 = .ok (.iload_n 3, 1) := by decide +kernel
theorem dX10_spread_77 : decode cX10_spread 77 = .ok (.aload_n 0, 1) := by decide +kernel
theorem dX10_spread_78 : decode cX10_spread 78 = .ok (.getfield 204, 3) := by decide +kernel
theorem dX10_spread_81 : decode cX10_spread 81 = .ok (.if_icmp .ge 53, 3) := by decide +kernel
theorem dX10_spread_84 : decode cX10_spread 84 = .ok (.aload_n 0, 1) := by decide +kernel
theorem dX10_spread_85 : decode cX10_spread 85 = .ok (.iload_n 2, 1) := by decide +kernel
theorem dX10_spread_86 : decode cX10_spread 86 = .ok (.invokevirtual 220, 3) := by decide +kernel
theorem dX10_spread_89 : decode cX10_spread 89 = .ok (.aload_n 0, 1) := by decide +kernel
theorem dX10_spread_90 : decode cX10_spread 90 = .ok (.getfield 46, 3) := by decide +kernel
theorem dX10_spread_93 : decode cX10_spread 93 = .ok (.iload_n 3, 1) := by decide +kernel
theorem dX10_spread_94 : decode cX10_spread 94 = .ok (.baload, 1) := by decide +kernel
theorem dX10_spread_95 : decode cX10_spread 95 = .ok (.ifCond .eq 33, 3) := by decide +kernel
theorem dX10_spread_98 : decode cX10_spread 98 = .ok (.aload_n 0, 1) := by decide +kernel
theorem dX10_spread_99 : decode cX10_spread 99 = .ok (.getfield 40, 3) := by decide +kernel
theorem dX10_spread_102 : decode cX10_spread 102 = .ok (.iload_n 3, 1) := by decide +kernel
theorem dX10_spread_103 : decode cX10_spread 103 = .ok (.iaload, 1) := by decide +kernel
theorem dX10_spread_104 : decode cX10_spread 104 = .ok (.bipush 6, 2) := by decide +kernel
theorem dX10_spread_106 : decode cX10_spread 106 = .ok (.if_icmp .ne 22, 3) := by decide +kernel
theorem dX10_spread_109 : decode cX10_spread 109 = .ok (.aload_n 0, 1) := by decide +kernel
theorem dX10_spread_110 : decode cX10_spread 110 = .ok (.getfield 40, 3) := by decide +kernel
theorem dX10_spread_113 : decode cX10_spread 113 = .ok (.iload_n 3, 1) := by decide +kernel
theorem dX10_spread_114 : decode cX10_spread 114 = .ok (.aload_n 0, 1) := by decide +kernel
theorem dX10_spread_115 : decode cX10_spread 115 = .ok (.getfield 207, 3) := by decide +kernel
theorem dX10_spread_118 : decode cX10_spread 118 = .ok (.iastore, 1) := by decide +kernel
theorem dX10_spread_119 : decode cX10_spread 119 = .ok (.aload_n 0, 1) := by decide +kernel
theorem dX10_spread_120 : decode cX10_spread 120 = .ok (.iload_n 1, 1) := by decide +kernel
theorem dX10_spread_121 : decode cX10_spread 121 = .ok (.bipush 10, 2) := by decide +kernel
theorem dX10_spread_123 : decode cX10_spread 123 = .ok (.iload_n 3, 1) := by decide +kernel
theorem dX10_spread_124 : decode cX10_spread 124 = .ok (.iadd, 1) := by decide +kernel
theorem dX10_spread_125 : decode cX10_spread 125 = .ok (.invokevirtual 227, 3) := by decide +kernel
theorem dX10_spread_128 : decode cX10_spread 128 = .ok (.iinc 3 1, 3) := by decide +kernel
theorem dX10_spread_131 : decode cX10_spread 131 = .ok (.goto (-55), 3) := by decide +kernel
theorem dX10_spread_134 : decode cX10_spread 134 = .ok (.iconst 0, 1) := by decide +kernel
theorem dX10_spread_135 : decode cX10_spread 135 = .ok (.istore_n 3, 1) := by decide +kernel
theorem dX10_spread_136 : decode cX10_spread 136 = .ok (.iload_n 3, 1) := by decide +kernel
theorem dX10_spread_137 : decode cX10_spread 137 = .ok (.aload_n 0, 1) := by decide +kernel
theorem dX10_spread_138 : decode cX10_spread 138 = .ok (.getfield 111, 3) := by decide +kernel
theorem dX10_spread_141 : decode cX10_spread 141 = .ok (.if_icmp .ge 49, 3) := by decide +kernel
theorem dX10_spread_144 : decode cX10_spread 144 = .ok (.aload_n 0, 1) := by decide +kernel
theorem dX10_spread_145 : decode cX10_spread 145 = .ok (.iload_n 2, 1) := by decide +kernel
theorem dX10_spread_146 : decode cX10_spread 146 = .ok (.invokevirtual 220, 3) := by decide +kernel
theorem dX10_spread_149 : decode cX10_spread 149 = .ok (.aload_n 0, 1) := by decide +kernel
theorem dX10_spread_150 : decode cX10_spread 150 = .ok (.iload_n 3, 1) := by decide +kernel
theorem dX10_spread_151 : decode cX10_spread 151 = .ok (.aload_n 0, 1) := by decide +kernel
theorem dX10_spread_152 : decode cX10_spread 152 = .ok (.getfield 207, 3) := by decide +kernel
theorem dX10_spread_155 : decode cX10_spread 155 = .ok (.aload_n 0, 1) := by decide +kernel
theorem dX10_spread_156 : decode cX10_spread 156 = .ok (.invokevirtual 231, 3) := by decide +kernel
theorem dX10_spread_159 : decode cX10_spread 159 = .ok (.invokevirtual 200, 3) := by decide +kernel
theorem dX10_spread_162 : decode cX10_spread 162 = .ok (.istore 4, 2) := by decide +kernel
theorem dX10_spread_164 : decode cX10_spread 164 = .ok (.iload 4, 2) := by decide +kernel
theorem dX10_spread_166 : decode cX10_spread 166 = .ok (.ifCond .lt 18, 3) := by decide +kernel
theorem dX10_spread_169 : decode cX10_spread 169 = .ok (.aload_n 0, 1) := by decide +kernel
theorem dX10_spread_170 : decode cX10_spread 170 = .ok (.iload 4, 2) := by decide +kernel
theorem dX10_spread_172 : decode cX10_spread 172 = .ok (.putfield 207, 3) := by decide +kernel
theorem dX10_spread_175 : decode cX10_spread 175 = .ok (.aload_n 0, 1) := by decide +kernel
theorem dX10_spread_176 : decode cX10_spread 176 = .ok (.iload_n 1, 1) := by decide +kernel
theorem dX10_spread_177 : decode cX10_spread 177 = .ok (.bipush 20, 2) := by decide +kernel
theorem dX10_spread_179 : decode cX10_spread 179 = .ok (.iload_n 3, 1) := by decide +kernel
theorem dX10_spread_180 : decode cX10_spread 180 = .ok (.iadd, 1) := by decide +kernel
theorem dX10_spread_181 : decode cX10_spread 181 = .ok (.invokevirtual 227, 3) := by decide +kernel
theorem dX10_spread_184 : decode cX10_spread 184 = .ok (.iinc 3 1, 3) := by decide +kernel
theorem dX10_spread_187 : decode cX10_spread 187 = .ok (.goto (-51), 3) := by decide +kernel
theorem dX10_spread_190 : decode cX10_spread 190 = .ok (.return_, 1) := by decide +kernel
theorem dX10_goTill_0 : decode cX10_goTill 0 = .ok (.iconst 0, 1) := by decide +kernel
theorem dX10_goTill_1 : decode cX10_goTill 1 = .ok (.istore_n 2, 1) := by decide +kernel
theorem dX10_goTill_2 : decode cX10_goTill 2 = .ok (.iload_n 2, 1) := by decide +kernel
theorem dX10_goTill_3 : decode cX10_goTill 3 = .ok (.sipush 14406, 3) := by decide +kernel
theorem dX10_goTill_6 : decode cX10_goTill 6 = .ok (.if_icmp .ge 16, 3) := by decide +kernel
theorem dX10_goTill_9 : decode cX10_goTill 9 = .ok (.aload_n 0, 1) := by decide +kernel
theorem dX10_goTill_10 : decode cX10_goTill 10 = .ok (.getfield 59, 3) := by decide +kernel
theorem dX10_goTill_13 : decode cX10_goTill 13 = .ok (.iload_n 2, 1) := by decide +kernel
theorem dX10_goTill_14 : decode cX10_goTill 14 = .ok (.iconst 0, 1) := by decide +kernel
theorem dX10_goTill_15 : decode cX10_goTill 15 = .ok (.bastore, 1) := by decide +kernel
theorem dX10_goTill_16 : decode cX10_goTill 16 = .ok (.iinc 2 1, 3) := by decide +kernel
theorem dX10_goTill_19 : decode cX10_goTill 19 = .ok (.goto (-17), 3) := by decide +kernel
theorem dX10_goTill_22 : decode cX10_goTill 22 = .ok (.aload_n 0, 1) := by decide +kernel
theorem dX10_goTill_23 : decode cX10_goTill 23 = .ok (.iconst 0, 1) := by decide +kernel
theorem dX10_goTill_24 : decode cX10_goTill 24 = .ok (.putfield 214, 3) := by decide +kernel
theorem dX10_goTill_27 : decode cX10_goTill 27 = .ok (.aload_n 0, 1) := by decide +kernel
theorem dX10_goTill_28 : decode cX10_goTill 28 = .ok (.bipush (-9), 2) := by decide +kernel
theorem dX10_goTill_30 : decode cX10_goTill 30 = .ok (.bipush (-9), 2) := by decide +kernel
theorem dX10_goTill_32 : decode cX10_goTill 32 = .ok (.invokevirtual 227, 3) := by decide +kernel
theorem dX10_goTill_35 : decode cX10_goTill 35 = .ok (.iconst 0, 1) := by decide +kernel
theorem dX10_goTill_36 : decode cX10_goTill 36 = .ok (.istore_n 2, 1) := by decide +kernel
theorem dX10_goTill_37 : decode cX10_goTill 37 = .ok (.iload_n 2, 1) := by decide +kernel
theorem dX10_goTill_38 : decode cX10_goTill 38 = .ok (.aload_n 0, 1) := by decide +kernel
theorem dX10_goTill_39 : decode cX10_goTill 39 = .ok (.getfield 214, 3) := by decide +kernel
theorem dX10_goTill_42 : decode cX10_goTill 42 = .ok (.if_icmp .ge 29, 3) := by decide +kernel
theorem dX10_goTill_45 : decode cX10_goTill 45 = .ok (.aload_n 0, 1) := by decide +kernel
theorem dX10_goTill_46 : decode cX10_goTill 46 = .ok (.getfield 50, 3) := by decide +kernel
theorem dX10_goTill_49 : decode cX10_goTill 49 = .ok (.iload_n 2, 1) := by decide +kernel
theorem dX10_goTill_50 : decode cX10_goTill 50 = .ok (.iaload, 1) := by decide +kernel
theorem dX10_goTill_51 : decode cX10_goTill 51 = .ok (.bipush 6, 2) := by decide +kernel
theorem dX10_goTill_53 : decode cX10_goTill 53 = .ok (.irem, 1) := by decide +kernel
theorem dX10_goTill_54 : decode cX10_goTill 54 = .ok (.iload_n 1, 1) := by decide +kernel
theorem dX10_goTill_55 : decode cX10_goTill 55 = .ok (.if_icmp .ne 5, 3) := by decide +kernel
theorem dX10_goTill_58 : decode cX10_goTill 58 = .ok (.iload_n 2, 1) := by decide +kernel
theorem dX10_goTill_59 : decode cX10_goTill 59 = .ok (.ireturn, 1) := by decide +kernel
theorem dX10_goTill_60 : decode cX10_goTill 60 = .ok (.aload_n 0, 1) := by decide +kernel
theorem dX10_goTill_61 : decode cX10_goTill 61 = .ok (.iload_n 2, 1) := by decide +kernel
theorem dX10_goTill_62 : decode cX10_goTill 62 = .ok (.invokevirtual 234, 3) := by decide +kernel
theorem dX10_goTill_65 : decode cX10_goTill 65 = .ok (.iinc 2 1, 3) := by decide +kernel
theorem dX10_goTill_68 : decode cX10_goTill 68 = .ok (.goto (-31), 3) := by decide +kernel
theorem dX10_goTill_71 : decode cX10_goTill 71 = .ok (.bipush (-9), 2) := by decide +kernel
theorem dX10_goTill_73 : decode cX10_goTill 73 = .ok (.ireturn, 1) := by decide +kernel
theorem dX10_fewest_0 : decode cX10_fewest 0 = .ok (.aload_n 0, 1) := by decide +kernel
theorem dX10_fewest_1 : decode cX10_fewest 1 = .ok (.iload_n 1, 1) := by decide +kernel
theorem dX10_fewest_2 : decode cX10_fewest 2 = .ok (.invokevirtual 176, 3) := by decide +kernel
theorem dX10_fewest_5 : decode cX10_fewest 5 = .ok (.ifCond .ne 16, 3) := by decide +kernel
theorem dX10_fewest_8 : decode cX10_fewest 8 = .ok (.aload_n 0, 1) := by decide +kernel
theorem dX10_fewest_9 : decode cX10_fewest 9 = .ok (.iload_n 2, 1) := by decide +kernel
theorem dX10_fewest_10 : decode cX10_fewest 10 = .ok (.invokevirtual 167, 3) := by decide +kernel
theorem dX10_fewest_13 : decode cX10_fewest 13 = .ok (.ifCond .ne 8, 3) := by decide +kernel
theorem dX10_fewest_16 : decode cX10_fewest 16 = .ok (.iload_n 3, 1) := by decide +kernel
theorem dX10_fewest_17 : decode cX10_fewest 17 = .ok (.iconst (-1), 1) := by decide +kernel
theorem dX10_fewest_18 : decode cX10_fewest 18 = .ok (.if_icmp .ge 5, 3) := by decide +kernel
theorem dX10_fewest_21 : decode cX10_fewest 21 = .ok (.iconst (-1), 1) := by decide +kernel
theorem dX10_fewest_22 : decode cX10_fewest 22 = .ok (.ireturn, 1) := by decide +kernel
theorem dX10_fewest_23 : decode cX10_fewest 23 = .ok (.aload_n 0, 1) := by decide +kernel
theorem dX10_fewest_24 : decode cX10_fewest 24 = .ok (.aload_n 0, 1) := by decide +kernel
theorem dX10_fewest_25 : decode cX10_fewest 25 = .ok (.getfield 28, 3) := by decide +kernel
theorem dX10_fewest_28 : decode cX10_fewest 28 = .ok (.iload_n 1, 1) := by decide +kernel
theorem dX10_fewest_29 : decode cX10_fewest 29 = .ok (.iaload, 1) := by decide +kernel
theorem dX10_fewest_30 : decode cX10_fewest 30 = .ok (.putfield 217, 3) := by decide +kernel
theorem dX10_fewest_33 : decode cX10_fewest 33 = .ok (.aload_n 0, 1) := by decide +kernel
theorem dX10_fewest_34 : decode cX10_fewest 34 = .ok (.aload_n 0, 1) := by decide +kernel
theorem dX10_fewest_35 : decode cX10_fewest 35 = .ok (.getfield 31, 3) := by decide +kernel
theorem dX10_fewest_38 : decode cX10_fewest 38 = .ok (.iload_n 1, 1) := by decide +kernel
theorem dX10_fewest_39 : decode cX10_fewest 39 = .ok (.iaload, 1) := by decide +kernel
theorem dX10_fewest_40 : decode cX10_fewest 40 = .ok (.putfield 207, 3) := by decide +kernel
theorem dX10_fewest_43 : decode cX10_fewest 43 = .ok (.aload_n 0, 1) := by decide +kernel
theorem dX10_fewest_44 : decode cX10_fewest 44 = .ok (.aload_n 0, 1) := by decide +kernel
theorem dX10_fewest_45 : decode cX10_fewest 45 = .ok (.getfield 148, 3) := by decide +kernel
theorem dX10_fewest_48 : decode cX10_fewest 48 = .ok (.putfield 204, 3) := by decide +kernel
theorem dX10_fewest_51 : decode cX10_fewest 51 = .ok (.iconst 0, 1) := by decide +kernel
theorem dX10_fewest_52 : decode cX10_fewest 52 = .ok (.istore 4, 2) := by decide +kernel
theorem dX10_fewest_54 : decode cX10_fewest 54 = .ok (.iload 4, 2) := by decide +kernel
theorem dX10_fewest_56 : decode cX10_fewest 56 = .ok (.aload_n 0, 1) := by decide +kernel
theorem dX10_fewest_57 : decode cX10_fewest 57 = .ok (.getfield 148, 3) := by decide +kernel
theorem dX10_fewest_60 : decode cX10_fewest 60 = .ok (.if_icmp .ge 92, 3) := by decide +kernel
theorem dX10_fewest_63 : decode cX10_fewest 63 = .ok (.aload_n 0, 1) := by decide +kernel
theorem dX10_fewest_64 : decode cX10_fewest 64 = .ok (.getfield 46, 3) := by decide +kernel
theorem dX10_fewest_67 : decode cX10_fewest 67 = .ok (.iload 4, 2) := by decide +kernel
theorem dX10_fewest_69 : decode cX10_fewest 69 = .ok (.aload_n 0, 1) := by decide +kernel
theorem dX10_fewest_70 : decode cX10_fewest 70 = .ok (.getfield 37, 3) := by decide +kernel
theorem dX10_fewest_73 : decode cX10_fewest 73 = .ok (.iload 4, 2) := by decide +kernel
theorem dX10_fewest_75 : decode cX10_fewest 75 = .ok (.iaload, 1) := by decide +kernel
theorem dX10_fewest_76 : decode cX10_fewest 76 = .ok (.bipush 20, 2) := by decide +kernel
theorem dX10_fewest_78 : decode cX10_fewest 78 = .ok (.if_icmp .lt 17, 3) := by decide +kernel
theorem dX10_fewest_81 : decode cX10_fewest 81 = .ok (.aload_n 0, 1) := by decide +kernel
theorem dX10_fewest_82 : decode cX10_fewest 82 = .ok (.getfield 37, 3) := by decide +kernel
theorem dX10_fewest_85 : decode cX10_fewest 85 = .ok (.iload 4, 2) := by decide +kernel
theorem dX10_fewest_87 : decode cX10_fewest 87 = .ok (.iaload, 1) := by decide +kernel
theorem dX10_fewest_88 : decode cX10_fewest 88 = .ok (.bipush 20, 2) := by decide +kernel
theorem dX10_fewest_90 : decode cX10_fewest 90 = .ok (.iload_n 1, 1) := by decide +kernel
theorem dX10_fewest_91 : decode cX10_fewest 91 = .ok (.iadd, 1) := by decide +kernel
theorem dX10_fewest_92 : decode cX10_fewest 92 = .ok (.if_icmp .ne 7, 3) := by decide +kernel
theorem dX10_fewest_95 : decode cX10_fewest 95 = .ok (.iconst 1, 1) := by decide +kernel
theorem dX10_fewest_96 : decode cX10_fewest 96 = .ok (.goto 4, 3) := by decide +kernel
theorem dX10_fewest_99 : decode cX10_fewest 99 = .ok (.iconst 0, 1) := by decide +kernel
theorem dX10_fewest_100 : decode cX10_fewest 100 = .ok (.bastore, 1) := by decide +kernel
theorem dX10_fewest_101 : decode cX10_fewest 101 = .ok (.aload_n 0, 1) := by decide +kernel
theorem dX10_fewest_102 : decode cX10_fewest 102 = .ok (.getfield 40, 3) := by decide +kernel
theorem dX10_fewest_105 : decode cX10_fewest 105 = .ok (.iload 4, 2) := by decide +kernel
theorem dX10_fewest_107 : decode cX10_fewest 107 = .ok (.aload_n 0, 1) := by decide +kernel
theorem dX10_fewest_108 : decode cX10_fewest 108 = .ok (.getfield 37, 3) := by decide +kernel
theorem dX10_fewest_111 : decode cX10_fewest 111 = .ok (.iload 4, 2) := by decide +kernel
theorem dX10_fewest_113 : decode cX10_fewest 113 = .ok (.iaload, 1) := by decide +kernel
theorem dX10_fewest_114 : decode cX10_fewest 114 = .ok (.bipush 20, 2) := by decide +kernel
theorem dX10_fewest_116 : decode cX10_fewest 116 = .ok (.if_icmp .ge 13, 3) := by decide +kernel
theorem dX10_fewest_119 : decode cX10_fewest 119 = .ok (.aload_n 0, 1) := by decide +kernel
theorem dX10_fewest_120 : decode cX10_fewest 120 = .ok (.getfield 37, 3) := by decide +kernel
theorem dX10_fewest_123 : decode cX10_fewest 123 = .ok (.iload 4, 2) := by decide +kernel
theorem dX10_fewest_125 : decode cX10_fewest 125 = .ok (.iaload, 1) := by decide +kernel
theorem dX10_fewest_126 : decode cX10_fewest 126 = .ok (.goto 5, 3) := by decide +kernel
theorem dX10_fewest_129 : decode cX10_fewest 129 = .ok (.bipush 6, 2) := by decide +kernel
theorem dX10_fewest_131 : decode cX10_fewest 131 = .ok (.iastore, 1) := by decide +kernel
theorem dX10_fewest_132 : decode cX10_fewest 132 = .ok (.aload_n 0, 1) := by decide +kernel
theorem dX10_fewest_133 : decode cX10_fewest 133 = .ok (.getfield 43, 3) := by decide +kernel
theorem dX10_fewest_136 : decode cX10_fewest 136 = .ok (.iload 4, 2) := by decide +kernel
theorem dX10_fewest_138 : decode cX10_fewest 138 = .ok (.aload_n 0, 1) := by decide +kernel
theorem dX10_fewest_139 : decode cX10_fewest 139 = .ok (.getfield 34, 3) := by decide +kernel
theorem dX10_fewest_142 : decode cX10_fewest 142 = .ok (.iload 4, 2) := by decide +kernel
theorem dX10_fewest_144 : decode cX10_fewest 144 = .ok (.iaload, 1) := by decide +kernel
theorem dX10_fewest_145 : decode cX10_fewest 145 = .ok (.iastore, 1) := by decide +kernel
theorem dX10_fewest_146 : decode cX10_fewest 146 = .ok (.iinc 4 1, 3) := by decide +kernel
theorem dX10_fewest_149 : decode cX10_fewest 149 = .ok (.goto (-95), 3) := by decide +kernel
theorem dX10_fewest_152 : decode cX10_fewest 152 = .ok (.aload_n 0, 1) := by decide +kernel
theorem dX10_fewest_153 : decode cX10_fewest 153 = .ok (.iload_n 2, 1) := by decide +kernel
theorem dX10_fewest_154 : decode cX10_fewest 154 = .ok (.invokevirtual 237, 3) := by decide +kernel
theorem dX10_fewest_157 : decode cX10_fewest 157 = .ok (.istore 4, 2) := by decide +kernel
theorem dX10_fewest_159 : decode cX10_fewest 159 = .ok (.iload 4, 2) := by decide +kernel
theorem dX10_fewest_161 : decode cX10_fewest 161 = .ok (.ifCond .ge 6, 3) := by decide +kernel
theorem dX10_fewest_164 : decode cX10_fewest 164 = .ok (.bipush (-9), 2) := by decide +kernel
theorem dX10_fewest_166 : decode cX10_fewest 166 = .ok (.ireturn, 1) := by decide +kernel
theorem dX10_fewest_167 : decode cX10_fewest 167 = .ok (.iconst 0, 1) := by decide +kernel
theorem dX10_fewest_168 : decode cX10_fewest 168 = .ok (.istore 5, 2) := by decide +kernel
theorem dX10_fewest_170 : decode cX10_fewest 170 = .ok (.aload_n 0, 1) := by decide +kernel
theorem dX10_fewest_171 : decode cX10_fewest 171 = .ok (.getfield 53, 3) := by decide +kernel
theorem dX10_fewest_174 : decode cX10_fewest 174 = .ok (.iload 4, 2) := by decide +kernel
theorem dX10_fewest_176 : decode cX10_fewest 176 = .ok (.iaload, 1) := by decide +kernel
theorem dX10_fewest_177 : decode cX10_fewest 177 = .ok (.ifCond .lt 32, 3) := by decide +kernel
theorem dX10_fewest_180 : decode cX10_fewest 180 = .ok (.aload_n 0, 1) := by decide +kernel
theorem dX10_fewest_181 : decode cX10_fewest 181 = .ok (.getfield 62, 3) := by decide +kernel
theorem dX10_fewest_184 : decode cX10_fewest 184 = .ok (.iload 5, 2) := by decide +kernel
theorem dX10_fewest_186 : decode cX10_fewest 186 = .ok (.aload_n 0, 1) := by decide +kernel
theorem dX10_fewest_187 : decode cX10_fewest 187 = .ok (.getfield 56, 3) := by decide +kernel
theorem dX10_fewest_190 : decode cX10_fewest 190 = .ok (.iload 4, 2) := by decide +kernel
theorem dX10_fewest_192 : decode cX10_fewest 192 = .ok (.iaload, 1) := by decide +kernel
theorem dX10_fewest_193 : decode cX10_fewest 193 = .ok (.iastore, 1) := by decide +kernel
theorem dX10_fewest_194 : decode cX10_fewest 194 = .ok (.aload_n 0, 1) := by decide +kernel
theorem dX10_fewest_195 : decode cX10_fewest 195 = .ok (.getfield 53, 3) := by decide +kernel
theorem dX10_fewest_198 : decode cX10_fewest 198 = .ok (.iload 4, 2) := by decide +kernel
theorem dX10_fewest_200 : decode cX10_fewest 200 = .ok (.iaload, 1) := by decide +kernel
theorem dX10_fewest_201 : decode cX10_fewest 201 = .ok (.istore 4, 2) := by decide +kernel
theorem dX10_fewest_203 : decode cX10_fewest 203 = .ok (.iinc 5 1, 3) := by decide +kernel
theorem dX10_fewest_206 : decode cX10_fewest 206 = .ok (.goto (-36), 3) := by decide +kernel
theorem dX10_fewest_209 : decode cX10_fewest 209 = .ok (.iload_n 3, 1) := by decide +kernel
theorem dX10_fewest_210 : decode cX10_fewest 210 = .ok (.ifCond .ge 8, 3) := by decide +kernel
theorem dX10_fewest_213 : decode cX10_fewest 213 = .ok (.iload 5, 2) := by decide +kernel
theorem dX10_fewest_215 : decode cX10_fewest 215 = .ok (.goto 25, 3) := by decide +kernel
theorem dX10_fewest_218 : decode cX10_fewest 218 = .ok (.iload_n 3, 1) := by decide +kernel
theorem dX10_fewest_219 : decode cX10_fewest 219 = .ok (.iload 5, 2) := by decide +kernel
theorem dX10_fewest_221 : decode cX10_fewest 221 = .ok (.if_icmp .ge 17, 3) := by decide +kernel
theorem dX10_fewest_224 : decode cX10_fewest 224 = .ok (.aload_n 0, 1) := by decide +kernel
theorem dX10_fewest_225 : decode cX10_fewest 225 = .ok (.getfield 62, 3) := by decide +kernel
theorem dX10_fewest_228 : decode cX10_fewest 228 = .ok (.iload 5, 2) := by decide +kernel
theorem dX10_fewest_230 : decode cX10_fewest 230 = .ok (.iconst 1, 1) := by decide +kernel
theorem dX10_fewest_231 : decode cX10_fewest 231 = .ok (.isub, 1) := by decide +kernel
theorem dX10_fewest_232 : decode cX10_fewest 232 = .ok (.iload_n 3, 1) := by decide +kernel
theorem dX10_fewest_233 : decode cX10_fewest 233 = .ok (.isub, 1) := by decide +kernel
theorem dX10_fewest_234 : decode cX10_fewest 234 = .ok (.iaload, 1) := by decide +kernel
theorem dX10_fewest_235 : decode cX10_fewest 235 = .ok (.goto 5, 3) := by decide +kernel
theorem dX10_fewest_238 : decode cX10_fewest 238 = .ok (.bipush (-9), 2) := by decide +kernel
theorem dX10_fewest_240 : decode cX10_fewest 240 = .ok (.ireturn, 1) := by decide +kernel
theorem dX10_reachOf_0 : decode cX10_reachOf 0 = .ok (.iconst 1, 1) := by decide +kernel
theorem dX10_reachOf_1 : decode cX10_reachOf 1 = .ok (.iload_n 2, 1) := by decide +kernel
theorem dX10_reachOf_2 : decode cX10_reachOf 2 = .ok (.ishl, 1) := by decide +kernel
theorem dX10_reachOf_3 : decode cX10_reachOf 3 = .ok (.istore_n 3, 1) := by decide +kernel
theorem dX10_reachOf_4 : decode cX10_reachOf 4 = .ok (.iconst 0, 1) := by decide +kernel
theorem dX10_reachOf_5 : decode cX10_reachOf 5 = .ok (.istore 4, 2) := by decide +kernel
theorem dX10_reachOf_7 : decode cX10_reachOf 7 = .ok (.iload 4, 2) := by decide +kernel
theorem dX10_reachOf_9 : decode cX10_reachOf 9 = .ok (.aload_n 0, 1) := by decide +kernel
theorem dX10_reachOf_10 : decode cX10_reachOf 10 = .ok (.getfield 108, 3) := by decide +kernel
theorem dX10_reachOf_13 : decode cX10_reachOf 13 = .ok (.if_icmp .ge 109, 3) := by decide +kernel
theorem dX10_reachOf_16 : decode cX10_reachOf 16 = .ok (.iconst 0, 1) := by decide +kernel
theorem dX10_reachOf_17 : decode cX10_reachOf 17 = .ok (.istore 5, 2) := by decide +kernel
theorem dX10_reachOf_19 : decode cX10_reachOf 19 = .ok (.iload 5, 2) := by decide +kernel
theorem dX10_reachOf_21 : decode cX10_reachOf 21 = .ok (.aload_n 0, 1) := by decide +kernel
theorem dX10_reachOf_22 : decode cX10_reachOf 22 = .ok (.getfield 111, 3) := by decide +kernel
theorem dX10_reachOf_25 : decode cX10_reachOf 25 = .ok (.if_icmp .ge 91, 3) := by decide +kernel
theorem dX10_reachOf_28 : decode cX10_reachOf 28 = .ok (.iconst 0, 1) := by decide +kernel
theorem dX10_reachOf_29 : decode cX10_reachOf 29 = .ok (.istore 6, 2) := by decide +kernel
theorem dX10_reachOf_31 : decode cX10_reachOf 31 = .ok (.iload 6, 2) := by decide +kernel
theorem dX10_reachOf_33 : decode cX10_reachOf 33 = .ok (.iconst 2, 1) := by decide +kernel
theorem dX10_reachOf_34 : decode cX10_reachOf 34 = .ok (.if_icmp .ge 76, 3) := by decide +kernel
theorem dX10_reachOf_37 : decode cX10_reachOf 37 = .ok (.iload_n 3, 1) := by decide +kernel
theorem dX10_reachOf_38 : decode cX10_reachOf 38 = .ok (.aload_n 0, 1) := by decide +kernel
theorem dX10_reachOf_39 : decode cX10_reachOf 39 = .ok (.getfield 13, 3) := by decide +kernel
theorem dX10_reachOf_42 : decode cX10_reachOf 42 = .ok (.iconst 2, 1) := by decide +kernel
theorem dX10_reachOf_43 : decode cX10_reachOf 43 = .ok (.iload 5, 2) := by decide +kernel
theorem dX10_reachOf_45 : decode cX10_reachOf 45 = .ok (.imul, 1) := by decide +kernel
theorem dX10_reachOf_46 : decode cX10_reachOf 46 = .ok (.iload 6, 2) := by decide +kernel
theorem dX10_reachOf_48 : decode cX10_reachOf 48 = .ok (.iadd, 1) := by decide +kernel
theorem dX10_reachOf_49 : decode cX10_reachOf 49 = .ok (.iaload, 1) := by decide +kernel
theorem dX10_reachOf_50 : decode cX10_reachOf 50 = .ok (.ishr, 1) := by decide +kernel
theorem dX10_reachOf_51 : decode cX10_reachOf 51 = .ok (.iconst 1, 1) := by decide +kernel
theorem dX10_reachOf_52 : decode cX10_reachOf 52 = .ok (.iand, 1) := by decide +kernel
theorem dX10_reachOf_53 : decode cX10_reachOf 53 = .ok (.iconst 1, 1) := by decide +kernel
theorem dX10_reachOf_54 : decode cX10_reachOf 54 = .ok (.if_icmp .ne 7, 3) := by decide +kernel
theorem dX10_reachOf_57 : decode cX10_reachOf 57 = .ok (.iconst 1, 1) := by decide +kernel
theorem dX10_reachOf_58 : decode cX10_reachOf 58 = .ok (.goto 4, 3) := by decide +kernel
theorem dX10_reachOf_61 : decode cX10_reachOf 61 = .ok (.iconst 0, 1) := by decide +kernel
theorem dX10_reachOf_62 : decode cX10_reachOf 62 = .ok (.istore 7, 2) := by decide +kernel
theorem dX10_reachOf_64 : decode cX10_reachOf 64 = .ok (.iload_n 3, 1) := by decide +kernel
theorem dX10_reachOf_65 : decode cX10_reachOf 65 = .ok (.iload 7, 2) := by decide +kernel
theorem dX10_reachOf_67 : decode cX10_reachOf 67 = .ok (.ifCond .eq 34, 3) := by decide +kernel
theorem dX10_reachOf_70 : decode cX10_reachOf 70 = .ok (.aload_n 0, 1) := by decide +kernel
theorem dX10_reachOf_71 : decode cX10_reachOf 71 = .ok (.iload 5, 2) := by decide +kernel
theorem dX10_reachOf_73 : decode cX10_reachOf 73 = .ok (.iload 6, 2) := by decide +kernel
theorem dX10_reachOf_75 : decode cX10_reachOf 75 = .ok (.iload_n 1, 1) := by decide +kernel
theorem dX10_reachOf_76 : decode cX10_reachOf 76 = .ok (.invokevirtual 160, 3) := by decide +kernel
theorem dX10_reachOf_79 : decode cX10_reachOf 79 = .ok (.ifCond .eq 22, 3) := by decide +kernel
theorem dX10_reachOf_82 : decode cX10_reachOf 82 = .ok (.iconst 1, 1) := by decide +kernel
theorem dX10_reachOf_83 : decode cX10_reachOf 83 = .ok (.aload_n 0, 1) := by decide +kernel
theorem dX10_reachOf_84 : decode cX10_reachOf 84 = .ok (.getfield 13, 3) := by decide +kernel
theorem dX10_reachOf_87 : decode cX10_reachOf 87 = .ok (.iconst 2, 1) := by decide +kernel
theorem dX10_reachOf_88 : decode cX10_reachOf 88 = .ok (.iload 5, 2) := by decide +kernel
theorem dX10_reachOf_90 : decode cX10_reachOf 90 = .ok (.imul, 1) := by decide +kernel
theorem dX10_reachOf_91 : decode cX10_reachOf 91 = .ok (.iconst 1, 1) := by decide +kernel
theorem dX10_reachOf_92 : decode cX10_reachOf 92 = .ok (.iadd, 1) := by decide +kernel
theorem dX10_reachOf_93 : decode cX10_reachOf 93 = .ok (.iload 6, 2) := by decide +kernel
theorem dX10_reachOf_95 : decode cX10_reachOf 95 = .ok (.isub, 1) := by decide +kernel
theorem dX10_reachOf_96 : decode cX10_reachOf 96 = .ok (.iaload, 1) := by decide +kernel
theorem dX10_reachOf_97 : decode cX10_reachOf 97 = .ok (.ishl, 1) := by decide +kernel
theorem dX10_reachOf_98 : decode cX10_reachOf 98 = .ok (.goto 4, 3) := by decide +kernel
theorem dX10_reachOf_101 : decode cX10_reachOf 101 = .ok (.iconst 0, 1) := by decide +kernel
theorem dX10_reachOf_102 : decode cX10_reachOf 102 = .ok (.ior, 1) := by decide +kernel
theorem dX10_reachOf_103 : decode cX10_reachOf 103 = .ok (.istore_n 3, 1) := by decide +kernel
theorem dX10_reachOf_104 : decode cX10_reachOf 104 = .ok (.iinc 6 1, 3) := by decide +kernel
theorem dX10_reachOf_107 : decode cX10_reachOf 107 = .ok (.goto (-76), 3) := by decide +kernel
theorem dX10_reachOf_110 : decode cX10_reachOf 110 = .ok (.iinc 5 1, 3) := by decide +kernel
theorem dX10_reachOf_113 : decode cX10_reachOf 113 = .ok (.goto (-94), 3) := by decide +kernel
theorem dX10_reachOf_116 : decode cX10_reachOf 116 = .ok (.iinc 4 1, 3) := by decide +kernel
theorem dX10_reachOf_119 : decode cX10_reachOf 119 = .ok (.goto (-112), 3) := by decide +kernel
theorem dX10_reachOf_122 : decode cX10_reachOf 122 = .ok (.iload_n 3, 1) := by decide +kernel
theorem dX10_reachOf_123 : decode cX10_reachOf 123 = .ok (.ireturn, 1) := by decide +kernel
theorem dX10_reach_0 : decode cX10_reach 0 = .ok (.aload_n 0, 1) := by decide +kernel
theorem dX10_reach_1 : decode cX10_reach 1 = .ok (.iload_n 2, 1) := by decide +kernel
theorem dX10_reach_2 : decode cX10_reach 2 = .ok (.invokevirtual 167, 3) := by decide +kernel
theorem dX10_reach_5 : decode cX10_reach 5 = .ok (.ifCond .eq 5, 3) := by decide +kernel
theorem dX10_reach_8 : decode cX10_reach 8 = .ok (.iconst (-1), 1) := by decide +kernel
theorem dX10_reach_9 : decode cX10_reach 9 = .ok (.ireturn, 1) := by decide +kernel
theorem dX10_reach_10 : decode cX10_reach 10 = .ok (.iload_n 1, 1) := by decide +kernel
theorem dX10_reach_11 : decode cX10_reach 11 = .ok (.i2l, 1) := by decide +kernel
theorem dX10_reach_12 : decode cX10_reach 12 = .ok (.lconst 1, 1) := by decide +kernel
theorem dX10_reach_13 : decode cX10_reach 13 = .ok (.ldc2_w 240, 3) := by decide +kernel
theorem dX10_reach_16 : decode cX10_reach 16 = .ok (.invokestatic 97, 3) := by decide +kernel
theorem dX10_reach_19 : decode cX10_reach 19 = .ok (.ifCond .eq 12, 3) := by decide +kernel
theorem dX10_reach_22 : decode cX10_reach 22 = .ok (.aload_n 0, 1) := by decide +kernel
theorem dX10_reach_23 : decode cX10_reach 23 = .ok (.iload_n 1, 1) := by decide +kernel
theorem dX10_reach_24 : decode cX10_reach 24 = .ok (.iload_n 2, 1) := by decide +kernel
theorem dX10_reach_25 : decode cX10_reach 25 = .ok (.invokevirtual 242, 3) := by decide +kernel
theorem dX10_reach_28 : decode cX10_reach 28 = .ok (.goto 5, 3) := by decide +kernel
theorem dX10_reach_31 : decode cX10_reach 31 = .ok (.bipush (-2), 2) := by decide +kernel
theorem dX10_reach_33 : decode cX10_reach 33 = .ok (.ireturn, 1) := by decide +kernel
theorem dX10_comesTo_0 : decode cX10_comesTo 0 = .ok (.aload_n 0, 1) := by decide +kernel
theorem dX10_comesTo_1 : decode cX10_comesTo 1 = .ok (.iload_n 1, 1) := by decide +kernel
theorem dX10_comesTo_2 : decode cX10_comesTo 2 = .ok (.iload_n 2, 1) := by decide +kernel
theorem dX10_comesTo_3 : decode cX10_comesTo 3 = .ok (.invokevirtual 242, 3) := by decide +kernel
theorem dX10_comesTo_6 : decode cX10_comesTo 6 = .ok (.iload_n 3, 1) := by decide +kernel
theorem dX10_comesTo_7 : decode cX10_comesTo 7 = .ok (.ishr, 1) := by decide +kernel
theorem dX10_comesTo_8 : decode cX10_comesTo 8 = .ok (.iconst 1, 1) := by decide +kernel
theorem dX10_comesTo_9 : decode cX10_comesTo 9 = .ok (.iand, 1) := by decide +kernel
theorem dX10_comesTo_10 : decode cX10_comesTo 10 = .ok (.iconst 1, 1) := by decide +kernel
theorem dX10_comesTo_11 : decode cX10_comesTo 11 = .ok (.if_icmp .ne 7, 3) := by decide +kernel
theorem dX10_comesTo_14 : decode cX10_comesTo 14 = .ok (.iconst 1, 1) := by decide +kernel
theorem dX10_comesTo_15 : decode cX10_comesTo 15 = .ok (.goto 4, 3) := by decide +kernel
theorem dX10_comesTo_18 : decode cX10_comesTo 18 = .ok (.iconst 0, 1) := by decide +kernel
theorem dX10_comesTo_19 : decode cX10_comesTo 19 = .ok (.ireturn, 1) := by decide +kernel
theorem dX10_strangers_0 : decode cX10_strangers 0 = .ok (.aload_n 0, 1) := by decide +kernel
theorem dX10_strangers_1 : decode cX10_strangers 1 = .ok (.iload_n 1, 1) := by decide +kernel
theorem dX10_strangers_2 : decode cX10_strangers 2 = .ok (.invokevirtual 167, 3) := by decide +kernel
theorem dX10_strangers_5 : decode cX10_strangers 5 = .ok (.ifCond .ne 16, 3) := by decide +kernel
theorem dX10_strangers_8 : decode cX10_strangers 8 = .ok (.aload_n 0, 1) := by decide +kernel
theorem dX10_strangers_9 : decode cX10_strangers 9 = .ok (.iload_n 2, 1) := by decide +kernel
theorem dX10_strangers_10 : decode cX10_strangers 10 = .ok (.invokevirtual 167, 3) := by decide +kernel
theorem dX10_strangers_13 : decode cX10_strangers 13 = .ok (.ifCond .ne 8, 3) := by decide +kernel
theorem dX10_strangers_16 : decode cX10_strangers 16 = .ok (.iload_n 3, 1) := by decide +kernel
theorem dX10_strangers_17 : decode cX10_strangers 17 = .ok (.iconst (-1), 1) := by decide +kernel
theorem dX10_strangers_18 : decode cX10_strangers 18 = .ok (.if_icmp .ge 5, 3) := by decide +kernel
theorem dX10_strangers_21 : decode cX10_strangers 21 = .ok (.iconst (-1), 1) := by decide +kernel
theorem dX10_strangers_22 : decode cX10_strangers 22 = .ok (.ireturn, 1) := by decide +kernel
theorem dX10_strangers_23 : decode cX10_strangers 23 = .ok (.iconst 0, 1) := by decide +kernel
theorem dX10_strangers_24 : decode cX10_strangers 24 = .ok (.istore 4, 2) := by decide +kernel
theorem dX10_strangers_26 : decode cX10_strangers 26 = .ok (.bipush 10, 2) := by decide +kernel
theorem dX10_strangers_28 : decode cX10_strangers 28 = .ok (.istore 5, 2) := by decide +kernel
theorem dX10_strangers_30 : decode cX10_strangers 30 = .ok (.iload 5, 2) := by decide +kernel
theorem dX10_strangers_32 : decode cX10_strangers 32 = .ok (.bipush 100, 2) := by decide +kernel
theorem dX10_strangers_34 : decode cX10_strangers 34 = .ok (.if_icmp .ge 32, 3) := by decide +kernel
theorem dX10_strangers_37 : decode cX10_strangers 37 = .ok (.aload_n 0, 1) := by decide +kernel
theorem dX10_strangers_38 : decode cX10_strangers 38 = .ok (.iload 5, 2) := by decide +kernel
theorem dX10_strangers_40 : decode cX10_strangers 40 = .ok (.iload_n 1, 1) := by decide +kernel
theorem dX10_strangers_41 : decode cX10_strangers 41 = .ok (.iload_n 2, 1) := by decide +kernel
theorem dX10_strangers_42 : decode cX10_strangers 42 = .ok (.invokevirtual 245, 3) := by decide +kernel
theorem dX10_strangers_45 : decode cX10_strangers 45 = .ok (.ifCond .eq 15, 3) := by decide +kernel
theorem dX10_strangers_48 : decode cX10_strangers 48 = .ok (.iload 4, 2) := by decide +kernel
theorem dX10_strangers_50 : decode cX10_strangers 50 = .ok (.iload_n 3, 1) := by decide +kernel
theorem dX10_strangers_51 : decode cX10_strangers 51 = .ok (.if_icmp .ne 6, 3) := by decide +kernel
theorem dX10_strangers_54 : decode cX10_strangers 54 = .ok (.iload 5, 2) := by decide +kernel
theorem dX10_strangers_56 : decode cX10_strangers 56 = .ok (.ireturn, 1) := by decide +kernel
theorem dX10_strangers_57 : decode cX10_strangers 57 = .ok (.iinc 4 1, 3) := by decide +kernel
theorem dX10_strangers_60 : decode cX10_strangers 60 = .ok (.iinc 5 1, 3) := by decide +kernel
theorem dX10_strangers_63 : decode cX10_strangers 63 = .ok (.goto (-33), 3) := by decide +kernel
theorem dX10_strangers_66 : decode cX10_strangers 66 = .ok (.iload_n 3, 1) := by decide +kernel
theorem dX10_strangers_67 : decode cX10_strangers 67 = .ok (.ifCond .ge 8, 3) := by decide +kernel
theorem dX10_strangers_70 : decode cX10_strangers 70 = .ok (.iload 4, 2) := by decide +kernel
theorem dX10_strangers_72 : decode cX10_strangers 72 = .ok (.goto 5, 3) := by decide +kernel
theorem dX10_strangers_75 : decode cX10_strangers 75 = .ok (.bipush (-9), 2) := by decide +kernel
theorem dX10_strangers_77 : decode cX10_strangers 77 = .ok (.ireturn, 1) := by decide +kernel
theorem dX10_goesWith_0 : decode cX10_goesWith 0 = .ok (.aload_n 0, 1) := by decide +kernel
theorem dX10_goesWith_1 : decode cX10_goesWith 1 = .ok (.aload_n 0, 1) := by decide +kernel
theorem dX10_goesWith_2 : decode cX10_goesWith 2 = .ok (.getfield 28, 3) := by decide +kernel
theorem dX10_goesWith_5 : decode cX10_goesWith 5 = .ok (.iload_n 1, 1) := by decide +kernel
theorem dX10_goesWith_6 : decode cX10_goesWith 6 = .ok (.iaload, 1) := by decide +kernel
theorem dX10_goesWith_7 : decode cX10_goesWith 7 = .ok (.putfield 217, 3) := by decide +kernel
theorem dX10_goesWith_10 : decode cX10_goesWith 10 = .ok (.aload_n 0, 1) := by decide +kernel
theorem dX10_goesWith_11 : decode cX10_goesWith 11 = .ok (.aload_n 0, 1) := by decide +kernel
theorem dX10_goesWith_12 : decode cX10_goesWith 12 = .ok (.getfield 31, 3) := by decide +kernel
theorem dX10_goesWith_15 : decode cX10_goesWith 15 = .ok (.iload_n 1, 1) := by decide +kernel
theorem dX10_goesWith_16 : decode cX10_goesWith 16 = .ok (.iaload, 1) := by decide +kernel
theorem dX10_goesWith_17 : decode cX10_goesWith 17 = .ok (.putfield 207, 3) := by decide +kernel
theorem dX10_goesWith_20 : decode cX10_goesWith 20 = .ok (.aload_n 0, 1) := by decide +kernel
theorem dX10_goesWith_21 : decode cX10_goesWith 21 = .ok (.iload_n 3, 1) := by decide +kernel
theorem dX10_goesWith_22 : decode cX10_goesWith 22 = .ok (.putfield 204, 3) := by decide +kernel
theorem dX10_goesWith_25 : decode cX10_goesWith 25 = .ok (.iconst 0, 1) := by decide +kernel
theorem dX10_goesWith_26 : decode cX10_goesWith 26 = .ok (.istore 6, 2) := by decide +kernel
theorem dX10_goesWith_28 : decode cX10_goesWith 28 = .ok (.iload 6, 2) := by decide +kernel
theorem dX10_goesWith_30 : decode cX10_goesWith 30 = .ok (.iload_n 3, 1) := by decide +kernel
theorem dX10_goesWith_31 : decode cX10_goesWith 31 = .ok (.if_icmp .ge 49, 3) := by decide +kernel
theorem dX10_goesWith_34 : decode cX10_goesWith 34 = .ok (.aload_n 0, 1) := by decide +kernel
theorem dX10_goesWith_35 : decode cX10_goesWith 35 = .ok (.getfield 46, 3) := by decide +kernel
theorem dX10_goesWith_38 : decode cX10_goesWith 38 = .ok (.iload 6, 2) := by decide +kernel
theorem dX10_goesWith_40 : decode cX10_goesWith 40 = .ok (.iconst 1, 1) := by decide +kernel
theorem dX10_goesWith_41 : decode cX10_goesWith 41 = .ok (.bastore, 1) := by decide +kernel
theorem dX10_goesWith_42 : decode cX10_goesWith 42 = .ok (.aload_n 0, 1) := by decide +kernel
theorem dX10_goesWith_43 : decode cX10_goesWith 43 = .ok (.getfield 40, 3) := by decide +kernel
theorem dX10_goesWith_46 : decode cX10_goesWith 46 = .ok (.iload 6, 2) := by decide +kernel
theorem dX10_goesWith_48 : decode cX10_goesWith 48 = .ok (.aload_n 0, 1) := by decide +kernel
theorem dX10_goesWith_49 : decode cX10_goesWith 49 = .ok (.getfield 31, 3) := by decide +kernel
theorem dX10_goesWith_52 : decode cX10_goesWith 52 = .ok (.iload_n 1, 1) := by decide +kernel
theorem dX10_goesWith_53 : decode cX10_goesWith 53 = .ok (.iaload, 1) := by decide +kernel
theorem dX10_goesWith_54 : decode cX10_goesWith 54 = .ok (.iastore, 1) := by decide +kernel
theorem dX10_goesWith_55 : decode cX10_goesWith 55 = .ok (.aload_n 0, 1) := by decide +kernel
theorem dX10_goesWith_56 : decode cX10_goesWith 56 = .ok (.getfield 43, 3) := by decide +kernel
theorem dX10_goesWith_59 : decode cX10_goesWith 59 = .ok (.iload 6, 2) := by decide +kernel
theorem dX10_goesWith_61 : decode cX10_goesWith 61 = .ok (.iload 6, 2) := by decide +kernel
theorem dX10_goesWith_63 : decode cX10_goesWith 63 = .ok (.ifCond .ne 8, 3) := by decide +kernel
theorem dX10_goesWith_66 : decode cX10_goesWith 66 = .ok (.iload 4, 2) := by decide +kernel
theorem dX10_goesWith_68 : decode cX10_goesWith 68 = .ok (.goto 5, 3) := by decide +kernel
theorem dX10_goesWith_71 : decode cX10_goesWith 71 = .ok (.iload 5, 2) := by decide +kernel
theorem dX10_goesWith_73 : decode cX10_goesWith 73 = .ok (.iastore, 1) := by decide +kernel
theorem dX10_goesWith_74 : decode cX10_goesWith 74 = .ok (.iinc 6 1, 3) := by decide +kernel
theorem dX10_goesWith_77 : decode cX10_goesWith 77 = .ok (.goto (-49), 3) := by decide +kernel
theorem dX10_goesWith_80 : decode cX10_goesWith 80 = .ok (.aload_n 0, 1) := by decide +kernel
theorem dX10_goesWith_81 : decode cX10_goesWith 81 = .ok (.iload_n 2, 1) := by decide +kernel
theorem dX10_goesWith_82 : decode cX10_goesWith 82 = .ok (.invokevirtual 237, 3) := by decide +kernel
theorem dX10_goesWith_85 : decode cX10_goesWith 85 = .ok (.ifCond .lt 7, 3) := by decide +kernel
theorem dX10_goesWith_88 : decode cX10_goesWith 88 = .ok (.iconst 1, 1) := by decide +kernel
theorem dX10_goesWith_89 : decode cX10_goesWith 89 = .ok (.goto 4, 3) := by decide +kernel
theorem dX10_goesWith_92 : decode cX10_goesWith 92 = .ok (.iconst 0, 1) := by decide +kernel
theorem dX10_goesWith_93 : decode cX10_goesWith 93 = .ok (.ireturn, 1) := by decide +kernel
theorem dX10_laid_0 : decode cX10_laid 0 = .ok (.aload_n 0, 1) := by decide +kernel
theorem dX10_laid_1 : decode cX10_laid 1 = .ok (.iload_n 1, 1) := by decide +kernel
theorem dX10_laid_2 : decode cX10_laid 2 = .ok (.invokevirtual 176, 3) := by decide +kernel
theorem dX10_laid_5 : decode cX10_laid 5 = .ok (.ifCond .ne 23, 3) := by decide +kernel
theorem dX10_laid_8 : decode cX10_laid 8 = .ok (.aload_n 0, 1) := by decide +kernel
theorem dX10_laid_9 : decode cX10_laid 9 = .ok (.iload_n 2, 1) := by decide +kernel
theorem dX10_laid_10 : decode cX10_laid 10 = .ok (.invokevirtual 167, 3) := by decide +kernel
theorem dX10_laid_13 : decode cX10_laid 13 = .ok (.ifCond .ne 15, 3) := by decide +kernel
theorem dX10_laid_16 : decode cX10_laid 16 = .ok (.iload_n 3, 1) := by decide +kernel
theorem dX10_laid_17 : decode cX10_laid 17 = .ok (.i2l, 1) := by decide +kernel
theorem dX10_laid_18 : decode cX10_laid 18 = .ok (.ldc2_w 248, 3) := by decide +kernel
theorem dX10_laid_21 : decode cX10_laid 21 = .ok (.lconst 1, 1) := by decide +kernel
theorem dX10_laid_22 : decode cX10_laid 22 = .ok (.invokestatic 97, 3) := by decide +kernel
theorem dX10_laid_25 : decode cX10_laid 25 = .ok (.ifCond .ne 5, 3) := by decide +kernel
theorem dX10_laid_28 : decode cX10_laid 28 = .ok (.iconst (-1), 1) := by decide +kernel
theorem dX10_laid_29 : decode cX10_laid 29 = .ok (.ireturn, 1) := by decide +kernel
theorem dX10_laid_30 : decode cX10_laid 30 = .ok (.aload_n 0, 1) := by decide +kernel
theorem dX10_laid_31 : decode cX10_laid 31 = .ok (.iload_n 1, 1) := by decide +kernel
theorem dX10_laid_32 : decode cX10_laid 32 = .ok (.invokevirtual 179, 3) := by decide +kernel
theorem dX10_laid_35 : decode cX10_laid 35 = .ok (.ifCond .eq 6, 3) := by decide +kernel
theorem dX10_laid_38 : decode cX10_laid 38 = .ok (.bipush (-3), 2) := by decide +kernel
theorem dX10_laid_40 : decode cX10_laid 40 = .ok (.ireturn, 1) := by decide +kernel
theorem dX10_laid_41 : decode cX10_laid 41 = .ok (.aload_n 0, 1) := by decide +kernel
theorem dX10_laid_42 : decode cX10_laid 42 = .ok (.iload_n 1, 1) := by decide +kernel
theorem dX10_laid_43 : decode cX10_laid 43 = .ok (.iload_n 2, 1) := by decide +kernel
theorem dX10_laid_44 : decode cX10_laid 44 = .ok (.iconst 0, 1) := by decide +kernel
theorem dX10_laid_45 : decode cX10_laid 45 = .ok (.iconst 0, 1) := by decide +kernel
theorem dX10_laid_46 : decode cX10_laid 46 = .ok (.iconst 0, 1) := by decide +kernel
theorem dX10_laid_47 : decode cX10_laid 47 = .ok (.invokevirtual 250, 3) := by decide +kernel
theorem dX10_laid_50 : decode cX10_laid 50 = .ok (.ifCond .eq 14, 3) := by decide +kernel
theorem dX10_laid_53 : decode cX10_laid 53 = .ok (.iload_n 3, 1) := by decide +kernel
theorem dX10_laid_54 : decode cX10_laid 54 = .ok (.ifCond .ge 7, 3) := by decide +kernel
theorem dX10_laid_57 : decode cX10_laid 57 = .ok (.iconst 0, 1) := by decide +kernel
theorem dX10_laid_58 : decode cX10_laid 58 = .ok (.goto 5, 3) := by decide +kernel
theorem dX10_laid_61 : decode cX10_laid 61 = .ok (.bipush (-9), 2) := by decide +kernel
theorem dX10_laid_63 : decode cX10_laid 63 = .ok (.ireturn, 1) := by decide +kernel
theorem dX10_laid_64 : decode cX10_laid 64 = .ok (.iconst 1, 1) := by decide +kernel
theorem dX10_laid_65 : decode cX10_laid 65 = .ok (.istore 4, 2) := by decide +kernel
theorem dX10_laid_67 : decode cX10_laid 67 = .ok (.iload 4, 2) := by decide +kernel
theorem dX10_laid_69 : decode cX10_laid 69 = .ok (.bipush 21, 2) := by decide +kernel
theorem dX10_laid_71 : decode cX10_laid 71 = .ok (.if_icmp .ge 42, 3) := by decide +kernel
theorem dX10_laid_74 : decode cX10_laid 74 = .ok (.aload_n 0, 1) := by decide +kernel
theorem dX10_laid_75 : decode cX10_laid 75 = .ok (.iload_n 1, 1) := by decide +kernel
theorem dX10_laid_76 : decode cX10_laid 76 = .ok (.iload_n 2, 1) := by decide +kernel
theorem dX10_laid_77 : decode cX10_laid 77 = .ok (.iconst 1, 1) := by decide +kernel
theorem dX10_laid_78 : decode cX10_laid 78 = .ok (.iload 4, 2) := by decide +kernel
theorem dX10_laid_80 : decode cX10_laid 80 = .ok (.iconst 0, 1) := by decide +kernel
theorem dX10_laid_81 : decode cX10_laid 81 = .ok (.invokevirtual 250, 3) := by decide +kernel
theorem dX10_laid_84 : decode cX10_laid 84 = .ok (.ifCond .eq 23, 3) := by decide +kernel
theorem dX10_laid_87 : decode cX10_laid 87 = .ok (.iload_n 3, 1) := by decide +kernel
theorem dX10_laid_88 : decode cX10_laid 88 = .ok (.ifCond .ge 7, 3) := by decide +kernel
theorem dX10_laid_91 : decode cX10_laid 91 = .ok (.iconst 1, 1) := by decide +kernel
theorem dX10_laid_92 : decode cX10_laid 92 = .ok (.goto 14, 3) := by decide +kernel
theorem dX10_laid_95 : decode cX10_laid 95 = .ok (.iload_n 3, 1) := by decide +kernel
theorem dX10_laid_96 : decode cX10_laid 96 = .ok (.ifCond .ne 8, 3) := by decide +kernel
theorem dX10_laid_99 : decode cX10_laid 99 = .ok (.iload 4, 2) := by decide +kernel
theorem dX10_laid_101 : decode cX10_laid 101 = .ok (.goto 5, 3) := by decide +kernel
theorem dX10_laid_104 : decode cX10_laid 104 = .ok (.bipush (-9), 2) := by decide +kernel
theorem dX10_laid_106 : decode cX10_laid 106 = .ok (.ireturn, 1) := by decide +kernel
theorem dX10_laid_107 : decode cX10_laid 107 = .ok (.iinc 4 1, 3) := by decide +kernel
theorem dX10_laid_110 : decode cX10_laid 110 = .ok (.goto (-43), 3) := by decide +kernel
theorem dX10_laid_113 : decode cX10_laid 113 = .ok (.iconst 1, 1) := by decide +kernel
theorem dX10_laid_114 : decode cX10_laid 114 = .ok (.istore 4, 2) := by decide +kernel
theorem dX10_laid_116 : decode cX10_laid 116 = .ok (.iload 4, 2) := by decide +kernel
theorem dX10_laid_118 : decode cX10_laid 118 = .ok (.bipush 21, 2) := by decide +kernel
theorem dX10_laid_120 : decode cX10_laid 120 = .ok (.if_icmp .ge 60, 3) := by decide +kernel
theorem dX10_laid_123 : decode cX10_laid 123 = .ok (.iload 4, 2) := by decide +kernel
theorem dX10_laid_125 : decode cX10_laid 125 = .ok (.istore 5, 2) := by decide +kernel
theorem dX10_laid_127 : decode cX10_laid 127 = .ok (.iload 5, 2) := by decide +kernel
theorem dX10_laid_129 : decode cX10_laid 129 = .ok (.bipush 21, 2) := by decide +kernel
theorem dX10_laid_131 : decode cX10_laid 131 = .ok (.if_icmp .ge 43, 3) := by decide +kernel
theorem dX10_laid_134 : decode cX10_laid 134 = .ok (.aload_n 0, 1) := by decide +kernel
theorem dX10_laid_135 : decode cX10_laid 135 = .ok (.iload_n 1, 1) := by decide +kernel
theorem dX10_laid_136 : decode cX10_laid 136 = .ok (.iload_n 2, 1) := by decide +kernel
theorem dX10_laid_137 : decode cX10_laid 137 = .ok (.iconst 2, 1) := by decide +kernel
theorem dX10_laid_138 : decode cX10_laid 138 = .ok (.iload 4, 2) := by decide +kernel
theorem dX10_laid_140 : decode cX10_laid 140 = .ok (.iload 5, 2) := by decide +kernel
theorem dX10_laid_142 : decode cX10_laid 142 = .ok (.invokevirtual 250, 3) := by decide +kernel
theorem dX10_laid_145 : decode cX10_laid 145 = .ok (.ifCond .eq 23, 3) := by decide +kernel
theorem dX10_laid_148 : decode cX10_laid 148 = .ok (.iload_n 3, 1) := by decide +kernel
theorem dX10_laid_149 : decode cX10_laid 149 = .ok (.ifCond .ge 7, 3) := by decide +kernel
theorem dX10_laid_152 : decode cX10_laid 152 = .ok (.iconst 2, 1) := by decide +kernel
theorem dX10_laid_153 : decode cX10_laid 153 = .ok (.goto 14, 3) := by decide +kernel
theorem dX10_laid_156 : decode cX10_laid 156 = .ok (.iload_n 3, 1) := by decide +kernel
theorem dX10_laid_157 : decode cX10_laid 157 = .ok (.ifCond .ne 8, 3) := by decide +kernel
theorem dX10_laid_160 : decode cX10_laid 160 = .ok (.iload 4, 2) := by decide +kernel
theorem dX10_laid_162 : decode cX10_laid 162 = .ok (.goto 5, 3) := by decide +kernel
theorem dX10_laid_165 : decode cX10_laid 165 = .ok (.iload 5, 2) := by decide +kernel
theorem dX10_laid_167 : decode cX10_laid 167 = .ok (.ireturn, 1) := by decide +kernel
theorem dX10_laid_168 : decode cX10_laid 168 = .ok (.iinc 5 1, 3) := by decide +kernel
theorem dX10_laid_171 : decode cX10_laid 171 = .ok (.goto (-44), 3) := by decide +kernel
theorem dX10_laid_174 : decode cX10_laid 174 = .ok (.iinc 4 1, 3) := by decide +kernel
theorem dX10_laid_177 : decode cX10_laid 177 = .ok (.goto (-61), 3) := by decide +kernel
theorem dX10_laid_180 : decode cX10_laid 180 = .ok (.bipush (-9), 2) := by decide +kernel
theorem dX10_laid_182 : decode cX10_laid 182 = .ok (.ireturn, 1) := by decide +kernel
theorem dX10_guest_0 : decode cX10_guest 0 = .ok (.aload_n 0, 1) := by decide +kernel
theorem dX10_guest_1 : decode cX10_guest 1 = .ok (.iload_n 1, 1) := by decide +kernel
theorem dX10_guest_2 : decode cX10_guest 2 = .ok (.invokevirtual 176, 3) := by decide +kernel
theorem dX10_guest_5 : decode cX10_guest 5 = .ok (.ifCond .ne 11, 3) := by decide +kernel
theorem dX10_guest_8 : decode cX10_guest 8 = .ok (.aload_n 0, 1) := by decide +kernel
theorem dX10_guest_9 : decode cX10_guest 9 = .ok (.iload_n 2, 1) := by decide +kernel
theorem dX10_guest_10 : decode cX10_guest 10 = .ok (.invokevirtual 167, 3) := by decide +kernel
theorem dX10_guest_13 : decode cX10_guest 13 = .ok (.ifCond .eq 5, 3) := by decide +kernel
theorem dX10_guest_16 : decode cX10_guest 16 = .ok (.iconst (-1), 1) := by decide +kernel
theorem dX10_guest_17 : decode cX10_guest 17 = .ok (.ireturn, 1) := by decide +kernel
theorem dX10_guest_18 : decode cX10_guest 18 = .ok (.iconst 0, 1) := by decide +kernel
theorem dX10_guest_19 : decode cX10_guest 19 = .ok (.istore_n 3, 1) := by decide +kernel
theorem dX10_guest_20 : decode cX10_guest 20 = .ok (.iload_n 3, 1) := by decide +kernel
theorem dX10_guest_21 : decode cX10_guest 21 = .ok (.bipush 31, 2) := by decide +kernel
theorem dX10_guest_23 : decode cX10_guest 23 = .ok (.if_icmp .ge 74, 3) := by decide +kernel
theorem dX10_guest_26 : decode cX10_guest 26 = .ok (.aload_n 0, 1) := by decide +kernel
theorem dX10_guest_27 : decode cX10_guest 27 = .ok (.getfield 28, 3) := by decide +kernel
theorem dX10_guest_30 : decode cX10_guest 30 = .ok (.iload_n 1, 1) := by decide +kernel
theorem dX10_guest_31 : decode cX10_guest 31 = .ok (.iaload, 1) := by decide +kernel
theorem dX10_guest_32 : decode cX10_guest 32 = .ok (.iload_n 3, 1) := by decide +kernel
theorem dX10_guest_33 : decode cX10_guest 33 = .ok (.isub, 1) := by decide +kernel
theorem dX10_guest_34 : decode cX10_guest 34 = .ok (.ifCond .le 30, 3) := by decide +kernel
theorem dX10_guest_37 : decode cX10_guest 37 = .ok (.aload_n 0, 1) := by decide +kernel
theorem dX10_guest_38 : decode cX10_guest 38 = .ok (.aload_n 0, 1) := by decide +kernel
theorem dX10_guest_39 : decode cX10_guest 39 = .ok (.getfield 28, 3) := by decide +kernel
theorem dX10_guest_42 : decode cX10_guest 42 = .ok (.iload_n 1, 1) := by decide +kernel
theorem dX10_guest_43 : decode cX10_guest 43 = .ok (.iaload, 1) := by decide +kernel
theorem dX10_guest_44 : decode cX10_guest 44 = .ok (.iload_n 3, 1) := by decide +kernel
theorem dX10_guest_45 : decode cX10_guest 45 = .ok (.isub, 1) := by decide +kernel
theorem dX10_guest_46 : decode cX10_guest 46 = .ok (.aload_n 0, 1) := by decide +kernel
theorem dX10_guest_47 : decode cX10_guest 47 = .ok (.getfield 31, 3) := by decide +kernel
theorem dX10_guest_50 : decode cX10_guest 50 = .ok (.iload_n 1, 1) := by decide +kernel
theorem dX10_guest_51 : decode cX10_guest 51 = .ok (.iaload, 1) := by decide +kernel
theorem dX10_guest_52 : decode cX10_guest 52 = .ok (.iload_n 2, 1) := by decide +kernel
theorem dX10_guest_53 : decode cX10_guest 53 = .ok (.invokevirtual 245, 3) := by decide +kernel
theorem dX10_guest_56 : decode cX10_guest 56 = .ok (.ifCond .eq 8, 3) := by decide +kernel
theorem dX10_guest_59 : decode cX10_guest 59 = .ok (.bipush 100, 2) := by decide +kernel
theorem dX10_guest_61 : decode cX10_guest 61 = .ok (.iload_n 3, 1) := by decide +kernel
theorem dX10_guest_62 : decode cX10_guest 62 = .ok (.isub, 1) := by decide +kernel
theorem dX10_guest_63 : decode cX10_guest 63 = .ok (.ireturn, 1) := by decide +kernel
theorem dX10_guest_64 : decode cX10_guest 64 = .ok (.aload_n 0, 1) := by decide +kernel
theorem dX10_guest_65 : decode cX10_guest 65 = .ok (.aload_n 0, 1) := by decide +kernel
theorem dX10_guest_66 : decode cX10_guest 66 = .ok (.getfield 28, 3) := by decide +kernel
theorem dX10_guest_69 : decode cX10_guest 69 = .ok (.iload_n 1, 1) := by decide +kernel
theorem dX10_guest_70 : decode cX10_guest 70 = .ok (.iaload, 1) := by decide +kernel
theorem dX10_guest_71 : decode cX10_guest 71 = .ok (.iload_n 3, 1) := by decide +kernel
theorem dX10_guest_72 : decode cX10_guest 72 = .ok (.iadd, 1) := by decide +kernel
theorem dX10_guest_73 : decode cX10_guest 73 = .ok (.aload_n 0, 1) := by decide +kernel
theorem dX10_guest_74 : decode cX10_guest 74 = .ok (.getfield 31, 3) := by decide +kernel
theorem dX10_guest_77 : decode cX10_guest 77 = .ok (.iload_n 1, 1) := by decide +kernel
theorem dX10_guest_78 : decode cX10_guest 78 = .ok (.iaload, 1) := by decide +kernel
theorem dX10_guest_79 : decode cX10_guest 79 = .ok (.iload_n 2, 1) := by decide +kernel
theorem dX10_guest_80 : decode cX10_guest 80 = .ok (.invokevirtual 245, 3) := by decide +kernel
theorem dX10_guest_83 : decode cX10_guest 83 = .ok (.ifCond .eq 8, 3) := by decide +kernel
theorem dX10_guest_86 : decode cX10_guest 86 = .ok (.bipush 100, 2) := by decide +kernel
theorem dX10_guest_88 : decode cX10_guest 88 = .ok (.iload_n 3, 1) := by decide +kernel
theorem dX10_guest_89 : decode cX10_guest 89 = .ok (.iadd, 1) := by decide +kernel
theorem dX10_guest_90 : decode cX10_guest 90 = .ok (.ireturn, 1) := by decide +kernel
theorem dX10_guest_91 : decode cX10_guest 91 = .ok (.iinc 3 1, 3) := by decide +kernel
theorem dX10_guest_94 : decode cX10_guest 94 = .ok (.goto (-74), 3) := by decide +kernel
theorem dX10_guest_97 : decode cX10_guest 97 = .ok (.bipush (-9), 2) := by decide +kernel
theorem dX10_guest_99 : decode cX10_guest 99 = .ok (.ireturn, 1) := by decide +kernel
theorem dX10_passesAll_0 : decode cX10_passesAll 0 = .ok (.iload_n 2, 1) := by decide +kernel
theorem dX10_passesAll_1 : decode cX10_passesAll 1 = .ok (.istore 5, 2) := by decide +kernel
theorem dX10_passesAll_3 : decode cX10_passesAll 3 = .ok (.iconst 0, 1) := by decide +kernel
theorem dX10_passesAll_4 : decode cX10_passesAll 4 = .ok (.istore 6, 2) := by decide +kernel
theorem dX10_passesAll_6 : decode cX10_passesAll 6 = .ok (.iload 6, 2) := by decide +kernel
theorem dX10_passesAll_8 : decode cX10_passesAll 8 = .ok (.iload 4, 2) := by decide +kernel
theorem dX10_passesAll_10 : decode cX10_passesAll 10 = .ok (.if_icmp .ge 32, 3) := by decide +kernel
theorem dX10_passesAll_13 : decode cX10_passesAll 13 = .ok (.iload 5, 2) := by decide +kernel
theorem dX10_passesAll_15 : decode cX10_passesAll 15 = .ok (.ifCond .lt 27, 3) := by decide +kernel
theorem dX10_passesAll_18 : decode cX10_passesAll 18 = .ok (.aload_n 0, 1) := by decide +kernel
theorem dX10_passesAll_19 : decode cX10_passesAll 19 = .ok (.aload_n 0, 1) := by decide +kernel
theorem dX10_passesAll_20 : decode cX10_passesAll 20 = .ok (.getfield 71, 3) := by decide +kernel
theorem dX10_passesAll_23 : decode cX10_passesAll 23 = .ok (.iload_n 3, 1) := by decide +kernel
theorem dX10_passesAll_24 : decode cX10_passesAll 24 = .ok (.iload 6, 2) := by decide +kernel
theorem dX10_passesAll_26 : decode cX10_passesAll 26 = .ok (.iadd, 1) := by decide +kernel
theorem dX10_passesAll_27 : decode cX10_passesAll 27 = .ok (.iaload, 1) := by decide +kernel
theorem dX10_passesAll_28 : decode cX10_passesAll 28 = .ok (.iload 5, 2) := by decide +kernel
theorem dX10_passesAll_30 : decode cX10_passesAll 30 = .ok (.iload_n 1, 1) := by decide +kernel
theorem dX10_passesAll_31 : decode cX10_passesAll 31 = .ok (.invokevirtual 200, 3) := by decide +kernel
theorem dX10_passesAll_34 : decode cX10_passesAll 34 = .ok (.istore 5, 2) := by decide +kernel
theorem dX10_passesAll_36 : decode cX10_passesAll 36 = .ok (.iinc 6 1, 3) := by decide +kernel
theorem dX10_passesAll_39 : decode cX10_passesAll 39 = .ok (.goto (-33), 3) := by decide +kernel
theorem dX10_passesAll_42 : decode cX10_passesAll 42 = .ok (.iload 5, 2) := by decide +kernel
theorem dX10_passesAll_44 : decode cX10_passesAll 44 = .ok (.ifCond .lt 7, 3) := by decide +kernel
theorem dX10_passesAll_47 : decode cX10_passesAll 47 = .ok (.iconst 1, 1) := by decide +kernel
theorem dX10_passesAll_48 : decode cX10_passesAll 48 = .ok (.goto 4, 3) := by decide +kernel
theorem dX10_passesAll_51 : decode cX10_passesAll 51 = .ok (.iconst 0, 1) := by decide +kernel
theorem dX10_passesAll_52 : decode cX10_passesAll 52 = .ok (.ireturn, 1) := by decide +kernel
theorem dX10_areDoors_0 : decode cX10_areDoors 0 = .ok (.iconst 1, 1) := by decide +kernel
theorem dX10_areDoors_1 : decode cX10_areDoors 1 = .ok (.istore_n 3, 1) := by decide +kernel
theorem dX10_areDoors_2 : decode cX10_areDoors 2 = .ok (.iconst 0, 1) := by decide +kernel
theorem dX10_areDoors_3 : decode cX10_areDoors 3 = .ok (.istore 4, 2) := by decide +kernel
theorem dX10_areDoors_5 : decode cX10_areDoors 5 = .ok (.iload 4, 2) := by decide +kernel
theorem dX10_areDoors_7 : decode cX10_areDoors 7 = .ok (.iload_n 2, 1) := by decide +kernel
theorem dX10_areDoors_8 : decode cX10_areDoors 8 = .ok (.if_icmp .ge 35, 3) := by decide +kernel
theorem dX10_areDoors_11 : decode cX10_areDoors 11 = .ok (.iload_n 3, 1) := by decide +kernel
theorem dX10_areDoors_12 : decode cX10_areDoors 12 = .ok (.ifCond .eq 23, 3) := by decide +kernel
theorem dX10_areDoors_15 : decode cX10_areDoors 15 = .ok (.aload_n 0, 1) := by decide +kernel
theorem dX10_areDoors_16 : decode cX10_areDoors 16 = .ok (.aload_n 0, 1) := by decide +kernel
theorem dX10_areDoors_17 : decode cX10_areDoors 17 = .ok (.getfield 71, 3) := by decide +kernel
theorem dX10_areDoors_20 : decode cX10_areDoors 20 = .ok (.iload_n 1, 1) := by decide +kernel
theorem dX10_areDoors_21 : decode cX10_areDoors 21 = .ok (.iload 4, 2) := by decide +kernel
theorem dX10_areDoors_23 : decode cX10_areDoors 23 = .ok (.iadd, 1) := by decide +kernel
theorem dX10_areDoors_24 : decode cX10_areDoors 24 = .ok (.iaload, 1) := by decide +kernel
theorem dX10_areDoors_25 : decode cX10_areDoors 25 = .ok (.invokevirtual 164, 3) := by decide +kernel
theorem dX10_areDoors_28 : decode cX10_areDoors 28 = .ok (.ifCond .ne 7, 3) := by decide +kernel
theorem dX10_areDoors_31 : decode cX10_areDoors 31 = .ok (.iconst 1, 1) := by decide +kernel
theorem dX10_areDoors_32 : decode cX10_areDoors 32 = .ok (.goto 4, 3) := by decide +kernel
theorem dX10_areDoors_35 : decode cX10_areDoors 35 = .ok (.iconst 0, 1) := by decide +kernel
theorem dX10_areDoors_36 : decode cX10_areDoors 36 = .ok (.istore_n 3, 1) := by decide +kernel
theorem dX10_areDoors_37 : decode cX10_areDoors 37 = .ok (.iinc 4 1, 3) := by decide +kernel
theorem dX10_areDoors_40 : decode cX10_areDoors 40 = .ok (.goto (-35), 3) := by decide +kernel
theorem dX10_areDoors_43 : decode cX10_areDoors 43 = .ok (.iload_n 3, 1) := by decide +kernel
theorem dX10_areDoors_44 : decode cX10_areDoors 44 = .ok (.ireturn, 1) := by decide +kernel
theorem dX10_heard_0 : decode cX10_heard 0 = .ok (.aload_n 0, 1) := by decide +kernel
theorem dX10_heard_1 : decode cX10_heard 1 = .ok (.iload_n 1, 1) := by decide +kernel
theorem dX10_heard_2 : decode cX10_heard 2 = .ok (.iload_n 2, 1) := by decide +kernel
theorem dX10_heard_3 : decode cX10_heard 3 = .ok (.iload_n 3, 1) := by decide +kernel
theorem dX10_heard_4 : decode cX10_heard 4 = .ok (.iload 4, 2) := by decide +kernel
theorem dX10_heard_6 : decode cX10_heard 6 = .ok (.i2l, 1) := by decide +kernel
theorem dX10_heard_7 : decode cX10_heard 7 = .ok (.invokevirtual 138, 3) := by decide +kernel
theorem dX10_heard_10 : decode cX10_heard 10 = .ok (.istore 5, 2) := by decide +kernel
theorem dX10_heard_12 : decode cX10_heard 12 = .ok (.iload 5, 2) := by decide +kernel
theorem dX10_heard_14 : decode cX10_heard 14 = .ok (.ifCond .ge 6, 3) := by decide +kernel
theorem dX10_heard_17 : decode cX10_heard 17 = .ok (.iload 5, 2) := by decide +kernel
theorem dX10_heard_19 : decode cX10_heard 19 = .ok (.ireturn, 1) := by decide +kernel
theorem dX10_heard_20 : decode cX10_heard 20 = .ok (.bipush 60, 2) := by decide +kernel
theorem dX10_heard_22 : decode cX10_heard 22 = .ok (.iload_n 1, 1) := by decide +kernel
theorem dX10_heard_23 : decode cX10_heard 23 = .ok (.imul, 1) := by decide +kernel
theorem dX10_heard_24 : decode cX10_heard 24 = .ok (.iload_n 3, 1) := by decide +kernel
theorem dX10_heard_25 : decode cX10_heard 25 = .ok (.iadd, 1) := by decide +kernel
theorem dX10_heard_26 : decode cX10_heard 26 = .ok (.istore 6, 2) := by decide +kernel
theorem dX10_heard_28 : decode cX10_heard 28 = .ok (.aload_n 0, 1) := by decide +kernel
theorem dX10_heard_29 : decode cX10_heard 29 = .ok (.iload 6, 2) := by decide +kernel
theorem dX10_heard_31 : decode cX10_heard 31 = .ok (.iload 4, 2) := by decide +kernel
theorem dX10_heard_33 : decode cX10_heard 33 = .ok (.invokevirtual 254, 3) := by decide +kernel
theorem dX10_heard_36 : decode cX10_heard 36 = .ok (.ifCond .ne 9, 3) := by decide +kernel
theorem dX10_heard_39 : decode cX10_heard 39 = .ok (.aload_n 0, 1) := by decide +kernel
theorem dX10_heard_40 : decode cX10_heard 40 = .ok (.iconst (-1), 1) := by decide +kernel
theorem dX10_heard_41 : decode cX10_heard 41 = .ok (.invokevirtual 91, 3) := by decide +kernel
theorem dX10_heard_44 : decode cX10_heard 44 = .ok (.ireturn, 1) := by decide +kernel
theorem dX10_heard_45 : decode cX10_heard 45 = .ok (.iconst 0, 1) := by decide +kernel
theorem dX10_heard_46 : decode cX10_heard 46 = .ok (.istore 7, 2) := by decide +kernel
theorem dX10_heard_48 : decode cX10_heard 48 = .ok (.iconst 0, 1) := by decide +kernel
theorem dX10_heard_49 : decode cX10_heard 49 = .ok (.istore 8, 2) := by decide +kernel
theorem dX10_heard_51 : decode cX10_heard 51 = .ok (.iload 8, 2) := by decide +kernel
theorem dX10_heard_53 : decode cX10_heard 53 = .ok (.aload_n 0, 1) := by decide +kernel
theorem dX10_heard_54 : decode cX10_heard 54 = .ok (.getfield 145, 3) := by decide +kernel
theorem dX10_heard_57 : decode cX10_heard 57 = .ok (.if_icmp .ge 46, 3) := by decide +kernel
theorem dX10_heard_60 : decode cX10_heard 60 = .ok (.iload 7, 2) := by decide +kernel
theorem dX10_heard_62 : decode cX10_heard 62 = .ok (.aload_n 0, 1) := by decide +kernel
theorem dX10_heard_63 : decode cX10_heard 63 = .ok (.aload_n 0, 1) := by decide +kernel
theorem dX10_heard_64 : decode cX10_heard 64 = .ok (.iload 8, 2) := by decide +kernel
theorem dX10_heard_66 : decode cX10_heard 66 = .ok (.invokevirtual 182, 3) := by decide +kernel
theorem dX10_heard_69 : decode cX10_heard 69 = .ok (.aload_n 0, 1) := by decide +kernel
theorem dX10_heard_70 : decode cX10_heard 70 = .ok (.getfield 31, 3) := by decide +kernel
theorem dX10_heard_73 : decode cX10_heard 73 = .ok (.iload 8, 2) := by decide +kernel
theorem dX10_heard_75 : decode cX10_heard 75 = .ok (.iaload, 1) := by decide +kernel
theorem dX10_heard_76 : decode cX10_heard 76 = .ok (.iload 6, 2) := by decide +kernel
theorem dX10_heard_78 : decode cX10_heard 78 = .ok (.iload 4, 2) := by decide +kernel
theorem dX10_heard_80 : decode cX10_heard 80 = .ok (.invokevirtual 257, 3) := by decide +kernel
theorem dX10_heard_83 : decode cX10_heard 83 = .ok (.ifCond .eq 10, 3) := by decide +kernel
theorem dX10_heard_86 : decode cX10_heard 86 = .ok (.iconst 1, 1) := by decide +kernel
theorem dX10_heard_87 : decode cX10_heard 87 = .ok (.iload 8, 2) := by decide +kernel
theorem dX10_heard_89 : decode cX10_heard 89 = .ok (.ishl, 1) := by decide +kernel
theorem dX10_heard_90 : decode cX10_heard 90 = .ok (.goto 4, 3) := by decide +kernel
theorem dX10_heard_93 : decode cX10_heard 93 = .ok (.iconst 0, 1) := by decide +kernel
theorem dX10_heard_94 : decode cX10_heard 94 = .ok (.ior, 1) := by decide +kernel
theorem dX10_heard_95 : decode cX10_heard 95 = .ok (.istore 7, 2) := by decide +kernel
theorem dX10_heard_97 : decode cX10_heard 97 = .ok (.iinc 8 1, 3) := by decide +kernel
theorem dX10_heard_100 : decode cX10_heard 100 = .ok (.goto (-49), 3) := by decide +kernel
theorem dX10_heard_103 : decode cX10_heard 103 = .ok (.aload_n 0, 1) := by decide +kernel
theorem dX10_heard_104 : decode cX10_heard 104 = .ok (.iload 7, 2) := by decide +kernel
theorem dX10_heard_106 : decode cX10_heard 106 = .ok (.invokevirtual 91, 3) := by decide +kernel
theorem dX10_heard_109 : decode cX10_heard 109 = .ok (.ireturn, 1) := by decide +kernel
theorem dX10_byStrangers_0 : decode cX10_byStrangers 0 = .ok (.aload_n 0, 1) := by decide +kernel
theorem dX10_byStrangers_1 : decode cX10_byStrangers 1 = .ok (.iload_n 1, 1) := by decide +kernel
theorem dX10_byStrangers_2 : decode cX10_byStrangers 2 = .ok (.invokevirtual 167, 3) := by decide +kernel
theorem dX10_byStrangers_5 : decode cX10_byStrangers 5 = .ok (.ifCond .eq 9, 3) := by decide +kernel
theorem dX10_byStrangers_8 : decode cX10_byStrangers 8 = .ok (.aload_n 0, 1) := by decide +kernel
theorem dX10_byStrangers_9 : decode cX10_byStrangers 9 = .ok (.iconst (-1), 1) := by decide +kernel
theorem dX10_byStrangers_10 : decode cX10_byStrangers 10 = .ok (.invokevirtual 91, 3) := by decide +kernel
theorem dX10_byStrangers_13 : decode cX10_byStrangers 13 = .ok (.ireturn, 1) := by decide +kernel
theorem dX10_byStrangers_14 : decode cX10_byStrangers 14 = .ok (.aload_n 0, 1) := by decide +kernel
theorem dX10_byStrangers_15 : decode cX10_byStrangers 15 = .ok (.iload_n 2, 1) := by decide +kernel
theorem dX10_byStrangers_16 : decode cX10_byStrangers 16 = .ok (.iload_n 3, 1) := by decide +kernel
theorem dX10_byStrangers_17 : decode cX10_byStrangers 17 = .ok (.iload 4, 2) := by decide +kernel
theorem dX10_byStrangers_19 : decode cX10_byStrangers 19 = .ok (.iload 5, 2) := by decide +kernel
theorem dX10_byStrangers_21 : decode cX10_byStrangers 21 = .ok (.i2l, 1) := by decide +kernel
theorem dX10_byStrangers_22 : decode cX10_byStrangers 22 = .ok (.invokevirtual 138, 3) := by decide +kernel
theorem dX10_byStrangers_25 : decode cX10_byStrangers 25 = .ok (.istore 6, 2) := by decide +kernel
theorem dX10_byStrangers_27 : decode cX10_byStrangers 27 = .ok (.iload 6, 2) := by decide +kernel
theorem dX10_byStrangers_29 : decode cX10_byStrangers 29 = .ok (.ifCond .ge 6, 3) := by decide +kernel
theorem dX10_byStrangers_32 : decode cX10_byStrangers 32 = .ok (.iload 6, 2) := by decide +kernel
theorem dX10_byStrangers_34 : decode cX10_byStrangers 34 = .ok (.ireturn, 1) := by decide +kernel
theorem dX10_byStrangers_35 : decode cX10_byStrangers 35 = .ok (.bipush 60, 2) := by decide +kernel
theorem dX10_byStrangers_37 : decode cX10_byStrangers 37 = .ok (.iload_n 2, 1) := by decide +kernel
theorem dX10_byStrangers_38 : decode cX10_byStrangers 38 = .ok (.imul, 1) := by decide +kernel
theorem dX10_byStrangers_39 : decode cX10_byStrangers 39 = .ok (.iload 4, 2) := by decide +kernel
theorem dX10_byStrangers_41 : decode cX10_byStrangers 41 = .ok (.iadd, 1) := by decide +kernel
theorem dX10_byStrangers_42 : decode cX10_byStrangers 42 = .ok (.istore 7, 2) := by decide +kernel
theorem dX10_byStrangers_44 : decode cX10_byStrangers 44 = .ok (.aload_n 0, 1) := by decide +kernel
theorem dX10_byStrangers_45 : decode cX10_byStrangers 45 = .ok (.iload 7, 2) := by decide +kernel
theorem dX10_byStrangers_47 : decode cX10_byStrangers 47 = .ok (.iload 5, 2) := by decide +kernel
theorem dX10_byStrangers_49 : decode cX10_byStrangers 49 = .ok (.invokevirtual 254, 3) := by decide +kernel
theorem dX10_byStrangers_52 : decode cX10_byStrangers 52 = .ok (.ifCond .ne 9, 3) := by decide +kernel
theorem dX10_byStrangers_55 : decode cX10_byStrangers 55 = .ok (.aload_n 0, 1) := by decide +kernel
theorem dX10_byStrangers_56 : decode cX10_byStrangers 56 = .ok (.iconst (-1), 1) := by decide +kernel
theorem dX10_byStrangers_57 : decode cX10_byStrangers 57 = .ok (.invokevirtual 91, 3) := by decide +kernel
theorem dX10_byStrangers_60 : decode cX10_byStrangers 60 = .ok (.ireturn, 1) := by decide +kernel
theorem dX10_byStrangers_61 : decode cX10_byStrangers 61 = .ok (.iconst 0, 1) := by decide +kernel
theorem dX10_byStrangers_62 : decode cX10_byStrangers 62 = .ok (.istore 8, 2) := by decide +kernel
theorem dX10_byStrangers_64 : decode cX10_byStrangers 64 = .ok (.bipush 10, 2) := by decide +kernel
theorem dX10_byStrangers_66 : decode cX10_byStrangers 66 = .ok (.istore 9, 2) := by decide +kernel
theorem dX10_byStrangers_68 : decode cX10_byStrangers 68 = .ok (.iload 9, 2) := by decide +kernel
theorem dX10_byStrangers_70 : decode cX10_byStrangers 70 = .ok (.bipush 100, 2) := by decide +kernel
theorem dX10_byStrangers_72 : decode cX10_byStrangers 72 = .ok (.if_icmp .ge 33, 3) := by decide +kernel
theorem dX10_byStrangers_75 : decode cX10_byStrangers 75 = .ok (.iload 8, 2) := by decide +kernel
theorem dX10_byStrangers_77 : decode cX10_byStrangers 77 = .ok (.aload_n 0, 1) := by decide +kernel
theorem dX10_byStrangers_78 : decode cX10_byStrangers 78 = .ok (.iload 9, 2) := by decide +kernel
theorem dX10_byStrangers_80 : decode cX10_byStrangers 80 = .ok (.iload_n 1, 1) := by decide +kernel
theorem dX10_byStrangers_81 : decode cX10_byStrangers 81 = .ok (.iload 7, 2) := by decide +kernel
theorem dX10_byStrangers_83 : decode cX10_byStrangers 83 = .ok (.iload 5, 2) := by decide +kernel
theorem dX10_byStrangers_85 : decode cX10_byStrangers 85 = .ok (.invokevirtual 257, 3) := by decide +kernel
theorem dX10_byStrangers_88 : decode cX10_byStrangers 88 = .ok (.ifCond .eq 7, 3) := by decide +kernel
theorem dX10_byStrangers_91 : decode cX10_byStrangers 91 = .ok (.iconst 1, 1) := by decide +kernel
theorem dX10_byStrangers_92 : decode cX10_byStrangers 92 = .ok (.goto 4, 3) := by decide +kernel
theorem dX10_byStrangers_95 : decode cX10_byStrangers 95 = .ok (.iconst 0, 1) := by decide +kernel
theorem dX10_byStrangers_96 : decode cX10_byStrangers 96 = .ok (.iadd, 1) := by decide +kernel
theorem dX10_byStrangers_97 : decode cX10_byStrangers 97 = .ok (.istore 8, 2) := by decide +kernel
theorem dX10_byStrangers_99 : decode cX10_byStrangers 99 = .ok (.iinc 9 1, 3) := by decide +kernel
theorem dX10_byStrangers_102 : decode cX10_byStrangers 102 = .ok (.goto (-34), 3) := by decide +kernel
theorem dX10_byStrangers_105 : decode cX10_byStrangers 105 = .ok (.aload_n 0, 1) := by decide +kernel
theorem dX10_byStrangers_106 : decode cX10_byStrangers 106 = .ok (.iload 8, 2) := by decide +kernel
theorem dX10_byStrangers_108 : decode cX10_byStrangers 108 = .ok (.invokevirtual 91, 3) := by decide +kernel
theorem dX10_byStrangers_111 : decode cX10_byStrangers 111 = .ok (.ireturn, 1) := by decide +kernel
theorem dX10_grows_0 : decode cX10_grows 0 = .ok (.aload_n 0, 1) := by decide +kernel
theorem dX10_grows_1 : decode cX10_grows 1 = .ok (.iload_n 1, 1) := by decide +kernel
theorem dX10_grows_2 : decode cX10_grows 2 = .ok (.invokevirtual 176, 3) := by decide +kernel
theorem dX10_grows_5 : decode cX10_grows 5 = .ok (.ifCond .ne 11, 3) := by decide +kernel
theorem dX10_grows_8 : decode cX10_grows 8 = .ok (.aload_n 0, 1) := by decide +kernel
theorem dX10_grows_9 : decode cX10_grows 9 = .ok (.iload_n 3, 1) := by decide +kernel
theorem dX10_grows_10 : decode cX10_grows 10 = .ok (.invokevirtual 167, 3) := by decide +kernel
theorem dX10_grows_13 : decode cX10_grows 13 = .ok (.ifCond .eq 5, 3) := by decide +kernel
theorem dX10_grows_16 : decode cX10_grows 16 = .ok (.iconst (-1), 1) := by decide +kernel
theorem dX10_grows_17 : decode cX10_grows 17 = .ok (.ireturn, 1) := by decide +kernel
theorem dX10_grows_18 : decode cX10_grows 18 = .ok (.iload_n 2, 1) := by decide +kernel
theorem dX10_grows_19 : decode cX10_grows 19 = .ok (.i2l, 1) := by decide +kernel
theorem dX10_grows_20 : decode cX10_grows 20 = .ok (.lconst 0, 1) := by decide +kernel
theorem dX10_grows_21 : decode cX10_grows 21 = .ok (.ldc2_w 261, 3) := by decide +kernel
theorem dX10_grows_24 : decode cX10_grows 24 = .ok (.invokestatic 97, 3) := by decide +kernel
theorem dX10_grows_27 : decode cX10_grows 27 = .ok (.ifCond .ne 6, 3) := by decide +kernel
theorem dX10_grows_30 : decode cX10_grows 30 = .ok (.bipush (-2), 2) := by decide +kernel
theorem dX10_grows_32 : decode cX10_grows 32 = .ok (.ireturn, 1) := by decide +kernel
theorem dX10_grows_33 : decode cX10_grows 33 = .ok (.iconst 0, 1) := by decide +kernel
theorem dX10_grows_34 : decode cX10_grows 34 = .ok (.istore 4, 2) := by decide +kernel
theorem dX10_grows_36 : decode cX10_grows 36 = .ok (.iload 4, 2) := by decide +kernel
theorem dX10_grows_38 : decode cX10_grows 38 = .ok (.bipush 31, 2) := by decide +kernel
theorem dX10_grows_40 : decode cX10_grows 40 = .ok (.if_icmp .ge 37, 3) := by decide +kernel
theorem dX10_grows_43 : decode cX10_grows 43 = .ok (.aload_n 0, 1) := by decide +kernel
theorem dX10_grows_44 : decode cX10_grows 44 = .ok (.aload_n 0, 1) := by decide +kernel
theorem dX10_grows_45 : decode cX10_grows 45 = .ok (.getfield 28, 3) := by decide +kernel
theorem dX10_grows_48 : decode cX10_grows 48 = .ok (.iload_n 1, 1) := by decide +kernel
theorem dX10_grows_49 : decode cX10_grows 49 = .ok (.iaload, 1) := by decide +kernel
theorem dX10_grows_50 : decode cX10_grows 50 = .ok (.iload_n 2, 1) := by decide +kernel
theorem dX10_grows_51 : decode cX10_grows 51 = .ok (.iload 4, 2) := by decide +kernel
theorem dX10_grows_53 : decode cX10_grows 53 = .ok (.imul, 1) := by decide +kernel
theorem dX10_grows_54 : decode cX10_grows 54 = .ok (.iadd, 1) := by decide +kernel
theorem dX10_grows_55 : decode cX10_grows 55 = .ok (.aload_n 0, 1) := by decide +kernel
theorem dX10_grows_56 : decode cX10_grows 56 = .ok (.getfield 31, 3) := by decide +kernel
theorem dX10_grows_59 : decode cX10_grows 59 = .ok (.iload_n 1, 1) := by decide +kernel
theorem dX10_grows_60 : decode cX10_grows 60 = .ok (.iaload, 1) := by decide +kernel
theorem dX10_grows_61 : decode cX10_grows 61 = .ok (.iload_n 3, 1) := by decide +kernel
theorem dX10_grows_62 : decode cX10_grows 62 = .ok (.invokevirtual 245, 3) := by decide +kernel
theorem dX10_grows_65 : decode cX10_grows 65 = .ok (.ifCond .ne 6, 3) := by decide +kernel
theorem dX10_grows_68 : decode cX10_grows 68 = .ok (.iload 4, 2) := by decide +kernel
theorem dX10_grows_70 : decode cX10_grows 70 = .ok (.ireturn, 1) := by decide +kernel
theorem dX10_grows_71 : decode cX10_grows 71 = .ok (.iinc 4 1, 3) := by decide +kernel
theorem dX10_grows_74 : decode cX10_grows 74 = .ok (.goto (-38), 3) := by decide +kernel
theorem dX10_grows_77 : decode cX10_grows 77 = .ok (.bipush (-9), 2) := by decide +kernel
theorem dX10_grows_79 : decode cX10_grows 79 = .ok (.ireturn, 1) := by decide +kernel
theorem dX10_noSheet_0 : decode cX10_noSheet 0 = .ok (.iload_n 0, 1) := by decide +kernel
theorem dX10_noSheet_1 : decode cX10_noSheet 1 = .ok (.i2l, 1) := by decide +kernel
theorem dX10_noSheet_2 : decode cX10_noSheet 2 = .ok (.lconst 0, 1) := by decide +kernel
theorem dX10_noSheet_3 : decode cX10_noSheet 3 = .ok (.ldc2_w 263, 3) := by decide +kernel
theorem dX10_noSheet_6 : decode cX10_noSheet 6 = .ok (.invokestatic 97, 3) := by decide +kernel
theorem dX10_noSheet_9 : decode cX10_noSheet 9 = .ok (.ifCond .ne 7, 3) := by decide +kernel
theorem dX10_noSheet_12 : decode cX10_noSheet 12 = .ok (.iconst 1, 1) := by decide +kernel
theorem dX10_noSheet_13 : decode cX10_noSheet 13 = .ok (.goto 4, 3) := by decide +kernel
theorem dX10_noSheet_16 : decode cX10_noSheet 16 = .ok (.iconst 0, 1) := by decide +kernel
theorem dX10_noSheet_17 : decode cX10_noSheet 17 = .ok (.ireturn, 1) := by decide +kernel
theorem dX10_sheet_0 : decode cX10_sheet 0 = .ok (.iload_n 1, 1) := by decide +kernel
theorem dX10_sheet_1 : decode cX10_sheet 1 = .ok (.invokestatic 87, 3) := by decide +kernel
theorem dX10_sheet_4 : decode cX10_sheet 4 = .ok (.ifCond .eq 9, 3) := by decide +kernel
theorem dX10_sheet_7 : decode cX10_sheet 7 = .ok (.aload_n 0, 1) := by decide +kernel
theorem dX10_sheet_8 : decode cX10_sheet 8 = .ok (.iconst (-1), 1) := by decide +kernel
theorem dX10_sheet_9 : decode cX10_sheet 9 = .ok (.invokevirtual 91, 3) := by decide +kernel
theorem dX10_sheet_12 : decode cX10_sheet 12 = .ok (.ireturn, 1) := by decide +kernel
theorem dX10_sheet_13 : decode cX10_sheet 13 = .ok (.iload_n 2, 1) := by decide +kernel
theorem dX10_sheet_14 : decode cX10_sheet 14 = .ok (.i2l, 1) := by decide +kernel
theorem dX10_sheet_15 : decode cX10_sheet 15 = .ok (.lconst 0, 1) := by decide +kernel
theorem dX10_sheet_16 : decode cX10_sheet 16 = .ok (.ldc2_w 95, 3) := by decide +kernel
theorem dX10_sheet_19 : decode cX10_sheet 19 = .ok (.invokestatic 97, 3) := by decide +kernel
theorem dX10_sheet_22 : decode cX10_sheet 22 = .ok (.ifCond .eq 9, 3) := by decide +kernel
theorem dX10_sheet_25 : decode cX10_sheet 25 = .ok (.iload_n 3, 1) := by decide +kernel
theorem dX10_sheet_26 : decode cX10_sheet 26 = .ok (.bipush 60, 2) := by decide +kernel
theorem dX10_sheet_28 : decode cX10_sheet 28 = .ok (.if_icmp .le 10, 3) := by decide +kernel
theorem dX10_sheet_31 : decode cX10_sheet 31 = .ok (.aload_n 0, 1) := by decide +kernel
theorem dX10_sheet_32 : decode cX10_sheet 32 = .ok (.bipush (-2), 2) := by decide +kernel
theorem dX10_sheet_34 : decode cX10_sheet 34 = .ok (.invokevirtual 91, 3) := by decide +kernel
theorem dX10_sheet_37 : decode cX10_sheet 37 = .ok (.ireturn, 1) := by decide +kernel
theorem dX10_sheet_38 : decode cX10_sheet 38 = .ok (.iload_n 3, 1) := by decide +kernel
theorem dX10_sheet_39 : decode cX10_sheet 39 = .ok (.ifCond .ge 9, 3) := by decide +kernel
theorem dX10_sheet_42 : decode cX10_sheet 42 = .ok (.aload_n 0, 1) := by decide +kernel
theorem dX10_sheet_43 : decode cX10_sheet 43 = .ok (.iconst 4, 1) := by decide +kernel
theorem dX10_sheet_44 : decode cX10_sheet 44 = .ok (.invokevirtual 101, 3) := by decide +kernel
theorem dX10_sheet_47 : decode cX10_sheet 47 = .ok (.ireturn, 1) := by decide +kernel
theorem dX10_sheet_48 : decode cX10_sheet 48 = .ok (.aload_n 0, 1) := by decide +kernel
theorem dX10_sheet_49 : decode cX10_sheet 49 = .ok (.getfield 65, 3) := by decide +kernel
theorem dX10_sheet_52 : decode cX10_sheet 52 = .ok (.iload_n 1, 1) := by decide +kernel
theorem dX10_sheet_53 : decode cX10_sheet 53 = .ok (.iload_n 3, 1) := by decide +kernel
theorem dX10_sheet_54 : decode cX10_sheet 54 = .ok (.iastore, 1) := by decide +kernel
theorem dX10_sheet_55 : decode cX10_sheet 55 = .ok (.aload_n 0, 1) := by decide +kernel
theorem dX10_sheet_56 : decode cX10_sheet 56 = .ok (.getfield 68, 3) := by decide +kernel
theorem dX10_sheet_59 : decode cX10_sheet 59 = .ok (.iload_n 1, 1) := by decide +kernel
theorem dX10_sheet_60 : decode cX10_sheet 60 = .ok (.iload_n 2, 1) := by decide +kernel
theorem dX10_sheet_61 : decode cX10_sheet 61 = .ok (.iastore, 1) := by decide +kernel
theorem dX10_sheet_62 : decode cX10_sheet 62 = .ok (.iconst 0, 1) := by decide +kernel
theorem dX10_sheet_63 : decode cX10_sheet 63 = .ok (.istore 4, 2) := by decide +kernel
theorem dX10_sheet_65 : decode cX10_sheet 65 = .ok (.iload 4, 2) := by decide +kernel
theorem dX10_sheet_67 : decode cX10_sheet 67 = .ok (.iload_n 3, 1) := by decide +kernel
theorem dX10_sheet_68 : decode cX10_sheet 68 = .ok (.if_icmp .ge 22, 3) := by decide +kernel
theorem dX10_sheet_71 : decode cX10_sheet 71 = .ok (.aload_n 0, 1) := by decide +kernel
theorem dX10_sheet_72 : decode cX10_sheet 72 = .ok (.getfield 71, 3) := by decide +kernel
theorem dX10_sheet_75 : decode cX10_sheet 75 = .ok (.bipush 60, 2) := by decide +kernel
theorem dX10_sheet_77 : decode cX10_sheet 77 = .ok (.iload_n 1, 1) := by decide +kernel
theorem dX10_sheet_78 : decode cX10_sheet 78 = .ok (.imul, 1) := by decide +kernel
theorem dX10_sheet_79 : decode cX10_sheet 79 = .ok (.iload 4, 2) := by decide +kernel
theorem dX10_sheet_81 : decode cX10_sheet 81 = .ok (.iadd, 1) := by decide +kernel
theorem dX10_sheet_82 : decode cX10_sheet 82 = .ok (.iconst 0, 1) := by decide +kernel
theorem dX10_sheet_83 : decode cX10_sheet 83 = .ok (.iastore, 1) := by decide +kernel
theorem dX10_sheet_84 : decode cX10_sheet 84 = .ok (.iinc 4 1, 3) := by decide +kernel
theorem dX10_sheet_87 : decode cX10_sheet 87 = .ok (.goto (-22), 3) := by decide +kernel
theorem dX10_sheet_90 : decode cX10_sheet 90 = .ok (.aload_n 0, 1) := by decide +kernel
theorem dX10_sheet_91 : decode cX10_sheet 91 = .ok (.iconst 1, 1) := by decide +kernel
theorem dX10_sheet_92 : decode cX10_sheet 92 = .ok (.invokevirtual 91, 3) := by decide +kernel
theorem dX10_sheet_95 : decode cX10_sheet 95 = .ok (.ireturn, 1) := by decide +kernel
theorem dX10_lose_0 : decode cX10_lose 0 = .ok (.iload_n 1, 1) := by decide +kernel
theorem dX10_lose_1 : decode cX10_lose 1 = .ok (.invokestatic 87, 3) := by decide +kernel
theorem dX10_lose_4 : decode cX10_lose 4 = .ok (.ifCond .eq 5, 3) := by decide +kernel
theorem dX10_lose_7 : decode cX10_lose 7 = .ok (.iconst (-1), 1) := by decide +kernel
theorem dX10_lose_8 : decode cX10_lose 8 = .ok (.ireturn, 1) := by decide +kernel
theorem dX10_lose_9 : decode cX10_lose 9 = .ok (.aload_n 0, 1) := by decide +kernel
theorem dX10_lose_10 : decode cX10_lose 10 = .ok (.getfield 65, 3) := by decide +kernel
theorem dX10_lose_13 : decode cX10_lose 13 = .ok (.iload_n 1, 1) := by decide +kernel
theorem dX10_lose_14 : decode cX10_lose 14 = .ok (.iaload, 1) := by decide +kernel
theorem dX10_lose_15 : decode cX10_lose 15 = .ok (.ifCond .ge 7, 3) := by decide +kernel
theorem dX10_lose_18 : decode cX10_lose 18 = .ok (.iconst 0, 1) := by decide +kernel
theorem dX10_lose_19 : decode cX10_lose 19 = .ok (.goto 4, 3) := by decide +kernel
theorem dX10_lose_22 : decode cX10_lose 22 = .ok (.iconst 1, 1) := by decide +kernel
theorem dX10_lose_23 : decode cX10_lose 23 = .ok (.istore_n 2, 1) := by decide +kernel
theorem dX10_lose_24 : decode cX10_lose 24 = .ok (.aload_n 0, 1) := by decide +kernel
theorem dX10_lose_25 : decode cX10_lose 25 = .ok (.getfield 65, 3) := by decide +kernel
theorem dX10_lose_28 : decode cX10_lose 28 = .ok (.iload_n 1, 1) := by decide +kernel
theorem dX10_lose_29 : decode cX10_lose 29 = .ok (.iconst (-1), 1) := by decide +kernel
theorem dX10_lose_30 : decode cX10_lose 30 = .ok (.iastore, 1) := by decide +kernel
theorem dX10_lose_31 : decode cX10_lose 31 = .ok (.iload_n 2, 1) := by decide +kernel
theorem dX10_lose_32 : decode cX10_lose 32 = .ok (.ireturn, 1) := by decide +kernel
theorem dX10_noCell_0 : decode cX10_noCell 0 = .ok (.aload_n 0, 1) := by decide +kernel
theorem dX10_noCell_1 : decode cX10_noCell 1 = .ok (.getfield 65, 3) := by decide +kernel
theorem dX10_noCell_4 : decode cX10_noCell 4 = .ok (.iload_n 1, 1) := by decide +kernel
theorem dX10_noCell_5 : decode cX10_noCell 5 = .ok (.iaload, 1) := by decide +kernel
theorem dX10_noCell_6 : decode cX10_noCell 6 = .ok (.ifCond .ge 7, 3) := by decide +kernel
theorem dX10_noCell_9 : decode cX10_noCell 9 = .ok (.iconst 1, 1) := by decide +kernel
theorem dX10_noCell_10 : decode cX10_noCell 10 = .ok (.goto 26, 3) := by decide +kernel
theorem dX10_noCell_13 : decode cX10_noCell 13 = .ok (.iload_n 2, 1) := by decide +kernel
theorem dX10_noCell_14 : decode cX10_noCell 14 = .ok (.i2l, 1) := by decide +kernel
theorem dX10_noCell_15 : decode cX10_noCell 15 = .ok (.lconst 0, 1) := by decide +kernel
theorem dX10_noCell_16 : decode cX10_noCell 16 = .ok (.aload_n 0, 1) := by decide +kernel
theorem dX10_noCell_17 : decode cX10_noCell 17 = .ok (.getfield 65, 3) := by decide +kernel
theorem dX10_noCell_20 : decode cX10_noCell 20 = .ok (.iload_n 1, 1) := by decide +kernel
theorem dX10_noCell_21 : decode cX10_noCell 21 = .ok (.iaload, 1) := by decide +kernel
theorem dX10_noCell_22 : decode cX10_noCell 22 = .ok (.i2l, 1) := by decide +kernel
theorem dX10_noCell_23 : decode cX10_noCell 23 = .ok (.lconst 1, 1) := by decide +kernel
theorem dX10_noCell_24 : decode cX10_noCell 24 = .ok (.lsub, 1) := by decide +kernel
theorem dX10_noCell_25 : decode cX10_noCell 25 = .ok (.invokestatic 97, 3) := by decide +kernel
theorem dX10_noCell_28 : decode cX10_noCell 28 = .ok (.ifCond .eq 7, 3) := by decide +kernel
theorem dX10_noCell_31 : decode cX10_noCell 31 = .ok (.iconst 0, 1) := by decide +kernel
theorem dX10_noCell_32 : decode cX10_noCell 32 = .ok (.goto 4, 3) := by decide +kernel
theorem dX10_noCell_35 : decode cX10_noCell 35 = .ok (.iconst 3, 1) := by decide +kernel
theorem dX10_noCell_36 : decode cX10_noCell 36 = .ok (.ireturn, 1) := by decide +kernel
theorem dX10_put_0 : decode cX10_put 0 = .ok (.iload_n 1, 1) := by decide +kernel
theorem dX10_put_1 : decode cX10_put 1 = .ok (.invokestatic 87, 3) := by decide +kernel
theorem dX10_put_4 : decode cX10_put 4 = .ok (.ifCond .eq 9, 3) := by decide +kernel
theorem dX10_put_7 : decode cX10_put 7 = .ok (.aload_n 0, 1) := by decide +kernel
theorem dX10_put_8 : decode cX10_put 8 = .ok (.iconst (-1), 1) := by decide +kernel
theorem dX10_put_9 : decode cX10_put 9 = .ok (.invokevirtual 91, 3) := by decide +kernel
theorem dX10_put_12 : decode cX10_put 12 = .ok (.ireturn, 1) := by decide +kernel
theorem dX10_put_13 : decode cX10_put 13 = .ok (.aload_n 0, 1) := by decide +kernel
theorem dX10_put_14 : decode cX10_put 14 = .ok (.iload_n 1, 1) := by decide +kernel
theorem dX10_put_15 : decode cX10_put 15 = .ok (.iload_n 2, 1) := by decide +kernel
theorem dX10_put_16 : decode cX10_put 16 = .ok (.invokevirtual 265, 3) := by decide +kernel
theorem dX10_put_19 : decode cX10_put 19 = .ok (.ifCond .le 14, 3) := by decide +kernel
theorem dX10_put_22 : decode cX10_put 22 = .ok (.aload_n 0, 1) := by decide +kernel
theorem dX10_put_23 : decode cX10_put 23 = .ok (.aload_n 0, 1) := by decide +kernel
theorem dX10_put_24 : decode cX10_put 24 = .ok (.iload_n 1, 1) := by decide +kernel
theorem dX10_put_25 : decode cX10_put 25 = .ok (.iload_n 2, 1) := by decide +kernel
theorem dX10_put_26 : decode cX10_put 26 = .ok (.invokevirtual 265, 3) := by decide +kernel
theorem dX10_put_29 : decode cX10_put 29 = .ok (.invokevirtual 101, 3) := by decide +kernel
theorem dX10_put_32 : decode cX10_put 32 = .ok (.ireturn, 1) := by decide +kernel
theorem dX10_put_33 : decode cX10_put 33 = .ok (.aload_n 0, 1) := by decide +kernel
theorem dX10_put_34 : decode cX10_put 34 = .ok (.getfield 71, 3) := by decide +kernel
theorem dX10_put_37 : decode cX10_put 37 = .ok (.bipush 60, 2) := by decide +kernel
theorem dX10_put_39 : decode cX10_put 39 = .ok (.iload_n 1, 1) := by decide +kernel
theorem dX10_put_40 : decode cX10_put 40 = .ok (.imul, 1) := by decide +kernel
theorem dX10_put_41 : decode cX10_put 41 = .ok (.iload_n 2, 1) := by decide +kernel
theorem dX10_put_42 : decode cX10_put 42 = .ok (.iadd, 1) := by decide +kernel
theorem dX10_put_43 : decode cX10_put 43 = .ok (.aload_n 0, 1) := by decide +kernel
theorem dX10_put_44 : decode cX10_put 44 = .ok (.getfield 68, 3) := by decide +kernel
theorem dX10_put_47 : decode cX10_put 47 = .ok (.iload_n 1, 1) := by decide +kernel
theorem dX10_put_48 : decode cX10_put 48 = .ok (.iaload, 1) := by decide +kernel
theorem dX10_put_49 : decode cX10_put 49 = .ok (.ifCond .ne 8, 3) := by decide +kernel
theorem dX10_put_52 : decode cX10_put 52 = .ok (.iload_n 3, 1) := by decide +kernel
theorem dX10_put_53 : decode cX10_put 53 = .ok (.i2b, 1) := by decide +kernel
theorem dX10_put_54 : decode cX10_put 54 = .ok (.goto 19, 3) := by decide +kernel
theorem dX10_put_57 : decode cX10_put 57 = .ok (.aload_n 0, 1) := by decide +kernel
theorem dX10_put_58 : decode cX10_put 58 = .ok (.getfield 68, 3) := by decide +kernel
theorem dX10_put_61 : decode cX10_put 61 = .ok (.iload_n 1, 1) := by decide +kernel
theorem dX10_put_62 : decode cX10_put 62 = .ok (.iaload, 1) := by decide +kernel
theorem dX10_put_63 : decode cX10_put 63 = .ok (.iconst 1, 1) := by decide +kernel
theorem dX10_put_64 : decode cX10_put 64 = .ok (.if_icmp .ne 8, 3) := by decide +kernel
theorem dX10_put_67 : decode cX10_put 67 = .ok (.iload_n 3, 1) := by decide +kernel
theorem dX10_put_68 : decode cX10_put 68 = .ok (.i2s, 1) := by decide +kernel
theorem dX10_put_69 : decode cX10_put 69 = .ok (.goto 4, 3) := by decide +kernel
theorem dX10_put_72 : decode cX10_put 72 = .ok (.iload_n 3, 1) := by decide +kernel
theorem dX10_put_73 : decode cX10_put 73 = .ok (.iastore, 1) := by decide +kernel
theorem dX10_put_74 : decode cX10_put 74 = .ok (.aload_n 0, 1) := by decide +kernel
theorem dX10_put_75 : decode cX10_put 75 = .ok (.iconst 1, 1) := by decide +kernel
theorem dX10_put_76 : decode cX10_put 76 = .ok (.invokevirtual 91, 3) := by decide +kernel
theorem dX10_put_79 : decode cX10_put 79 = .ok (.ireturn, 1) := by decide +kernel
theorem dX10_cell_0 : decode cX10_cell 0 = .ok (.aload_n 0, 1) := by decide +kernel
theorem dX10_cell_1 : decode cX10_cell 1 = .ok (.iconst 0, 1) := by decide +kernel
theorem dX10_cell_2 : decode cX10_cell 2 = .ok (.putfield 79, 3) := by decide +kernel
theorem dX10_cell_5 : decode cX10_cell 5 = .ok (.iload_n 1, 1) := by decide +kernel
theorem dX10_cell_6 : decode cX10_cell 6 = .ok (.invokestatic 87, 3) := by decide +kernel
theorem dX10_cell_9 : decode cX10_cell 9 = .ok (.ifCond .ne 15, 3) := by decide +kernel
theorem dX10_cell_12 : decode cX10_cell 12 = .ok (.iload_n 3, 1) := by decide +kernel
theorem dX10_cell_13 : decode cX10_cell 13 = .ok (.i2l, 1) := by decide +kernel
theorem dX10_cell_14 : decode cX10_cell 14 = .ok (.lconst 0, 1) := by decide +kernel
theorem dX10_cell_15 : decode cX10_cell 15 = .ok (.ldc2_w 95, 3) := by decide +kernel
theorem dX10_cell_18 : decode cX10_cell 18 = .ok (.invokestatic 97, 3) := by decide +kernel
theorem dX10_cell_21 : decode cX10_cell 21 = .ok (.ifCond .ne 7, 3) := by decide +kernel
theorem dX10_cell_24 : decode cX10_cell 24 = .ok (.invokestatic 83, 3) := by decide +kernel
theorem dX10_cell_27 : decode cX10_cell 27 = .ok (.lreturn, 1) := by decide +kernel
theorem dX10_cell_28 : decode cX10_cell 28 = .ok (.aload_n 0, 1) := by decide +kernel
theorem dX10_cell_29 : decode cX10_cell 29 = .ok (.getfield 65, 3) := by decide +kernel
theorem dX10_cell_32 : decode cX10_cell 32 = .ok (.iload_n 1, 1) := by decide +kernel
theorem dX10_cell_33 : decode cX10_cell 33 = .ok (.iaload, 1) := by decide +kernel
theorem dX10_cell_34 : decode cX10_cell 34 = .ok (.ifCond .lt 19, 3) := by decide +kernel
theorem dX10_cell_37 : decode cX10_cell 37 = .ok (.aload_n 0, 1) := by decide +kernel
theorem dX10_cell_38 : decode cX10_cell 38 = .ok (.getfield 68, 3) := by decide +kernel
theorem dX10_cell_41 : decode cX10_cell 41 = .ok (.iload_n 1, 1) := by decide +kernel
theorem dX10_cell_42 : decode cX10_cell 42 = .ok (.iaload, 1) := by decide +kernel
theorem dX10_cell_43 : decode cX10_cell 43 = .ok (.iload_n 3, 1) := by decide +kernel
theorem dX10_cell_44 : decode cX10_cell 44 = .ok (.if_icmp .eq 9, 3) := by decide +kernel
theorem dX10_cell_47 : decode cX10_cell 47 = .ok (.aload_n 0, 1) := by decide +kernel
theorem dX10_cell_48 : decode cX10_cell 48 = .ok (.iconst 2, 1) := by decide +kernel
theorem dX10_cell_49 : decode cX10_cell 49 = .ok (.invokevirtual 268, 3) := by decide +kernel
theorem dX10_cell_52 : decode cX10_cell 52 = .ok (.lreturn, 1) := by decide +kernel
theorem dX10_cell_53 : decode cX10_cell 53 = .ok (.aload_n 0, 1) := by decide +kernel
theorem dX10_cell_54 : decode cX10_cell 54 = .ok (.iload_n 1, 1) := by decide +kernel
theorem dX10_cell_55 : decode cX10_cell 55 = .ok (.iload_n 2, 1) := by decide +kernel
theorem dX10_cell_56 : decode cX10_cell 56 = .ok (.invokevirtual 265, 3) := by decide +kernel
theorem dX10_cell_59 : decode cX10_cell 59 = .ok (.ifCond .le 16, 3) := by decide +kernel
theorem dX10_cell_62 : decode cX10_cell 62 = .ok (.aload_n 0, 1) := by decide +kernel
theorem dX10_cell_63 : decode cX10_cell 63 = .ok (.aload_n 0, 1) := by decide +kernel
theorem dX10_cell_64 : decode cX10_cell 64 = .ok (.iload_n 1, 1) := by decide +kernel
theorem dX10_cell_65 : decode cX10_cell 65 = .ok (.iload_n 2, 1) := by decide +kernel
theorem dX10_cell_66 : decode cX10_cell 66 = .ok (.invokevirtual 265, 3) := by decide +kernel
theorem dX10_cell_69 : decode cX10_cell 69 = .ok (.invokevirtual 268, 3) := by decide +kernel
theorem dX10_cell_72 : decode cX10_cell 72 = .ok (.goto 15, 3) := by decide +kernel
theorem dX10_cell_75 : decode cX10_cell 75 = .ok (.aload_n 0, 1) := by decide +kernel
theorem dX10_cell_76 : decode cX10_cell 76 = .ok (.getfield 71, 3) := by decide +kernel
theorem dX10_cell_79 : decode cX10_cell 79 = .ok (.bipush 60, 2) := by decide +kernel
theorem dX10_cell_81 : decode cX10_cell 81 = .ok (.iload_n 1, 1) := by decide +kernel
theorem dX10_cell_82 : decode cX10_cell 82 = .ok (.imul, 1) := by decide +kernel
theorem dX10_cell_83 : decode cX10_cell 83 = .ok (.iload_n 2, 1) := by decide +kernel
theorem dX10_cell_84 : decode cX10_cell 84 = .ok (.iadd, 1) := by decide +kernel
theorem dX10_cell_85 : decode cX10_cell 85 = .ok (.iaload, 1) := by decide +kernel
theorem dX10_cell_86 : decode cX10_cell 86 = .ok (.i2l, 1) := by decide +kernel
theorem dX10_cell_87 : decode cX10_cell 87 = .ok (.lreturn, 1) := by decide +kernel
theorem dX10_isBeyond_0 : decode cX10_isBeyond 0 = .ok (.iload_n 0, 1) := by decide +kernel
theorem dX10_isBeyond_1 : decode cX10_isBeyond 1 = .ok (.ifCond .lt 19, 3) := by decide +kernel
theorem dX10_isBeyond_4 : decode cX10_isBeyond 4 = .ok (.lload_n 1, 1) := by decide +kernel
theorem dX10_isBeyond_5 : decode cX10_isBeyond 5 = .ok (.lconst 0, 1) := by decide +kernel
theorem dX10_isBeyond_6 : decode cX10_isBeyond 6 = .ok (.lcmp, 1) := by decide +kernel
theorem dX10_isBeyond_7 : decode cX10_isBeyond 7 = .ok (.ifCond .lt 13, 3) := by decide +kernel
theorem dX10_isBeyond_10 : decode cX10_isBeyond 10 = .ok (.iload_n 0, 1) := by decide +kernel
theorem dX10_isBeyond_11 : decode cX10_isBeyond 11 = .ok (.i2l, 1) := by decide +kernel
theorem dX10_isBeyond_12 : decode cX10_isBeyond 12 = .ok (.lload_n 1, 1) := by decide +kernel
theorem dX10_isBeyond_13 : decode cX10_isBeyond 13 = .ok (.ladd, 1) := by decide +kernel
theorem dX10_isBeyond_14 : decode cX10_isBeyond 14 = .ok (.iload_n 3, 1) := by decide +kernel
theorem dX10_isBeyond_15 : decode cX10_isBeyond 15 = .ok (.i2l, 1) := by decide +kernel
theorem dX10_isBeyond_16 : decode cX10_isBeyond 16 = .ok (.lcmp, 1) := by decide +kernel
theorem dX10_isBeyond_17 : decode cX10_isBeyond 17 = .ok (.ifCond .le 7, 3) := by decide +kernel
theorem dX10_isBeyond_20 : decode cX10_isBeyond 20 = .ok (.iconst 1, 1) := by decide +kernel
theorem dX10_isBeyond_21 : decode cX10_isBeyond 21 = .ok (.goto 4, 3) := by decide +kernel
theorem dX10_isBeyond_24 : decode cX10_isBeyond 24 = .ok (.iconst 0, 1) := by decide +kernel
theorem dX10_isBeyond_25 : decode cX10_isBeyond 25 = .ok (.ireturn, 1) := by decide +kernel
theorem dX10_copy_0 : decode cX10_copy 0 = .ok (.iload_n 1, 1) := by decide +kernel
theorem dX10_copy_1 : decode cX10_copy 1 = .ok (.invokestatic 87, 3) := by decide +kernel
theorem dX10_copy_4 : decode cX10_copy 4 = .ok (.ifCond .ne 10, 3) := by decide +kernel
theorem dX10_copy_7 : decode cX10_copy 7 = .ok (.iload_n 3, 1) := by decide +kernel
theorem dX10_copy_8 : decode cX10_copy 8 = .ok (.invokestatic 87, 3) := by decide +kernel
theorem dX10_copy_11 : decode cX10_copy 11 = .ok (.ifCond .eq 9, 3) := by decide +kernel
theorem dX10_copy_14 : decode cX10_copy 14 = .ok (.aload_n 0, 1) := by decide +kernel
theorem dX10_copy_15 : decode cX10_copy 15 = .ok (.iconst (-1), 1) := by decide +kernel
theorem dX10_copy_16 : decode cX10_copy 16 = .ok (.invokevirtual 91, 3) := by decide +kernel
theorem dX10_copy_19 : decode cX10_copy 19 = .ok (.ireturn, 1) := by decide +kernel
theorem dX10_copy_20 : decode cX10_copy 20 = .ok (.aload_n 0, 1) := by decide +kernel
theorem dX10_copy_21 : decode cX10_copy 21 = .ok (.getfield 65, 3) := by decide +kernel
theorem dX10_copy_24 : decode cX10_copy 24 = .ok (.iload_n 1, 1) := by decide +kernel
theorem dX10_copy_25 : decode cX10_copy 25 = .ok (.iaload, 1) := by decide +kernel
theorem dX10_copy_26 : decode cX10_copy 26 = .ok (.ifCond .lt 12, 3) := by decide +kernel
theorem dX10_copy_29 : decode cX10_copy 29 = .ok (.aload_n 0, 1) := by decide +kernel
theorem dX10_copy_30 : decode cX10_copy 30 = .ok (.getfield 65, 3) := by decide +kernel
theorem dX10_copy_33 : decode cX10_copy 33 = .ok (.iload_n 3, 1) := by decide +kernel
theorem dX10_copy_34 : decode cX10_copy 34 = .ok (.iaload, 1) := by decide +kernel
theorem dX10_copy_35 : decode cX10_copy 35 = .ok (.ifCond .ge 9, 3) := by decide +kernel
theorem dX10_copy_38 : decode cX10_copy 38 = .ok (.aload_n 0, 1) := by decide +kernel
theorem dX10_copy_39 : decode cX10_copy 39 = .ok (.iconst 1, 1) := by decide +kernel
theorem dX10_copy_40 : decode cX10_copy 40 = .ok (.invokevirtual 101, 3) := by decide +kernel
theorem dX10_copy_43 : decode cX10_copy 43 = .ok (.ireturn, 1) := by decide +kernel
theorem dX10_copy_44 : decode cX10_copy 44 = .ok (.aload_n 0, 1) := by decide +kernel
theorem dX10_copy_45 : decode cX10_copy 45 = .ok (.getfield 68, 3) := by decide +kernel
theorem dX10_copy_48 : decode cX10_copy 48 = .ok (.iload_n 1, 1) := by decide +kernel
theorem dX10_copy_49 : decode cX10_copy 49 = .ok (.iaload, 1) := by decide +kernel
theorem dX10_copy_50 : decode cX10_copy 50 = .ok (.aload_n 0, 1) := by decide +kernel
theorem dX10_copy_51 : decode cX10_copy 51 = .ok (.getfield 68, 3) := by decide +kernel
theorem dX10_copy_54 : decode cX10_copy 54 = .ok (.iload_n 3, 1) := by decide +kernel
theorem dX10_copy_55 : decode cX10_copy 55 = .ok (.iaload, 1) := by decide +kernel
theorem dX10_copy_56 : decode cX10_copy 56 = .ok (.if_icmp .eq 9, 3) := by decide +kernel
theorem dX10_copy_59 : decode cX10_copy 59 = .ok (.aload_n 0, 1) := by decide +kernel
theorem dX10_copy_60 : decode cX10_copy 60 = .ok (.iconst 2, 1) := by decide +kernel
theorem dX10_copy_61 : decode cX10_copy 61 = .ok (.invokevirtual 101, 3) := by decide +kernel
theorem dX10_copy_64 : decode cX10_copy 64 = .ok (.ireturn, 1) := by decide +kernel
theorem dX10_copy_65 : decode cX10_copy 65 = .ok (.iload_n 2, 1) := by decide +kernel
theorem dX10_copy_66 : decode cX10_copy 66 = .ok (.iload 5, 2) := by decide +kernel
theorem dX10_copy_68 : decode cX10_copy 68 = .ok (.i2l, 1) := by decide +kernel
theorem dX10_copy_69 : decode cX10_copy 69 = .ok (.aload_n 0, 1) := by decide +kernel
theorem dX10_copy_70 : decode cX10_copy 70 = .ok (.getfield 65, 3) := by decide +kernel
theorem dX10_copy_73 : decode cX10_copy 73 = .ok (.iload_n 1, 1) := by decide +kernel
theorem dX10_copy_74 : decode cX10_copy 74 = .ok (.iaload, 1) := by decide +kernel
theorem dX10_copy_75 : decode cX10_copy 75 = .ok (.invokestatic 104, 3) := by decide +kernel
theorem dX10_copy_78 : decode cX10_copy 78 = .ok (.ifCond .ne 20, 3) := by decide +kernel
theorem dX10_copy_81 : decode cX10_copy 81 = .ok (.iload 4, 2) := by decide +kernel
theorem dX10_copy_83 : decode cX10_copy 83 = .ok (.iload 5, 2) := by decide +kernel
theorem dX10_copy_85 : decode cX10_copy 85 = .ok (.i2l, 1) := by decide +kernel
theorem dX10_copy_86 : decode cX10_copy 86 = .ok (.aload_n 0, 1) := by decide +kernel
theorem dX10_copy_87 : decode cX10_copy 87 = .ok (.getfield 65, 3) := by decide +kernel
theorem dX10_copy_90 : decode cX10_copy 90 = .ok (.iload_n 3, 1) := by decide +kernel
theorem dX10_copy_91 : decode cX10_copy 91 = .ok (.iaload, 1) := by decide +kernel
theorem dX10_copy_92 : decode cX10_copy 92 = .ok (.invokestatic 104, 3) := by decide +kernel
theorem dX10_copy_95 : decode cX10_copy 95 = .ok (.ifCond .eq 9, 3) := by decide +kernel
theorem dX10_copy_98 : decode cX10_copy 98 = .ok (.aload_n 0, 1) := by decide +kernel
theorem dX10_copy_99 : decode cX10_copy 99 = .ok (.iconst 3, 1) := by decide +kernel
theorem dX10_copy_100 : decode cX10_copy 100 = .ok (.invokevirtual 101, 3) := by decide +kernel
theorem dX10_copy_103 : decode cX10_copy 103 = .ok (.ireturn, 1) := by decide +kernel
theorem dX10_copy_104 : decode cX10_copy 104 = .ok (.iconst 0, 1) := by decide +kernel
theorem dX10_copy_105 : decode cX10_copy 105 = .ok (.istore 6, 2) := by decide +kernel
theorem dX10_copy_107 : decode cX10_copy 107 = .ok (.iload 6, 2) := by decide +kernel
theorem dX10_copy_109 : decode cX10_copy 109 = .ok (.iload 5, 2) := by decide +kernel
theorem dX10_copy_111 : decode cX10_copy 111 = .ok (.if_icmp .ge 30, 3) := by decide +kernel
theorem dX10_copy_114 : decode cX10_copy 114 = .ok (.aload_n 0, 1) := by decide +kernel
theorem dX10_copy_115 : decode cX10_copy 115 = .ok (.getfield 74, 3) := by decide +kernel
theorem dX10_copy_118 : decode cX10_copy 118 = .ok (.iload 6, 2) := by decide +kernel
theorem dX10_copy_120 : decode cX10_copy 120 = .ok (.aload_n 0, 1) := by decide +kernel
theorem dX10_copy_121 : decode cX10_copy 121 = .ok (.getfield 71, 3) := by decide +kernel
theorem dX10_copy_124 : decode cX10_copy 124 = .ok (.bipush 60, 2) := by decide +kernel
theorem dX10_copy_126 : decode cX10_copy 126 = .ok (.iload_n 1, 1) := by decide +kernel
theorem dX10_copy_127 : decode cX10_copy 127 = .ok (.imul, 1) := by decide +kernel
theorem dX10_copy_128 : decode cX10_copy 128 = .ok (.iload_n 2, 1) := by decide +kernel
theorem dX10_copy_129 : decode cX10_copy 129 = .ok (.iadd, 1) := by decide +kernel
theorem dX10_copy_130 : decode cX10_copy 130 = .ok (.iload 6, 2) := by decide +kernel
theorem dX10_copy_132 : decode cX10_copy 132 = .ok (.iadd, 1) := by decide +kernel
theorem dX10_copy_133 : decode cX10_copy 133 = .ok (.iaload, 1) := by decide +kernel
theorem dX10_copy_134 : decode cX10_copy 134 = .ok (.iastore, 1) := by decide +kernel
theorem dX10_copy_135 : decode cX10_copy 135 = .ok (.iinc 6 1, 3) := by decide +kernel
theorem dX10_copy_138 : decode cX10_copy 138 = .ok (.goto (-31), 3) := by decide +kernel
theorem dX10_copy_141 : decode cX10_copy 141 = .ok (.iconst 0, 1) := by decide +kernel
theorem dX10_copy_142 : decode cX10_copy 142 = .ok (.istore 6, 2) := by decide +kernel
theorem dX10_copy_144 : decode cX10_copy 144 = .ok (.iload 6, 2) := by decide +kernel
theorem dX10_copy_146 : decode cX10_copy 146 = .ok (.iload 5, 2) := by decide +kernel
theorem dX10_copy_148 : decode cX10_copy 148 = .ok (.if_icmp .ge 31, 3) := by decide +kernel
theorem dX10_copy_151 : decode cX10_copy 151 = .ok (.aload_n 0, 1) := by decide +kernel
theorem dX10_copy_152 : decode cX10_copy 152 = .ok (.getfield 71, 3) := by decide +kernel
theorem dX10_copy_155 : decode cX10_copy 155 = .ok (.bipush 60, 2) := by decide +kernel
theorem dX10_copy_157 : decode cX10_copy 157 = .ok (.iload_n 3, 1) := by decide +kernel
theorem dX10_copy_158 : decode cX10_copy 158 = .ok (.imul, 1) := by decide +kernel
theorem dX10_copy_159 : decode cX10_copy 159 = .ok (.iload 4, 2) := by decide +kernel
theorem dX10_copy_161 : decode cX10_copy 161 = .ok (.iadd, 1) := by decide +kernel
theorem dX10_copy_162 : decode cX10_copy 162 = .ok (.iload 6, 2) := by decide +kernel
theorem dX10_copy_164 : decode cX10_copy 164 = .ok (.iadd, 1) := by decide +kernel
theorem dX10_copy_165 : decode cX10_copy 165 = .ok (.aload_n 0, 1) := by decide +kernel
theorem dX10_copy_166 : decode cX10_copy 166 = .ok (.getfield 74, 3) := by decide +kernel
theorem dX10_copy_169 : decode cX10_copy 169 = .ok (.iload 6, 2) := by decide +kernel
theorem dX10_copy_171 : decode cX10_copy 171 = .ok (.iaload, 1) := by decide +kernel
theorem dX10_copy_172 : decode cX10_copy 172 = .ok (.iastore, 1) := by decide +kernel
theorem dX10_copy_173 : decode cX10_copy 173 = .ok (.iinc 6 1, 3) := by decide +kernel
theorem dX10_copy_176 : decode cX10_copy 176 = .ok (.goto (-32), 3) := by decide +kernel
theorem dX10_copy_179 : decode cX10_copy 179 = .ok (.aload_n 0, 1) := by decide +kernel
theorem dX10_copy_180 : decode cX10_copy 180 = .ok (.iload 5, 2) := by decide +kernel
theorem dX10_copy_182 : decode cX10_copy 182 = .ok (.invokevirtual 91, 3) := by decide +kernel
theorem dX10_copy_185 : decode cX10_copy 185 = .ok (.ireturn, 1) := by decide +kernel
theorem dX10_traced_0 : decode cX10_traced 0 = .ok (.aload_n 0, 1) := by decide +kernel
theorem dX10_traced_1 : decode cX10_traced 1 = .ok (.bipush 31, 2) := by decide +kernel
theorem dX10_traced_3 : decode cX10_traced 3 = .ok (.aload_n 0, 1) := by decide +kernel
theorem dX10_traced_4 : decode cX10_traced 4 = .ok (.getfield 272, 3) := by decide +kernel
theorem dX10_traced_7 : decode cX10_traced 7 = .ok (.imul, 1) := by decide +kernel
theorem dX10_traced_8 : decode cX10_traced 8 = .ok (.iload_n 1, 1) := by decide +kernel
theorem dX10_traced_9 : decode cX10_traced 9 = .ok (.iadd, 1) := by decide +kernel
theorem dX10_traced_10 : decode cX10_traced 10 = .ok (.putfield 272, 3) := by decide +kernel
theorem dX10_traced_13 : decode cX10_traced 13 = .ok (.return_, 1) := by decide +kernel
theorem dX10_tell_0 : decode cX10_tell 0 = .ok (.aload_n 0, 1) := by decide +kernel
theorem dX10_tell_1 : decode cX10_tell 1 = .ok (.iload_n 1, 1) := by decide +kernel
theorem dX10_tell_2 : decode cX10_tell 2 = .ok (.invokevirtual 164, 3) := by decide +kernel
theorem dX10_tell_5 : decode cX10_tell 5 = .ok (.ifCond .eq 5, 3) := by decide +kernel
theorem dX10_tell_8 : decode cX10_tell 8 = .ok (.iconst (-1), 1) := by decide +kernel
theorem dX10_tell_9 : decode cX10_tell 9 = .ok (.ireturn, 1) := by decide +kernel
theorem dX10_tell_10 : decode cX10_tell 10 = .ok (.aload_n 0, 1) := by decide +kernel
theorem dX10_tell_11 : decode cX10_tell 11 = .ok (.getfield 7, 3) := by decide +kernel
theorem dX10_tell_14 : decode cX10_tell 14 = .ok (.iload_n 1, 1) := by decide +kernel
theorem dX10_tell_15 : decode cX10_tell 15 = .ok (.iaload, 1) := by decide +kernel
theorem dX10_tell_16 : decode cX10_tell 16 = .ok (.istore_n 2, 1) := by decide +kernel
theorem dX10_tell_17 : decode cX10_tell 17 = .ok (.iload_n 2, 1) := by decide +kernel
theorem dX10_tell_18 : decode cX10_tell 18 = .ok (.iconst 2, 1) := by decide +kernel
theorem dX10_tell_19 : decode cX10_tell 19 = .ok (.if_icmp .ne 8, 3) := by decide +kernel
theorem dX10_tell_22 : decode cX10_tell 22 = .ok (.aload_n 0, 1) := by decide +kernel
theorem dX10_tell_23 : decode cX10_tell 23 = .ok (.iconst 3, 1) := by decide +kernel
theorem dX10_tell_24 : decode cX10_tell 24 = .ok (.invokevirtual 275, 3) := by decide +kernel
theorem dX10_tell_27 : decode cX10_tell 27 = .ok (.iload_n 2, 1) := by decide +kernel
theorem dX10_tell_28 : decode cX10_tell 28 = .ok (.ifCond .le 8, 3) := by decide +kernel
theorem dX10_tell_31 : decode cX10_tell 31 = .ok (.aload_n 0, 1) := by decide +kernel
theorem dX10_tell_32 : decode cX10_tell 32 = .ok (.iconst 2, 1) := by decide +kernel
theorem dX10_tell_33 : decode cX10_tell 33 = .ok (.invokevirtual 275, 3) := by decide +kernel
theorem dX10_tell_36 : decode cX10_tell 36 = .ok (.aload_n 0, 1) := by decide +kernel
theorem dX10_tell_37 : decode cX10_tell 37 = .ok (.iconst 1, 1) := by decide +kernel
theorem dX10_tell_38 : decode cX10_tell 38 = .ok (.invokevirtual 275, 3) := by decide +kernel
theorem dX10_tell_41 : decode cX10_tell 41 = .ok (.iload_n 2, 1) := by decide +kernel
theorem dX10_tell_42 : decode cX10_tell 42 = .ok (.iconst 2, 1) := by decide +kernel
theorem dX10_tell_43 : decode cX10_tell 43 = .ok (.if_icmp .ne 8, 3) := by decide +kernel
theorem dX10_tell_46 : decode cX10_tell 46 = .ok (.aload_n 0, 1) := by decide +kernel
theorem dX10_tell_47 : decode cX10_tell 47 = .ok (.iconst 1, 1) := by decide +kernel
theorem dX10_tell_48 : decode cX10_tell 48 = .ok (.invokevirtual 275, 3) := by decide +kernel
theorem dX10_tell_51 : decode cX10_tell 51 = .ok (.aload_n 0, 1) := by decide +kernel
theorem dX10_tell_52 : decode cX10_tell 52 = .ok (.getfield 16, 3) := by decide +kernel
theorem dX10_tell_55 : decode cX10_tell 55 = .ok (.iload_n 1, 1) := by decide +kernel
theorem dX10_tell_56 : decode cX10_tell 56 = .ok (.iaload, 1) := by decide +kernel
theorem dX10_tell_57 : decode cX10_tell 57 = .ok (.istore_n 3, 1) := by decide +kernel
theorem dX10_tell_58 : decode cX10_tell 58 = .ok (.iload_n 2, 1) := by decide +kernel
theorem dX10_tell_59 : decode cX10_tell 59 = .ok (.ifCond .ne 7, 3) := by decide +kernel
theorem dX10_tell_62 : decode cX10_tell 62 = .ok (.iload_n 3, 1) := by decide +kernel
theorem dX10_tell_63 : decode cX10_tell 63 = .ok (.goto 21, 3) := by decide +kernel
theorem dX10_tell_66 : decode cX10_tell 66 = .ok (.iload_n 2, 1) := by decide +kernel
theorem dX10_tell_67 : decode cX10_tell 67 = .ok (.iconst 1, 1) := by decide +kernel
theorem dX10_tell_68 : decode cX10_tell 68 = .ok (.if_icmp .ne 10, 3) := by decide +kernel
theorem dX10_tell_71 : decode cX10_tell 71 = .ok (.iload_n 3, 1) := by decide +kernel
theorem dX10_tell_72 : decode cX10_tell 72 = .ok (.bipush 100, 2) := by decide +kernel
theorem dX10_tell_74 : decode cX10_tell 74 = .ok (.iadd, 1) := by decide +kernel
theorem dX10_tell_75 : decode cX10_tell 75 = .ok (.goto 9, 3) := by decide +kernel
theorem dX10_tell_78 : decode cX10_tell 78 = .ok (.iconst 2, 1) := by decide +kernel
theorem dX10_tell_79 : decode cX10_tell 79 = .ok (.iload_n 3, 1) := by decide +kernel
theorem dX10_tell_80 : decode cX10_tell 80 = .ok (.imul, 1) := by decide +kernel
theorem dX10_tell_81 : decode cX10_tell 81 = .ok (.bipush 100, 2) := by decide +kernel
theorem dX10_tell_83 : decode cX10_tell 83 = .ok (.iadd, 1) := by decide +kernel
theorem dX10_tell_84 : decode cX10_tell 84 = .ok (.ireturn, 1) := by decide +kernel
theorem dX10_ring_0 : decode cX10_ring 0 = .ok (.aload_n 0, 1) := by decide +kernel
theorem dX10_ring_1 : decode cX10_ring 1 = .ok (.iload_n 1, 1) := by decide +kernel
theorem dX10_ring_2 : decode cX10_ring 2 = .ok (.invokevirtual 164, 3) := by decide +kernel
theorem dX10_ring_5 : decode cX10_ring 5 = .ok (.ifCond .eq 5, 3) := by decide +kernel
theorem dX10_ring_8 : decode cX10_ring 8 = .ok (.iconst (-1), 1) := by decide +kernel
theorem dX10_ring_9 : decode cX10_ring 9 = .ok (.ireturn, 1) := by decide +kernel
theorem dX10_ring_10 : decode cX10_ring 10 = .ok (.aload_n 0, 1) := by decide +kernel
theorem dX10_ring_11 : decode cX10_ring 11 = .ok (.aload_n 0, 1) := by decide +kernel
theorem dX10_ring_12 : decode cX10_ring 12 = .ok (.getfield 7, 3) := by decide +kernel
theorem dX10_ring_15 : decode cX10_ring 15 = .ok (.iload_n 1, 1) := by decide +kernel
theorem dX10_ring_16 : decode cX10_ring 16 = .ok (.iaload, 1) := by decide +kernel
theorem dX10_ring_17 : decode cX10_ring 17 = .ok (.iconst 2, 1) := by decide +kernel
theorem dX10_ring_18 : decode cX10_ring 18 = .ok (.if_icmp .ne 7, 3) := by decide +kernel
theorem dX10_ring_21 : decode cX10_ring 21 = .ok (.iconst 5, 1) := by decide +kernel
theorem dX10_ring_22 : decode cX10_ring 22 = .ok (.goto 4, 3) := by decide +kernel
theorem dX10_ring_25 : decode cX10_ring 25 = .ok (.iconst 4, 1) := by decide +kernel
theorem dX10_ring_26 : decode cX10_ring 26 = .ok (.invokevirtual 275, 3) := by decide +kernel
theorem dX10_ring_29 : decode cX10_ring 29 = .ok (.aload_n 0, 1) := by decide +kernel
theorem dX10_ring_30 : decode cX10_ring 30 = .ok (.getfield 7, 3) := by decide +kernel
theorem dX10_ring_33 : decode cX10_ring 33 = .ok (.iload_n 1, 1) := by decide +kernel
theorem dX10_ring_34 : decode cX10_ring 34 = .ok (.iaload, 1) := by decide +kernel
theorem dX10_ring_35 : decode cX10_ring 35 = .ok (.iconst 2, 1) := by decide +kernel
theorem dX10_ring_36 : decode cX10_ring 36 = .ok (.if_icmp .ne 8, 3) := by decide +kernel
theorem dX10_ring_39 : decode cX10_ring 39 = .ok (.bipush 80, 2) := by decide +kernel
theorem dX10_ring_41 : decode cX10_ring 41 = .ok (.goto 4, 3) := by decide +kernel
theorem dX10_ring_44 : decode cX10_ring 44 = .ok (.iload_n 1, 1) := by decide +kernel
theorem dX10_ring_45 : decode cX10_ring 45 = .ok (.ireturn, 1) := by decide +kernel
theorem dX10_as_0 : decode cX10_as 0 = .ok (.aload_n 0, 1) := by decide +kernel
theorem dX10_as_1 : decode cX10_as 1 = .ok (.iload_n 1, 1) := by decide +kernel
theorem dX10_as_2 : decode cX10_as 2 = .ok (.invokevirtual 164, 3) := by decide +kernel
theorem dX10_as_5 : decode cX10_as 5 = .ok (.ifCond .eq 9, 3) := by decide +kernel
theorem dX10_as_8 : decode cX10_as 8 = .ok (.aload_n 0, 1) := by decide +kernel
theorem dX10_as_9 : decode cX10_as 9 = .ok (.iconst (-1), 1) := by decide +kernel
theorem dX10_as_10 : decode cX10_as 10 = .ok (.invokevirtual 91, 3) := by decide +kernel
theorem dX10_as_13 : decode cX10_as 13 = .ok (.ireturn, 1) := by decide +kernel
theorem dX10_as_14 : decode cX10_as 14 = .ok (.iload_n 2, 1) := by decide +kernel
theorem dX10_as_15 : decode cX10_as 15 = .ok (.i2l, 1) := by decide +kernel
theorem dX10_as_16 : decode cX10_as 16 = .ok (.lconst 0, 1) := by decide +kernel
theorem dX10_as_17 : decode cX10_as 17 = .ok (.ldc2_w 95, 3) := by decide +kernel
theorem dX10_as_20 : decode cX10_as 20 = .ok (.invokestatic 97, 3) := by decide +kernel
theorem dX10_as_23 : decode cX10_as 23 = .ok (.ifCond .ne 10, 3) := by decide +kernel
theorem dX10_as_26 : decode cX10_as 26 = .ok (.aload_n 0, 1) := by decide +kernel
theorem dX10_as_27 : decode cX10_as 27 = .ok (.bipush (-2), 2) := by decide +kernel
theorem dX10_as_29 : decode cX10_as 29 = .ok (.invokevirtual 91, 3) := by decide +kernel
theorem dX10_as_32 : decode cX10_as 32 = .ok (.ireturn, 1) := by decide +kernel
theorem dX10_as_33 : decode cX10_as 33 = .ok (.aload_n 0, 1) := by decide +kernel
theorem dX10_as_34 : decode cX10_as 34 = .ok (.getfield 7, 3) := by decide +kernel
theorem dX10_as_37 : decode cX10_as 37 = .ok (.iload_n 1, 1) := by decide +kernel
theorem dX10_as_38 : decode cX10_as 38 = .ok (.iaload, 1) := by decide +kernel
theorem dX10_as_39 : decode cX10_as 39 = .ok (.iload_n 2, 1) := by decide +kernel
theorem dX10_as_40 : decode cX10_as 40 = .ok (.if_icmp .lt 11, 3) := by decide +kernel
theorem dX10_as_43 : decode cX10_as 43 = .ok (.aload_n 0, 1) := by decide +kernel
theorem dX10_as_44 : decode cX10_as 44 = .ok (.iconst 1, 1) := by decide +kernel
theorem dX10_as_45 : decode cX10_as 45 = .ok (.invokevirtual 91, 3) := by decide +kernel
theorem dX10_as_48 : decode cX10_as 48 = .ok (.goto 8, 3) := by decide +kernel
theorem dX10_as_51 : decode cX10_as 51 = .ok (.aload_n 0, 1) := by decide +kernel
theorem dX10_as_52 : decode cX10_as 52 = .ok (.iconst 2, 1) := by decide +kernel
theorem dX10_as_53 : decode cX10_as 53 = .ok (.invokevirtual 101, 3) := by decide +kernel
theorem dX10_as_56 : decode cX10_as 56 = .ok (.ireturn, 1) := by decide +kernel
theorem dX10_trace_0 : decode cX10_trace 0 = .ok (.aload_n 0, 1) := by decide +kernel
theorem dX10_trace_1 : decode cX10_trace 1 = .ok (.getfield 272, 3) := by decide +kernel
theorem dX10_trace_4 : decode cX10_trace 4 = .ok (.ireturn, 1) := by decide +kernel
theorem dX10_fault_0 : decode cX10_fault 0 = .ok (.aload_n 0, 1) := by decide +kernel
theorem dX10_fault_1 : decode cX10_fault 1 = .ok (.getfield 79, 3) := by decide +kernel
theorem dX10_fault_4 : decode cX10_fault 4 = .ok (.ireturn, 1) := by decide +kernel
theorem dX10_many_0 : decode cX10_many 0 = .ok (.iload_n 1, 1) := by decide +kernel
theorem dX10_many_1 : decode cX10_many 1 = .ok (.tableswitch 51 0 3 #[31, 36, 41, 46], 31) := by decide +kernel
theorem dX10_many_32 : decode cX10_many 32 = .ok (.aload_n 0, 1) := by decide +kernel
theorem dX10_many_33 : decode cX10_many 33 = .ok (.getfield 108, 3) := by decide +kernel
theorem dX10_many_36 : decode cX10_many 36 = .ok (.ireturn, 1) := by decide +kernel
theorem dX10_many_37 : decode cX10_many 37 = .ok (.aload_n 0, 1) := by decide +kernel
theorem dX10_many_38 : decode cX10_many 38 = .ok (.getfield 111, 3) := by decide +kernel
theorem dX10_many_41 : decode cX10_many 41 = .ok (.ireturn, 1) := by decide +kernel
theorem dX10_many_42 : decode cX10_many 42 = .ok (.aload_n 0, 1) := by decide +kernel
theorem dX10_many_43 : decode cX10_many 43 = .ok (.getfield 145, 3) := by decide +kernel
theorem dX10_many_46 : decode cX10_many 46 = .ok (.ireturn, 1) := by decide +kernel
theorem dX10_many_47 : decode cX10_many 47 = .ok (.aload_n 0, 1) := by decide +kernel
theorem dX10_many_48 : decode cX10_many 48 = .ok (.getfield 148, 3) := by decide +kernel
theorem dX10_many_51 : decode cX10_many 51 = .ok (.ireturn, 1) := by decide +kernel
theorem dX10_many_52 : decode cX10_many 52 = .ok (.bipush (-2), 2) := by decide +kernel
theorem dX10_many_54 : decode cX10_many 54 = .ok (.ireturn, 1) := by decide +kernel
