theorem dX0_init_0 : decode cX0_init 0 = .ok (.aload_n 0, 1) := by decide +kernel
theorem dX0_init_1 : decode cX0_init 1 = .ok (.invokespecial 3, 3) := by decide +kernel
theorem dX0_init_4 : decode cX0_init 4 = .ok (.aload_n 0, 1) := by decide +kernel
theorem dX0_init_5 : decode cX0_init 5 = .ok (.new 9, 3) := by decide +kernel
theorem dX0_init_8 : decode cX0_init 8 = .ok (.dup, 1) := by decide +kernel
theorem dX0_init_9 : decode cX0_init 9 = .ok (.invokespecial 11, 3) := by decide +kernel
theorem dX0_init_12 : decode cX0_init 12 = .ok (.putfield 12, 3) := by decide +kernel
theorem dX0_init_15 : decode cX0_init 15 = .ok (.aload_n 0, 1) := by decide +kernel
theorem dX0_init_16 : decode cX0_init 16 = .ok (.bipush 32, 2) := by decide +kernel
theorem dX0_init_18 : decode cX0_init 18 = .ok (.newarray .int, 2) := by decide +kernel
theorem dX0_init_20 : decode cX0_init 20 = .ok (.putfield 18, 3) := by decide +kernel
theorem dX0_init_23 : decode cX0_init 23 = .ok (.aload_n 0, 1) := by decide +kernel
theorem dX0_init_24 : decode cX0_init 24 = .ok (.sipush 1000, 3) := by decide +kernel
theorem dX0_init_27 : decode cX0_init 27 = .ok (.newarray .int, 2) := by decide +kernel
theorem dX0_init_29 : decode cX0_init 29 = .ok (.putfield 22, 3) := by decide +kernel
theorem dX0_init_32 : decode cX0_init 32 = .ok (.return_, 1) := by decide +kernel
theorem dX0_beginText_0 : decode cX0_beginText 0 = .ok (.aload_n 0, 1) := by decide +kernel
theorem dX0_beginText_1 : decode cX0_beginText 1 = .ok (.getfield 12, 3) := by decide +kernel
theorem dX0_beginText_4 : decode cX0_beginText 4 = .ok (.invokevirtual 25, 3) := by decide +kernel
theorem dX0_beginText_7 : decode cX0_beginText 7 = .ok (.aload_n 1, 1) := by decide +kernel
theorem dX0_beginText_8 : decode cX0_beginText 8 = .ok (.getfield 28, 3) := by decide +kernel
theorem dX0_beginText_11 : decode cX0_beginText 11 = .ok (.iconst 0, 1) := by decide +kernel
theorem dX0_beginText_12 : decode cX0_beginText 12 = .ok (.aload_n 0, 1) := by decide +kernel
theorem dX0_beginText_13 : decode cX0_beginText 13 = .ok (.getfield 18, 3) := by decide +kernel
theorem dX0_beginText_16 : decode cX0_beginText 16 = .ok (.iconst 0, 1) := by decide +kernel
theorem dX0_beginText_17 : decode cX0_beginText 17 = .ok (.bipush 32, 2) := by decide +kernel
theorem dX0_beginText_19 : decode cX0_beginText 19 = .ok (.invokestatic 33, 3) := by decide +kernel
theorem dX0_beginText_22 : decode cX0_beginText 22 = .ok (.aload_n 0, 1) := by decide +kernel
theorem dX0_beginText_23 : decode cX0_beginText 23 = .ok (.iconst 0, 1) := by decide +kernel
theorem dX0_beginText_24 : decode cX0_beginText 24 = .ok (.putfield 39, 3) := by decide +kernel
theorem dX0_beginText_27 : decode cX0_beginText 27 = .ok (.return_, 1) := by decide +kernel
theorem dX0_beginAt_0 : decode cX0_beginAt 0 = .ok (.aload_n 0, 1) := by decide +kernel
theorem dX0_beginAt_1 : decode cX0_beginAt 1 = .ok (.getfield 12, 3) := by decide +kernel
theorem dX0_beginAt_4 : decode cX0_beginAt 4 = .ok (.aload_n 1, 1) := by decide +kernel
theorem dX0_beginAt_5 : decode cX0_beginAt 5 = .ok (.invokevirtual 43, 3) := by decide +kernel
theorem dX0_beginAt_8 : decode cX0_beginAt 8 = .ok (.aload_n 2, 1) := by decide +kernel
theorem dX0_beginAt_9 : decode cX0_beginAt 9 = .ok (.iconst 0, 1) := by decide +kernel
theorem dX0_beginAt_10 : decode cX0_beginAt 10 = .ok (.aload_n 0, 1) := by decide +kernel
theorem dX0_beginAt_11 : decode cX0_beginAt 11 = .ok (.getfield 18, 3) := by decide +kernel
theorem dX0_beginAt_14 : decode cX0_beginAt 14 = .ok (.iconst 0, 1) := by decide +kernel
theorem dX0_beginAt_15 : decode cX0_beginAt 15 = .ok (.bipush 32, 2) := by decide +kernel
theorem dX0_beginAt_17 : decode cX0_beginAt 17 = .ok (.invokestatic 33, 3) := by decide +kernel
theorem dX0_beginAt_20 : decode cX0_beginAt 20 = .ok (.aload_n 0, 1) := by decide +kernel
theorem dX0_beginAt_21 : decode cX0_beginAt 21 = .ok (.iconst 0, 1) := by decide +kernel
theorem dX0_beginAt_22 : decode cX0_beginAt 22 = .ok (.putfield 39, 3) := by decide +kernel
theorem dX0_beginAt_25 : decode cX0_beginAt 25 = .ok (.return_, 1) := by decide +kernel
theorem dX0_run_0 : decode cX0_run 0 = .ok (.iconst 0, 1) := by decide +kernel
theorem dX0_run_1 : decode cX0_run 1 = .ok (.istore_n 3, 1) := by decide +kernel
theorem dX0_run_2 : decode cX0_run 2 = .ok (.iload_n 3, 1) := by decide +kernel
theorem dX0_run_3 : decode cX0_run 3 = .ok (.iload_n 2, 1) := by decide +kernel
theorem dX0_run_4 : decode cX0_run 4 = .ok (.if_icmp .ge 25, 3) := by decide +kernel
theorem dX0_run_7 : decode cX0_run 7 = .ok (.aload_n 0, 1) := by decide +kernel
theorem dX0_run_8 : decode cX0_run 8 = .ok (.getfield 12, 3) := by decide +kernel
theorem dX0_run_11 : decode cX0_run 11 = .ok (.aload_n 1, 1) := by decide +kernel
theorem dX0_run_12 : decode cX0_run 12 = .ok (.invokevirtual 47, 3) := by decide +kernel
theorem dX0_run_15 : decode cX0_run 15 = .ok (.ifCond .ne 14, 3) := by decide +kernel
theorem dX0_run_18 : decode cX0_run 18 = .ok (.aload_n 0, 1) := by decide +kernel
theorem dX0_run_19 : decode cX0_run 19 = .ok (.aload_n 1, 1) := by decide +kernel
theorem dX0_run_20 : decode cX0_run 20 = .ok (.invokevirtual 51, 3) := by decide +kernel
theorem dX0_run_23 : decode cX0_run 23 = .ok (.iinc 3 1, 3) := by decide +kernel
theorem dX0_run_26 : decode cX0_run 26 = .ok (.goto (-24), 3) := by decide +kernel
theorem dX0_run_29 : decode cX0_run 29 = .ok (.return_, 1) := by decide +kernel
theorem dX0_step_0 : decode cX0_step 0 = .ok (.aload_n 1, 1) := by decide +kernel
theorem dX0_step_1 : decode cX0_step 1 = .ok (.getfield 55, 3) := by decide +kernel
theorem dX0_step_4 : decode cX0_step 4 = .ok (.aload_n 0, 1) := by decide +kernel
theorem dX0_step_5 : decode cX0_step 5 = .ok (.getfield 12, 3) := by decide +kernel
theorem dX0_step_8 : decode cX0_step 8 = .ok (.getfield 58, 3) := by decide +kernel
theorem dX0_step_11 : decode cX0_step 11 = .ok (.bipush 63, 2) := by decide +kernel
theorem dX0_step_13 : decode cX0_step 13 = .ok (.iand, 1) := by decide +kernel
theorem dX0_step_14 : decode cX0_step 14 = .ok (.iaload, 1) := by decide +kernel
theorem dX0_step_15 : decode cX0_step 15 = .ok (.istore_n 2, 1) := by decide +kernel
theorem dX0_step_16 : decode cX0_step 16 = .ok (.iload_n 2, 1) := by decide +kernel
theorem dX0_step_17 : decode cX0_step 17 = .ok (.bipush 6, 2) := by decide +kernel
theorem dX0_step_19 : decode cX0_step 19 = .ok (.if_icmp .ne 30, 3) := by decide +kernel
theorem dX0_step_22 : decode cX0_step 22 = .ok (.aload_n 0, 1) := by decide +kernel
theorem dX0_step_23 : decode cX0_step 23 = .ok (.getfield 12, 3) := by decide +kernel
theorem dX0_step_26 : decode cX0_step 26 = .ok (.aload_n 1, 1) := by decide +kernel
theorem dX0_step_27 : decode cX0_step 27 = .ok (.aload_n 0, 1) := by decide +kernel
theorem dX0_step_28 : decode cX0_step 28 = .ok (.getfield 18, 3) := by decide +kernel
theorem dX0_step_31 : decode cX0_step 31 = .ok (.aload_n 0, 1) := by decide +kernel
theorem dX0_step_32 : decode cX0_step 32 = .ok (.getfield 12, 3) := by decide +kernel
theorem dX0_step_35 : decode cX0_step 35 = .ok (.aload_n 1, 1) := by decide +kernel
theorem dX0_step_36 : decode cX0_step 36 = .ok (.invokevirtual 61, 3) := by decide +kernel
theorem dX0_step_39 : decode cX0_step 39 = .ok (.bipush 31, 2) := by decide +kernel
theorem dX0_step_41 : decode cX0_step 41 = .ok (.iand, 1) := by decide +kernel
theorem dX0_step_42 : decode cX0_step 42 = .ok (.iaload, 1) := by decide +kernel
theorem dX0_step_43 : decode cX0_step 43 = .ok (.invokevirtual 65, 3) := by decide +kernel
theorem dX0_step_46 : decode cX0_step 46 = .ok (.goto 136, 3) := by decide +kernel
theorem dX0_step_49 : decode cX0_step 49 = .ok (.iload_n 2, 1) := by decide +kernel
theorem dX0_step_50 : decode cX0_step 50 = .ok (.bipush 15, 2) := by decide +kernel
theorem dX0_step_52 : decode cX0_step 52 = .ok (.if_icmp .lt 22, 3) := by decide +kernel
theorem dX0_step_55 : decode cX0_step 55 = .ok (.aload_n 0, 1) := by decide +kernel
theorem dX0_step_56 : decode cX0_step 56 = .ok (.getfield 12, 3) := by decide +kernel
theorem dX0_step_59 : decode cX0_step 59 = .ok (.aload_n 1, 1) := by decide +kernel
theorem dX0_step_60 : decode cX0_step 60 = .ok (.aload_n 0, 1) := by decide +kernel
theorem dX0_step_61 : decode cX0_step 61 = .ok (.getfield 12, 3) := by decide +kernel
theorem dX0_step_64 : decode cX0_step 64 = .ok (.aload_n 1, 1) := by decide +kernel
theorem dX0_step_65 : decode cX0_step 65 = .ok (.invokevirtual 69, 3) := by decide +kernel
theorem dX0_step_68 : decode cX0_step 68 = .ok (.invokevirtual 72, 3) := by decide +kernel
theorem dX0_step_71 : decode cX0_step 71 = .ok (.goto 111, 3) := by decide +kernel
theorem dX0_step_74 : decode cX0_step 74 = .ok (.iload_n 2, 1) := by decide +kernel
theorem dX0_step_75 : decode cX0_step 75 = .ok (.bipush 7, 2) := by decide +kernel
theorem dX0_step_77 : decode cX0_step 77 = .ok (.if_icmp .ne 37, 3) := by decide +kernel
theorem dX0_step_80 : decode cX0_step 80 = .ok (.aload_n 0, 1) := by decide +kernel
theorem dX0_step_81 : decode cX0_step 81 = .ok (.getfield 18, 3) := by decide +kernel
theorem dX0_step_84 : decode cX0_step 84 = .ok (.aload_n 0, 1) := by decide +kernel
theorem dX0_step_85 : decode cX0_step 85 = .ok (.getfield 12, 3) := by decide +kernel
theorem dX0_step_88 : decode cX0_step 88 = .ok (.aload_n 1, 1) := by decide +kernel
theorem dX0_step_89 : decode cX0_step 89 = .ok (.invokevirtual 61, 3) := by decide +kernel
theorem dX0_step_92 : decode cX0_step 92 = .ok (.bipush 31, 2) := by decide +kernel
theorem dX0_step_94 : decode cX0_step 94 = .ok (.iand, 1) := by decide +kernel
theorem dX0_step_95 : decode cX0_step 95 = .ok (.aload_n 0, 1) := by decide +kernel
theorem dX0_step_96 : decode cX0_step 96 = .ok (.getfield 12, 3) := by decide +kernel
theorem dX0_step_99 : decode cX0_step 99 = .ok (.aload_n 1, 1) := by decide +kernel
theorem dX0_step_100 : decode cX0_step 100 = .ok (.invokevirtual 76, 3) := by decide +kernel
theorem dX0_step_103 : decode cX0_step 103 = .ok (.iastore, 1) := by decide +kernel
theorem dX0_step_104 : decode cX0_step 104 = .ok (.aload_n 0, 1) := by decide +kernel
theorem dX0_step_105 : decode cX0_step 105 = .ok (.getfield 12, 3) := by decide +kernel
theorem dX0_step_108 : decode cX0_step 108 = .ok (.invokevirtual 79, 3) := by decide +kernel
theorem dX0_step_111 : decode cX0_step 111 = .ok (.goto 71, 3) := by decide +kernel
theorem dX0_step_114 : decode cX0_step 114 = .ok (.iload_n 2, 1) := by decide +kernel
theorem dX0_step_115 : decode cX0_step 115 = .ok (.bipush 8, 2) := by decide +kernel
theorem dX0_step_117 : decode cX0_step 117 = .ok (.if_icmp .ne 57, 3) := by decide +kernel
theorem dX0_step_120 : decode cX0_step 120 = .ok (.aload_n 0, 1) := by decide +kernel
theorem dX0_step_121 : decode cX0_step 121 = .ok (.getfield 39, 3) := by decide +kernel
theorem dX0_step_124 : decode cX0_step 124 = .ok (.ifCond .lt 40, 3) := by decide +kernel
theorem dX0_step_127 : decode cX0_step 127 = .ok (.aload_n 0, 1) := by decide +kernel
theorem dX0_step_128 : decode cX0_step 128 = .ok (.getfield 39, 3) := by decide +kernel
theorem dX0_step_131 : decode cX0_step 131 = .ok (.sipush 1000, 3) := by decide +kernel
theorem dX0_step_134 : decode cX0_step 134 = .ok (.if_icmp .ge 30, 3) := by decide +kernel
theorem dX0_step_137 : decode cX0_step 137 = .ok (.aload_n 0, 1) := by decide +kernel
theorem dX0_step_138 : decode cX0_step 138 = .ok (.getfield 22, 3) := by decide +kernel
theorem dX0_step_141 : decode cX0_step 141 = .ok (.aload_n 0, 1) := by decide +kernel
theorem dX0_step_142 : decode cX0_step 142 = .ok (.getfield 39, 3) := by decide +kernel
theorem dX0_step_145 : decode cX0_step 145 = .ok (.aload_n 0, 1) := by decide +kernel
theorem dX0_step_146 : decode cX0_step 146 = .ok (.getfield 12, 3) := by decide +kernel
theorem dX0_step_149 : decode cX0_step 149 = .ok (.aload_n 1, 1) := by decide +kernel
theorem dX0_step_150 : decode cX0_step 150 = .ok (.invokevirtual 76, 3) := by decide +kernel
theorem dX0_step_153 : decode cX0_step 153 = .ok (.iastore, 1) := by decide +kernel
theorem dX0_step_154 : decode cX0_step 154 = .ok (.aload_n 0, 1) := by decide +kernel
theorem dX0_step_155 : decode cX0_step 155 = .ok (.dup, 1) := by decide +kernel
theorem dX0_step_156 : decode cX0_step 156 = .ok (.getfield 39, 3) := by decide +kernel
theorem dX0_step_159 : decode cX0_step 159 = .ok (.iconst 1, 1) := by decide +kernel
theorem dX0_step_160 : decode cX0_step 160 = .ok (.iadd, 1) := by decide +kernel
theorem dX0_step_161 : decode cX0_step 161 = .ok (.putfield 39, 3) := by decide +kernel
theorem dX0_step_164 : decode cX0_step 164 = .ok (.aload_n 0, 1) := by decide +kernel
theorem dX0_step_165 : decode cX0_step 165 = .ok (.getfield 12, 3) := by decide +kernel
theorem dX0_step_168 : decode cX0_step 168 = .ok (.invokevirtual 79, 3) := by decide +kernel
theorem dX0_step_171 : decode cX0_step 171 = .ok (.goto 11, 3) := by decide +kernel
theorem dX0_step_174 : decode cX0_step 174 = .ok (.aload_n 0, 1) := by decide +kernel
theorem dX0_step_175 : decode cX0_step 175 = .ok (.getfield 12, 3) := by decide +kernel
theorem dX0_step_178 : decode cX0_step 178 = .ok (.aload_n 1, 1) := by decide +kernel
theorem dX0_step_179 : decode cX0_step 179 = .ok (.invokevirtual 82, 3) := by decide +kernel
theorem dX0_step_182 : decode cX0_step 182 = .ok (.return_, 1) := by decide +kernel
theorem dX1_isLost_0 : decode cX1_isLost 0 = .ok (.iload_n 0, 1) := by decide +kernel
theorem dX1_isLost_1 : decode cX1_isLost 1 = .ok (.ldc 9, 2) := by decide +kernel
theorem dX1_isLost_3 : decode cX1_isLost 3 = .ok (.iand, 1) := by decide +kernel
theorem dX1_isLost_4 : decode cX1_isLost 4 = .ok (.ldc 9, 2) := by decide +kernel
theorem dX1_isLost_6 : decode cX1_isLost 6 = .ok (.if_icmp .ne 7, 3) := by decide +kernel
theorem dX1_isLost_9 : decode cX1_isLost 9 = .ok (.iconst 1, 1) := by decide +kernel
theorem dX1_isLost_10 : decode cX1_isLost 10 = .ok (.goto 4, 3) := by decide +kernel
theorem dX1_isLost_13 : decode cX1_isLost 13 = .ok (.iconst 0, 1) := by decide +kernel
theorem dX1_isLost_14 : decode cX1_isLost 14 = .ok (.ireturn, 1) := by decide +kernel
theorem dX1_isUnder_0 : decode cX1_isUnder 0 = .ok (.iload_n 0, 1) := by decide +kernel
theorem dX1_isUnder_1 : decode cX1_isUnder 1 = .ok (.invokestatic 10, 3) := by decide +kernel
theorem dX1_isUnder_4 : decode cX1_isUnder 4 = .ok (.ifCond .ne 25, 3) := by decide +kernel
theorem dX1_isUnder_7 : decode cX1_isUnder 7 = .ok (.iload_n 1, 1) := by decide +kernel
theorem dX1_isUnder_8 : decode cX1_isUnder 8 = .ok (.invokestatic 10, 3) := by decide +kernel
theorem dX1_isUnder_11 : decode cX1_isUnder 11 = .ok (.ifCond .ne 18, 3) := by decide +kernel
theorem dX1_isUnder_14 : decode cX1_isUnder 14 = .ok (.iload_n 0, 1) := by decide +kernel
theorem dX1_isUnder_15 : decode cX1_isUnder 15 = .ok (.invokestatic 14, 3) := by decide +kernel
theorem dX1_isUnder_18 : decode cX1_isUnder 18 = .ok (.iload_n 1, 1) := by decide +kernel
theorem dX1_isUnder_19 : decode cX1_isUnder 19 = .ok (.invokestatic 14, 3) := by decide +kernel
theorem dX1_isUnder_22 : decode cX1_isUnder 22 = .ok (.if_icmp .ge 7, 3) := by decide +kernel
theorem dX1_isUnder_25 : decode cX1_isUnder 25 = .ok (.iconst 1, 1) := by decide +kernel
theorem dX1_isUnder_26 : decode cX1_isUnder 26 = .ok (.goto 4, 3) := by decide +kernel
theorem dX1_isUnder_29 : decode cX1_isUnder 29 = .ok (.iconst 0, 1) := by decide +kernel
theorem dX1_isUnder_30 : decode cX1_isUnder 30 = .ok (.ireturn, 1) := by decide +kernel
theorem dX1_rank_0 : decode cX1_rank 0 = .ok (.iload_n 0, 1) := by decide +kernel
theorem dX1_rank_1 : decode cX1_rank 1 = .ok (.ifCond .ge 11, 3) := by decide +kernel
theorem dX1_rank_4 : decode cX1_rank 4 = .ok (.iload_n 0, 1) := by decide +kernel
theorem dX1_rank_5 : decode cX1_rank 5 = .ok (.ldc 18, 2) := by decide +kernel
theorem dX1_rank_7 : decode cX1_rank 7 = .ok (.iand, 1) := by decide +kernel
theorem dX1_rank_8 : decode cX1_rank 8 = .ok (.ineg, 1) := by decide +kernel
theorem dX1_rank_9 : decode cX1_rank 9 = .ok (.goto 4, 3) := by decide +kernel
theorem dX1_rank_12 : decode cX1_rank 12 = .ok (.iload_n 0, 1) := by decide +kernel
theorem dX1_rank_13 : decode cX1_rank 13 = .ok (.ireturn, 1) := by decide +kernel
theorem dX1_ofWhole_0 : decode cX1_ofWhole 0 = .ok (.iload_n 0, 1) := by decide +kernel
theorem dX1_ofWhole_1 : decode cX1_ofWhole 1 = .ok (.ldc 19, 2) := by decide +kernel
theorem dX1_ofWhole_3 : decode cX1_ofWhole 3 = .ok (.iand, 1) := by decide +kernel
theorem dX1_ofWhole_4 : decode cX1_ofWhole 4 = .ok (.iload_n 0, 1) := by decide +kernel
theorem dX1_ofWhole_5 : decode cX1_ofWhole 5 = .ok (.i2l, 1) := by decide +kernel
theorem dX1_ofWhole_6 : decode cX1_ofWhole 6 = .ok (.invokestatic 20, 3) := by decide +kernel
theorem dX1_ofWhole_9 : decode cX1_ofWhole 9 = .ok (.iconst 0, 1) := by decide +kernel
theorem dX1_ofWhole_10 : decode cX1_ofWhole 10 = .ok (.invokestatic 26, 3) := by decide +kernel
theorem dX1_ofWhole_13 : decode cX1_ofWhole 13 = .ok (.ireturn, 1) := by decide +kernel
theorem dX1_toWhole_0 : decode cX1_toWhole 0 = .ok (.iload_n 0, 1) := by decide +kernel
theorem dX1_toWhole_1 : decode cX1_toWhole 1 = .ok (.invokestatic 10, 3) := by decide +kernel
theorem dX1_toWhole_4 : decode cX1_toWhole 4 = .ok (.ifCond .eq 5, 3) := by decide +kernel
theorem dX1_toWhole_7 : decode cX1_toWhole 7 = .ok (.iconst 0, 1) := by decide +kernel
theorem dX1_toWhole_8 : decode cX1_toWhole 8 = .ok (.ireturn, 1) := by decide +kernel
theorem dX1_toWhole_9 : decode cX1_toWhole 9 = .ok (.iload_n 0, 1) := by decide +kernel
theorem dX1_toWhole_10 : decode cX1_toWhole 10 = .ok (.invokestatic 30, 3) := by decide +kernel
theorem dX1_toWhole_13 : decode cX1_toWhole 13 = .ok (.istore_n 1, 1) := by decide +kernel
theorem dX1_toWhole_14 : decode cX1_toWhole 14 = .ok (.iload_n 0, 1) := by decide +kernel
theorem dX1_toWhole_15 : decode cX1_toWhole 15 = .ok (.invokestatic 33, 3) := by decide +kernel
theorem dX1_toWhole_18 : decode cX1_toWhole 18 = .ok (.lstore_n 2, 1) := by decide +kernel
theorem dX1_toWhole_19 : decode cX1_toWhole 19 = .ok (.iload_n 1, 1) := by decide +kernel
theorem dX1_toWhole_20 : decode cX1_toWhole 20 = .ok (.bipush 8, 2) := by decide +kernel
theorem dX1_toWhole_22 : decode cX1_toWhole 22 = .ok (.if_icmp .le 10, 3) := by decide +kernel
theorem dX1_toWhole_25 : decode cX1_toWhole 25 = .ok (.ldc2_w 37, 3) := by decide +kernel
theorem dX1_toWhole_28 : decode cX1_toWhole 28 = .ok (.lstore_n 2, 1) := by decide +kernel
theorem dX1_toWhole_29 : decode cX1_toWhole 29 = .ok (.goto 29, 3) := by decide +kernel
theorem dX1_toWhole_32 : decode cX1_toWhole 32 = .ok (.iload_n 1, 1) := by decide +kernel
theorem dX1_toWhole_33 : decode cX1_toWhole 33 = .ok (.ifCond .lt 10, 3) := by decide +kernel
theorem dX1_toWhole_36 : decode cX1_toWhole 36 = .ok (.lload_n 2, 1) := by decide +kernel
theorem dX1_toWhole_37 : decode cX1_toWhole 37 = .ok (.iload_n 1, 1) := by decide +kernel
theorem dX1_toWhole_38 : decode cX1_toWhole 38 = .ok (.lshl, 1) := by decide +kernel
theorem dX1_toWhole_39 : decode cX1_toWhole 39 = .ok (.lstore_n 2, 1) := by decide +kernel
theorem dX1_toWhole_40 : decode cX1_toWhole 40 = .ok (.goto 18, 3) := by decide +kernel
theorem dX1_toWhole_43 : decode cX1_toWhole 43 = .ok (.iload_n 1, 1) := by decide +kernel
theorem dX1_toWhole_44 : decode cX1_toWhole 44 = .ok (.bipush (-24), 2) := by decide +kernel
theorem dX1_toWhole_46 : decode cX1_toWhole 46 = .ok (.if_icmp .ge 7, 3) := by decide +kernel
theorem dX1_toWhole_49 : decode cX1_toWhole 49 = .ok (.lconst 0, 1) := by decide +kernel
theorem dX1_toWhole_50 : decode cX1_toWhole 50 = .ok (.goto 7, 3) := by decide +kernel
theorem dX1_toWhole_53 : decode cX1_toWhole 53 = .ok (.lload_n 2, 1) := by decide +kernel
theorem dX1_toWhole_54 : decode cX1_toWhole 54 = .ok (.iload_n 1, 1) := by decide +kernel
theorem dX1_toWhole_55 : decode cX1_toWhole 55 = .ok (.ineg, 1) := by decide +kernel
theorem dX1_toWhole_56 : decode cX1_toWhole 56 = .ok (.lshr, 1) := by decide +kernel
theorem dX1_toWhole_57 : decode cX1_toWhole 57 = .ok (.lstore_n 2, 1) := by decide +kernel
theorem dX1_toWhole_58 : decode cX1_toWhole 58 = .ok (.iload_n 0, 1) := by decide +kernel
theorem dX1_toWhole_59 : decode cX1_toWhole 59 = .ok (.ifCond .ge 13, 3) := by decide +kernel
theorem dX1_toWhole_62 : decode cX1_toWhole 62 = .ok (.lload_n 2, 1) := by decide +kernel
theorem dX1_toWhole_63 : decode cX1_toWhole 63 = .ok (.ldc2_w 37, 3) := by decide +kernel
theorem dX1_toWhole_66 : decode cX1_toWhole 66 = .ok (.invokestatic 39, 3) := by decide +kernel
theorem dX1_toWhole_69 : decode cX1_toWhole 69 = .ok (.lneg, 1) := by decide +kernel
theorem dX1_toWhole_70 : decode cX1_toWhole 70 = .ok (.l2i, 1) := by decide +kernel
theorem dX1_toWhole_71 : decode cX1_toWhole 71 = .ok (.ireturn, 1) := by decide +kernel
theorem dX1_toWhole_72 : decode cX1_toWhole 72 = .ok (.lload_n 2, 1) := by decide +kernel
theorem dX1_toWhole_73 : decode cX1_toWhole 73 = .ok (.ldc2_w 43, 3) := by decide +kernel
theorem dX1_toWhole_76 : decode cX1_toWhole 76 = .ok (.invokestatic 39, 3) := by decide +kernel
theorem dX1_toWhole_79 : decode cX1_toWhole 79 = .ok (.l2i, 1) := by decide +kernel
theorem dX1_toWhole_80 : decode cX1_toWhole 80 = .ok (.ireturn, 1) := by decide +kernel
theorem dX1_product_0 : decode cX1_product 0 = .ok (.iload_n 0, 1) := by decide +kernel
theorem dX1_product_1 : decode cX1_product 1 = .ok (.invokestatic 10, 3) := by decide +kernel
theorem dX1_product_4 : decode cX1_product 4 = .ok (.ifCond .ne 10, 3) := by decide +kernel
theorem dX1_product_7 : decode cX1_product 7 = .ok (.iload_n 1, 1) := by decide +kernel
theorem dX1_product_8 : decode cX1_product 8 = .ok (.invokestatic 10, 3) := by decide +kernel
theorem dX1_product_11 : decode cX1_product 11 = .ok (.ifCond .eq 6, 3) := by decide +kernel
theorem dX1_product_14 : decode cX1_product 14 = .ok (.ldc 45, 2) := by decide +kernel
theorem dX1_product_16 : decode cX1_product 16 = .ok (.ireturn, 1) := by decide +kernel
theorem dX1_product_17 : decode cX1_product 17 = .ok (.iload_n 0, 1) := by decide +kernel
theorem dX1_product_18 : decode cX1_product 18 = .ok (.iload_n 1, 1) := by decide +kernel
theorem dX1_product_19 : decode cX1_product 19 = .ok (.ixor, 1) := by decide +kernel
theorem dX1_product_20 : decode cX1_product 20 = .ok (.ldc 19, 2) := by decide +kernel
theorem dX1_product_22 : decode cX1_product 22 = .ok (.iand, 1) := by decide +kernel
theorem dX1_product_23 : decode cX1_product 23 = .ok (.iload_n 0, 1) := by decide +kernel
theorem dX1_product_24 : decode cX1_product 24 = .ok (.invokestatic 33, 3) := by decide +kernel
theorem dX1_product_27 : decode cX1_product 27 = .ok (.iload_n 1, 1) := by decide +kernel
theorem dX1_product_28 : decode cX1_product 28 = .ok (.invokestatic 33, 3) := by decide +kernel
theorem dX1_product_31 : decode cX1_product 31 = .ok (.lmul, 1) := by decide +kernel
theorem dX1_product_32 : decode cX1_product 32 = .ok (.iload_n 0, 1) := by decide +kernel
theorem dX1_product_33 : decode cX1_product 33 = .ok (.invokestatic 30, 3) := by decide +kernel
theorem dX1_product_36 : decode cX1_product 36 = .ok (.iload_n 1, 1) := by decide +kernel
theorem dX1_product_37 : decode cX1_product 37 = .ok (.invokestatic 30, 3) := by decide +kernel
theorem dX1_product_40 : decode cX1_product 40 = .ok (.iadd, 1) := by decide +kernel
theorem dX1_product_41 : decode cX1_product 41 = .ok (.invokestatic 26, 3) := by decide +kernel
theorem dX1_product_44 : decode cX1_product 44 = .ok (.ireturn, 1) := by decide +kernel
theorem dX1_sum_0 : decode cX1_sum 0 = .ok (.iload_n 0, 1) := by decide +kernel
theorem dX1_sum_1 : decode cX1_sum 1 = .ok (.invokestatic 10, 3) := by decide +kernel
theorem dX1_sum_4 : decode cX1_sum 4 = .ok (.ifCond .ne 10, 3) := by decide +kernel
theorem dX1_sum_7 : decode cX1_sum 7 = .ok (.iload_n 1, 1) := by decide +kernel
theorem dX1_sum_8 : decode cX1_sum 8 = .ok (.invokestatic 10, 3) := by decide +kernel
theorem dX1_sum_11 : decode cX1_sum 11 = .ok (.ifCond .eq 6, 3) := by decide +kernel
theorem dX1_sum_14 : decode cX1_sum 14 = .ok (.ldc 45, 2) := by decide +kernel
theorem dX1_sum_16 : decode cX1_sum 16 = .ok (.ireturn, 1) := by decide +kernel
theorem dX1_sum_17 : decode cX1_sum 17 = .ok (.iload_n 0, 1) := by decide +kernel
theorem dX1_sum_18 : decode cX1_sum 18 = .ok (.invokestatic 30, 3) := by decide +kernel
theorem dX1_sum_21 : decode cX1_sum 21 = .ok (.iload_n 1, 1) := by decide +kernel
theorem dX1_sum_22 : decode cX1_sum 22 = .ok (.invokestatic 30, 3) := by decide +kernel
theorem dX1_sum_25 : decode cX1_sum 25 = .ok (.if_icmp .lt 7, 3) := by decide +kernel
theorem dX1_sum_28 : decode cX1_sum 28 = .ok (.iconst 1, 1) := by decide +kernel
theorem dX1_sum_29 : decode cX1_sum 29 = .ok (.goto 4, 3) := by decide +kernel
theorem dX1_sum_32 : decode cX1_sum 32 = .ok (.iconst 0, 1) := by decide +kernel
theorem dX1_sum_33 : decode cX1_sum 33 = .ok (.istore_n 2, 1) := by decide +kernel
theorem dX1_sum_34 : decode cX1_sum 34 = .ok (.iload_n 2, 1) := by decide +kernel
theorem dX1_sum_35 : decode cX1_sum 35 = .ok (.ifCond .eq 7, 3) := by decide +kernel
theorem dX1_sum_38 : decode cX1_sum 38 = .ok (.iload_n 0, 1) := by decide +kernel
theorem dX1_sum_39 : decode cX1_sum 39 = .ok (.goto 4, 3) := by decide +kernel
theorem dX1_sum_42 : decode cX1_sum 42 = .ok (.iload_n 1, 1) := by decide +kernel
theorem dX1_sum_43 : decode cX1_sum 43 = .ok (.istore_n 3, 1) := by decide +kernel
theorem dX1_sum_44 : decode cX1_sum 44 = .ok (.iload_n 2, 1) := by decide +kernel
theorem dX1_sum_45 : decode cX1_sum 45 = .ok (.ifCond .eq 7, 3) := by decide +kernel
theorem dX1_sum_48 : decode cX1_sum 48 = .ok (.iload_n 1, 1) := by decide +kernel
theorem dX1_sum_49 : decode cX1_sum 49 = .ok (.goto 4, 3) := by decide +kernel
theorem dX1_sum_52 : decode cX1_sum 52 = .ok (.iload_n 0, 1) := by decide +kernel
theorem dX1_sum_53 : decode cX1_sum 53 = .ok (.istore 4, 2) := by decide +kernel
theorem dX1_sum_55 : decode cX1_sum 55 = .ok (.iload_n 3, 1) := by decide +kernel
theorem dX1_sum_56 : decode cX1_sum 56 = .ok (.invokestatic 30, 3) := by decide +kernel
theorem dX1_sum_59 : decode cX1_sum 59 = .ok (.bipush 30, 2) := by decide +kernel
theorem dX1_sum_61 : decode cX1_sum 61 = .ok (.isub, 1) := by decide +kernel
theorem dX1_sum_62 : decode cX1_sum 62 = .ok (.istore 5, 2) := by decide +kernel
theorem dX1_sum_64 : decode cX1_sum 64 = .ok (.iload_n 3, 1) := by decide +kernel
theorem dX1_sum_65 : decode cX1_sum 65 = .ok (.invokestatic 30, 3) := by decide +kernel
theorem dX1_sum_68 : decode cX1_sum 68 = .ok (.iload 4, 2) := by decide +kernel
theorem dX1_sum_70 : decode cX1_sum 70 = .ok (.invokestatic 30, 3) := by decide +kernel
theorem dX1_sum_73 : decode cX1_sum 73 = .ok (.isub, 1) := by decide +kernel
theorem dX1_sum_74 : decode cX1_sum 74 = .ok (.istore 6, 2) := by decide +kernel
theorem dX1_sum_76 : decode cX1_sum 76 = .ok (.iload_n 3, 1) := by decide +kernel
theorem dX1_sum_77 : decode cX1_sum 77 = .ok (.invokestatic 33, 3) := by decide +kernel
theorem dX1_sum_80 : decode cX1_sum 80 = .ok (.bipush 30, 2) := by decide +kernel
theorem dX1_sum_82 : decode cX1_sum 82 = .ok (.lshl, 1) := by decide +kernel
theorem dX1_sum_83 : decode cX1_sum 83 = .ok (.lstore 7, 2) := by decide +kernel
theorem dX1_sum_85 : decode cX1_sum 85 = .ok (.iload 6, 2) := by decide +kernel
theorem dX1_sum_87 : decode cX1_sum 87 = .ok (.bipush 62, 2) := by decide +kernel
theorem dX1_sum_89 : decode cX1_sum 89 = .ok (.if_icmp .le 7, 3) := by decide +kernel
theorem dX1_sum_92 : decode cX1_sum 92 = .ok (.lconst 0, 1) := by decide +kernel
theorem dX1_sum_93 : decode cX1_sum 93 = .ok (.goto 14, 3) := by decide +kernel
theorem dX1_sum_96 : decode cX1_sum 96 = .ok (.iload 4, 2) := by decide +kernel
theorem dX1_sum_98 : decode cX1_sum 98 = .ok (.invokestatic 33, 3) := by decide +kernel
theorem dX1_sum_101 : decode cX1_sum 101 = .ok (.bipush 30, 2) := by decide +kernel
theorem dX1_sum_103 : decode cX1_sum 103 = .ok (.lshl, 1) := by decide +kernel
theorem dX1_sum_104 : decode cX1_sum 104 = .ok (.iload 6, 2) := by decide +kernel
theorem dX1_sum_106 : decode cX1_sum 106 = .ok (.lshr, 1) := by decide +kernel
theorem dX1_sum_107 : decode cX1_sum 107 = .ok (.lstore 9, 2) := by decide +kernel
theorem dX1_sum_109 : decode cX1_sum 109 = .ok (.iload_n 3, 1) := by decide +kernel
theorem dX1_sum_110 : decode cX1_sum 110 = .ok (.ifCond .ge 9, 3) := by decide +kernel
theorem dX1_sum_113 : decode cX1_sum 113 = .ok (.lload 7, 2) := by decide +kernel
theorem dX1_sum_115 : decode cX1_sum 115 = .ok (.lneg, 1) := by decide +kernel
theorem dX1_sum_116 : decode cX1_sum 116 = .ok (.goto 5, 3) := by decide +kernel
theorem dX1_sum_119 : decode cX1_sum 119 = .ok (.lload 7, 2) := by decide +kernel
theorem dX1_sum_121 : decode cX1_sum 121 = .ok (.iload 4, 2) := by decide +kernel
theorem dX1_sum_123 : decode cX1_sum 123 = .ok (.ifCond .ge 9, 3) := by decide +kernel
theorem dX1_sum_126 : decode cX1_sum 126 = .ok (.lload 9, 2) := by decide +kernel
theorem dX1_sum_128 : decode cX1_sum 128 = .ok (.lneg, 1) := by decide +kernel
theorem dX1_sum_129 : decode cX1_sum 129 = .ok (.goto 5, 3) := by decide +kernel
theorem dX1_sum_132 : decode cX1_sum 132 = .ok (.lload 9, 2) := by decide +kernel
theorem dX1_sum_134 : decode cX1_sum 134 = .ok (.ladd, 1) := by decide +kernel
theorem dX1_sum_135 : decode cX1_sum 135 = .ok (.lstore 11, 2) := by decide +kernel
theorem dX1_sum_137 : decode cX1_sum 137 = .ok (.lload 11, 2) := by decide +kernel
theorem dX1_sum_139 : decode cX1_sum 139 = .ok (.lconst 0, 1) := by decide +kernel
theorem dX1_sum_140 : decode cX1_sum 140 = .ok (.lcmp, 1) := by decide +kernel
theorem dX1_sum_141 : decode cX1_sum 141 = .ok (.ifCond .ne 10, 3) := by decide +kernel
theorem dX1_sum_144 : decode cX1_sum 144 = .ok (.iload_n 0, 1) := by decide +kernel
theorem dX1_sum_145 : decode cX1_sum 145 = .ok (.iload_n 1, 1) := by decide +kernel
theorem dX1_sum_146 : decode cX1_sum 146 = .ok (.iand, 1) := by decide +kernel
theorem dX1_sum_147 : decode cX1_sum 147 = .ok (.ldc 19, 2) := by decide +kernel
theorem dX1_sum_149 : decode cX1_sum 149 = .ok (.iand, 1) := by decide +kernel
theorem dX1_sum_150 : decode cX1_sum 150 = .ok (.ireturn, 1) := by decide +kernel
theorem dX1_sum_151 : decode cX1_sum 151 = .ok (.lload 11, 2) := by decide +kernel
theorem dX1_sum_153 : decode cX1_sum 153 = .ok (.lconst 0, 1) := by decide +kernel
theorem dX1_sum_154 : decode cX1_sum 154 = .ok (.lcmp, 1) := by decide +kernel
theorem dX1_sum_155 : decode cX1_sum 155 = .ok (.ifCond .ge 8, 3) := by decide +kernel
theorem dX1_sum_158 : decode cX1_sum 158 = .ok (.ldc 19, 2) := by decide +kernel
theorem dX1_sum_160 : decode cX1_sum 160 = .ok (.goto 4, 3) := by decide +kernel
theorem dX1_sum_163 : decode cX1_sum 163 = .ok (.iconst 0, 1) := by decide +kernel
theorem dX1_sum_164 : decode cX1_sum 164 = .ok (.lload 11, 2) := by decide +kernel
theorem dX1_sum_166 : decode cX1_sum 166 = .ok (.invokestatic 20, 3) := by decide +kernel
theorem dX1_sum_169 : decode cX1_sum 169 = .ok (.iload 5, 2) := by decide +kernel
theorem dX1_sum_171 : decode cX1_sum 171 = .ok (.invokestatic 26, 3) := by decide +kernel
theorem dX1_sum_174 : decode cX1_sum 174 = .ok (.ireturn, 1) := by decide +kernel
theorem dX1_quotient_0 : decode cX1_quotient 0 = .ok (.iload_n 1, 1) := by decide +kernel
theorem dX1_quotient_1 : decode cX1_quotient 1 = .ok (.invokestatic 33, 3) := by decide +kernel
theorem dX1_quotient_4 : decode cX1_quotient 4 = .ok (.lstore_n 2, 1) := by decide +kernel
theorem dX1_quotient_5 : decode cX1_quotient 5 = .ok (.lload_n 2, 1) := by decide +kernel
theorem dX1_quotient_6 : decode cX1_quotient 6 = .ok (.lconst 0, 1) := by decide +kernel
theorem dX1_quotient_7 : decode cX1_quotient 7 = .ok (.lcmp, 1) := by decide +kernel
theorem dX1_quotient_8 : decode cX1_quotient 8 = .ok (.ifCond .gt 5, 3) := by decide +kernel
theorem dX1_quotient_11 : decode cX1_quotient 11 = .ok (.iconst 0, 1) := by decide +kernel
theorem dX1_quotient_12 : decode cX1_quotient 12 = .ok (.ireturn, 1) := by decide +kernel
theorem dX1_quotient_13 : decode cX1_quotient 13 = .ok (.iload_n 0, 1) := by decide +kernel
theorem dX1_quotient_14 : decode cX1_quotient 14 = .ok (.invokestatic 33, 3) := by decide +kernel
theorem dX1_quotient_17 : decode cX1_quotient 17 = .ok (.bipush 30, 2) := by decide +kernel
theorem dX1_quotient_19 : decode cX1_quotient 19 = .ok (.lshl, 1) := by decide +kernel
theorem dX1_quotient_20 : decode cX1_quotient 20 = .ok (.lstore 4, 2) := by decide +kernel
theorem dX1_quotient_22 : decode cX1_quotient 22 = .ok (.lload 4, 2) := by decide +kernel
theorem dX1_quotient_24 : decode cX1_quotient 24 = .ok (.lload_n 2, 1) := by decide +kernel
theorem dX1_quotient_25 : decode cX1_quotient 25 = .ok (.lrem, 1) := by decide +kernel
theorem dX1_quotient_26 : decode cX1_quotient 26 = .ok (.lconst 0, 1) := by decide +kernel
theorem dX1_quotient_27 : decode cX1_quotient 27 = .ok (.lcmp, 1) := by decide +kernel
theorem dX1_quotient_28 : decode cX1_quotient 28 = .ok (.ifCond .ne 7, 3) := by decide +kernel
theorem dX1_quotient_31 : decode cX1_quotient 31 = .ok (.lconst 0, 1) := by decide +kernel
theorem dX1_quotient_32 : decode cX1_quotient 32 = .ok (.goto 4, 3) := by decide +kernel
theorem dX1_quotient_35 : decode cX1_quotient 35 = .ok (.lconst 1, 1) := by decide +kernel
theorem dX1_quotient_36 : decode cX1_quotient 36 = .ok (.lstore 6, 2) := by decide +kernel
theorem dX1_quotient_38 : decode cX1_quotient 38 = .ok (.iconst 0, 1) := by decide +kernel
theorem dX1_quotient_39 : decode cX1_quotient 39 = .ok (.lload 4, 2) := by decide +kernel
theorem dX1_quotient_41 : decode cX1_quotient 41 = .ok (.lload_n 2, 1) := by decide +kernel
theorem dX1_quotient_42 : decode cX1_quotient 42 = .ok (.ldiv, 1) := by decide +kernel
theorem dX1_quotient_43 : decode cX1_quotient 43 = .ok (.lload 6, 2) := by decide +kernel
theorem dX1_quotient_45 : decode cX1_quotient 45 = .ok (.lor, 1) := by decide +kernel
theorem dX1_quotient_46 : decode cX1_quotient 46 = .ok (.iload_n 0, 1) := by decide +kernel
theorem dX1_quotient_47 : decode cX1_quotient 47 = .ok (.invokestatic 30, 3) := by decide +kernel
theorem dX1_quotient_50 : decode cX1_quotient 50 = .ok (.iload_n 1, 1) := by decide +kernel
theorem dX1_quotient_51 : decode cX1_quotient 51 = .ok (.invokestatic 30, 3) := by decide +kernel
theorem dX1_quotient_54 : decode cX1_quotient 54 = .ok (.isub, 1) := by decide +kernel
theorem dX1_quotient_55 : decode cX1_quotient 55 = .ok (.bipush 30, 2) := by decide +kernel
theorem dX1_quotient_57 : decode cX1_quotient 57 = .ok (.isub, 1) := by decide +kernel
theorem dX1_quotient_58 : decode cX1_quotient 58 = .ok (.invokestatic 26, 3) := by decide +kernel
theorem dX1_quotient_61 : decode cX1_quotient 61 = .ok (.ireturn, 1) := by decide +kernel
theorem dX1_exponentOf_0 : decode cX1_exponentOf 0 = .ok (.iload_n 0, 1) := by decide +kernel
theorem dX1_exponentOf_1 : decode cX1_exponentOf 1 = .ok (.bipush 23, 2) := by decide +kernel
theorem dX1_exponentOf_3 : decode cX1_exponentOf 3 = .ok (.ishr, 1) := by decide +kernel
theorem dX1_exponentOf_4 : decode cX1_exponentOf 4 = .ok (.sipush 255, 3) := by decide +kernel
theorem dX1_exponentOf_7 : decode cX1_exponentOf 7 = .ok (.iand, 1) := by decide +kernel
theorem dX1_exponentOf_8 : decode cX1_exponentOf 8 = .ok (.iconst 1, 1) := by decide +kernel
theorem dX1_exponentOf_9 : decode cX1_exponentOf 9 = .ok (.invokestatic 46, 3) := by decide +kernel
theorem dX1_exponentOf_12 : decode cX1_exponentOf 12 = .ok (.sipush 150, 3) := by decide +kernel
theorem dX1_exponentOf_15 : decode cX1_exponentOf 15 = .ok (.isub, 1) := by decide +kernel
theorem dX1_exponentOf_16 : decode cX1_exponentOf 16 = .ok (.ireturn, 1) := by decide +kernel
theorem dX1_digitsOf_0 : decode cX1_digitsOf 0 = .ok (.iload_n 0, 1) := by decide +kernel
theorem dX1_digitsOf_1 : decode cX1_digitsOf 1 = .ok (.ldc 9, 2) := by decide +kernel
theorem dX1_digitsOf_3 : decode cX1_digitsOf 3 = .ok (.iand, 1) := by decide +kernel
theorem dX1_digitsOf_4 : decode cX1_digitsOf 4 = .ok (.ifCond .ne 11, 3) := by decide +kernel
theorem dX1_digitsOf_7 : decode cX1_digitsOf 7 = .ok (.iload_n 0, 1) := by decide +kernel
theorem dX1_digitsOf_8 : decode cX1_digitsOf 8 = .ok (.ldc 50, 2) := by decide +kernel
theorem dX1_digitsOf_10 : decode cX1_digitsOf 10 = .ok (.iand, 1) := by decide +kernel
theorem dX1_digitsOf_11 : decode cX1_digitsOf 11 = .ok (.i2l, 1) := by decide +kernel
theorem dX1_digitsOf_12 : decode cX1_digitsOf 12 = .ok (.goto 11, 3) := by decide +kernel
theorem dX1_digitsOf_15 : decode cX1_digitsOf 15 = .ok (.iload_n 0, 1) := by decide +kernel
theorem dX1_digitsOf_16 : decode cX1_digitsOf 16 = .ok (.ldc 50, 2) := by decide +kernel
theorem dX1_digitsOf_18 : decode cX1_digitsOf 18 = .ok (.iand, 1) := by decide +kernel
theorem dX1_digitsOf_19 : decode cX1_digitsOf 19 = .ok (.ldc 51, 2) := by decide +kernel
theorem dX1_digitsOf_21 : decode cX1_digitsOf 21 = .ok (.ior, 1) := by decide +kernel
theorem dX1_digitsOf_22 : decode cX1_digitsOf 22 = .ok (.i2l, 1) := by decide +kernel
theorem dX1_digitsOf_23 : decode cX1_digitsOf 23 = .ok (.lreturn, 1) := by decide +kernel
theorem dX1_nearest_0 : decode cX1_nearest 0 = .ok (.lload_n 1, 1) := by decide +kernel
theorem dX1_nearest_1 : decode cX1_nearest 1 = .ok (.lconst 0, 1) := by decide +kernel
theorem dX1_nearest_2 : decode cX1_nearest 2 = .ok (.lcmp, 1) := by decide +kernel
theorem dX1_nearest_3 : decode cX1_nearest 3 = .ok (.ifCond .gt 5, 3) := by decide +kernel
theorem dX1_nearest_6 : decode cX1_nearest 6 = .ok (.iload_n 0, 1) := by decide +kernel
theorem dX1_nearest_7 : decode cX1_nearest 7 = .ok (.ireturn, 1) := by decide +kernel
theorem dX1_nearest_8 : decode cX1_nearest 8 = .ok (.bipush 64, 2) := by decide +kernel
theorem dX1_nearest_10 : decode cX1_nearest 10 = .ok (.lload_n 1, 1) := by decide +kernel
theorem dX1_nearest_11 : decode cX1_nearest 11 = .ok (.invokestatic 52, 3) := by decide +kernel
theorem dX1_nearest_14 : decode cX1_nearest 14 = .ok (.isub, 1) := by decide +kernel
theorem dX1_nearest_15 : decode cX1_nearest 15 = .ok (.istore 4, 2) := by decide +kernel
theorem dX1_nearest_17 : decode cX1_nearest 17 = .ok (.iload_n 3, 1) := by decide +kernel
theorem dX1_nearest_18 : decode cX1_nearest 18 = .ok (.iload 4, 2) := by decide +kernel
theorem dX1_nearest_20 : decode cX1_nearest 20 = .ok (.iadd, 1) := by decide +kernel
theorem dX1_nearest_21 : decode cX1_nearest 21 = .ok (.bipush 24, 2) := by decide +kernel
theorem dX1_nearest_23 : decode cX1_nearest 23 = .ok (.isub, 1) := by decide +kernel
theorem dX1_nearest_24 : decode cX1_nearest 24 = .ok (.sipush (-149), 3) := by decide +kernel
theorem dX1_nearest_27 : decode cX1_nearest 27 = .ok (.invokestatic 46, 3) := by decide +kernel
theorem dX1_nearest_30 : decode cX1_nearest 30 = .ok (.istore 5, 2) := by decide +kernel
theorem dX1_nearest_32 : decode cX1_nearest 32 = .ok (.iload 5, 2) := by decide +kernel
theorem dX1_nearest_34 : decode cX1_nearest 34 = .ok (.iload_n 3, 1) := by decide +kernel
theorem dX1_nearest_35 : decode cX1_nearest 35 = .ok (.isub, 1) := by decide +kernel
theorem dX1_nearest_36 : decode cX1_nearest 36 = .ok (.istore 6, 2) := by decide +kernel
theorem dX1_nearest_38 : decode cX1_nearest 38 = .ok (.iload 6, 2) := by decide +kernel
theorem dX1_nearest_40 : decode cX1_nearest 40 = .ok (.ifCond .gt 13, 3) := by decide +kernel
theorem dX1_nearest_43 : decode cX1_nearest 43 = .ok (.lload_n 1, 1) := by decide +kernel
theorem dX1_nearest_44 : decode cX1_nearest 44 = .ok (.iload 6, 2) := by decide +kernel
theorem dX1_nearest_46 : decode cX1_nearest 46 = .ok (.ineg, 1) := by decide +kernel
theorem dX1_nearest_47 : decode cX1_nearest 47 = .ok (.lshl, 1) := by decide +kernel
theorem dX1_nearest_48 : decode cX1_nearest 48 = .ok (.lstore 7, 2) := by decide +kernel
theorem dX1_nearest_50 : decode cX1_nearest 50 = .ok (.goto 74, 3) := by decide +kernel
theorem dX1_nearest_53 : decode cX1_nearest 53 = .ok (.iload 6, 2) := by decide +kernel
theorem dX1_nearest_55 : decode cX1_nearest 55 = .ok (.bipush 62, 2) := by decide +kernel
theorem dX1_nearest_57 : decode cX1_nearest 57 = .ok (.if_icmp .le 9, 3) := by decide +kernel
theorem dX1_nearest_60 : decode cX1_nearest 60 = .ok (.lconst 0, 1) := by decide +kernel
theorem dX1_nearest_61 : decode cX1_nearest 61 = .ok (.lstore 7, 2) := by decide +kernel
theorem dX1_nearest_63 : decode cX1_nearest 63 = .ok (.goto 61, 3) := by decide +kernel
theorem dX1_nearest_66 : decode cX1_nearest 66 = .ok (.lload_n 1, 1) := by decide +kernel
theorem dX1_nearest_67 : decode cX1_nearest 67 = .ok (.iload 6, 2) := by decide +kernel
theorem dX1_nearest_69 : decode cX1_nearest 69 = .ok (.lshr, 1) := by decide +kernel
theorem dX1_nearest_70 : decode cX1_nearest 70 = .ok (.lstore 7, 2) := by decide +kernel
theorem dX1_nearest_72 : decode cX1_nearest 72 = .ok (.lload_n 1, 1) := by decide +kernel
theorem dX1_nearest_73 : decode cX1_nearest 73 = .ok (.lload 7, 2) := by decide +kernel
theorem dX1_nearest_75 : decode cX1_nearest 75 = .ok (.iload 6, 2) := by decide +kernel
theorem dX1_nearest_77 : decode cX1_nearest 77 = .ok (.lshl, 1) := by decide +kernel
theorem dX1_nearest_78 : decode cX1_nearest 78 = .ok (.lsub, 1) := by decide +kernel
theorem dX1_nearest_79 : decode cX1_nearest 79 = .ok (.lstore 9, 2) := by decide +kernel
theorem dX1_nearest_81 : decode cX1_nearest 81 = .ok (.lconst 1, 1) := by decide +kernel
theorem dX1_nearest_82 : decode cX1_nearest 82 = .ok (.iload 6, 2) := by decide +kernel
theorem dX1_nearest_84 : decode cX1_nearest 84 = .ok (.iconst 1, 1) := by decide +kernel
theorem dX1_nearest_85 : decode cX1_nearest 85 = .ok (.isub, 1) := by decide +kernel
theorem dX1_nearest_86 : decode cX1_nearest 86 = .ok (.lshl, 1) := by decide +kernel
theorem dX1_nearest_87 : decode cX1_nearest 87 = .ok (.lstore 11, 2) := by decide +kernel
theorem dX1_nearest_89 : decode cX1_nearest 89 = .ok (.lload 7, 2) := by decide +kernel
theorem dX1_nearest_91 : decode cX1_nearest 91 = .ok (.lload 9, 2) := by decide +kernel
theorem dX1_nearest_93 : decode cX1_nearest 93 = .ok (.lload 11, 2) := by decide +kernel
theorem dX1_nearest_95 : decode cX1_nearest 95 = .ok (.lcmp, 1) := by decide +kernel
theorem dX1_nearest_96 : decode cX1_nearest 96 = .ok (.ifCond .gt 20, 3) := by decide +kernel
theorem dX1_nearest_99 : decode cX1_nearest 99 = .ok (.lload 9, 2) := by decide +kernel
theorem dX1_nearest_101 : decode cX1_nearest 101 = .ok (.lload 11, 2) := by decide +kernel
theorem dX1_nearest_103 : decode cX1_nearest 103 = .ok (.lcmp, 1) := by decide +kernel
theorem dX1_nearest_104 : decode cX1_nearest 104 = .ok (.ifCond .ne 16, 3) := by decide +kernel
theorem dX1_nearest_107 : decode cX1_nearest 107 = .ok (.lload 7, 2) := by decide +kernel
theorem dX1_nearest_109 : decode cX1_nearest 109 = .ok (.lconst 1, 1) := by decide +kernel
theorem dX1_nearest_110 : decode cX1_nearest 110 = .ok (.land, 1) := by decide +kernel
theorem dX1_nearest_111 : decode cX1_nearest 111 = .ok (.lconst 1, 1) := by decide +kernel
theorem dX1_nearest_112 : decode cX1_nearest 112 = .ok (.lcmp, 1) := by decide +kernel
theorem dX1_nearest_113 : decode cX1_nearest 113 = .ok (.ifCond .ne 7, 3) := by decide +kernel
theorem dX1_nearest_116 : decode cX1_nearest 116 = .ok (.lconst 1, 1) := by decide +kernel
theorem dX1_nearest_117 : decode cX1_nearest 117 = .ok (.goto 4, 3) := by decide +kernel
theorem dX1_nearest_120 : decode cX1_nearest 120 = .ok (.lconst 0, 1) := by decide +kernel
theorem dX1_nearest_121 : decode cX1_nearest 121 = .ok (.ladd, 1) := by decide +kernel
theorem dX1_nearest_122 : decode cX1_nearest 122 = .ok (.lstore 7, 2) := by decide +kernel
theorem dX1_nearest_124 : decode cX1_nearest 124 = .ok (.iload 5, 2) := by decide +kernel
theorem dX1_nearest_126 : decode cX1_nearest 126 = .ok (.sipush 149, 3) := by decide +kernel
theorem dX1_nearest_129 : decode cX1_nearest 129 = .ok (.iadd, 1) := by decide +kernel
theorem dX1_nearest_130 : decode cX1_nearest 130 = .ok (.i2l, 1) := by decide +kernel
theorem dX1_nearest_131 : decode cX1_nearest 131 = .ok (.bipush 23, 2) := by decide +kernel
theorem dX1_nearest_133 : decode cX1_nearest 133 = .ok (.lshl, 1) := by decide +kernel
theorem dX1_nearest_134 : decode cX1_nearest 134 = .ok (.lload 7, 2) := by decide +kernel
theorem dX1_nearest_136 : decode cX1_nearest 136 = .ok (.ladd, 1) := by decide +kernel
theorem dX1_nearest_137 : decode cX1_nearest 137 = .ok (.lstore 9, 2) := by decide +kernel
theorem dX1_nearest_139 : decode cX1_nearest 139 = .ok (.iload_n 0, 1) := by decide +kernel
theorem dX1_nearest_140 : decode cX1_nearest 140 = .ok (.lload 9, 2) := by decide +kernel
theorem dX1_nearest_142 : decode cX1_nearest 142 = .ok (.ldc2_w 58, 3) := by decide +kernel
theorem dX1_nearest_145 : decode cX1_nearest 145 = .ok (.invokestatic 39, 3) := by decide +kernel
theorem dX1_nearest_148 : decode cX1_nearest 148 = .ok (.l2i, 1) := by decide +kernel
theorem dX1_nearest_149 : decode cX1_nearest 149 = .ok (.ior, 1) := by decide +kernel
theorem dX1_nearest_150 : decode cX1_nearest 150 = .ok (.ireturn, 1) := by decide +kernel
theorem dX2_init_0 : decode cX2_init 0 = .ok (.aload_n 0, 1) := by decide +kernel
theorem dX2_init_1 : decode cX2_init 1 = .ok (.invokespecial 3, 3) := by decide +kernel
theorem dX2_init_4 : decode cX2_init 4 = .ok (.aload_n 0, 1) := by decide +kernel
theorem dX2_init_5 : decode cX2_init 5 = .ok (.bipush 32, 2) := by decide +kernel
theorem dX2_init_7 : decode cX2_init 7 = .ok (.newarray .int, 2) := by decide +kernel
theorem dX2_init_9 : decode cX2_init 9 = .ok (.putfield 9, 3) := by decide +kernel
theorem dX2_init_12 : decode cX2_init 12 = .ok (.aload_n 0, 1) := by decide +kernel
theorem dX2_init_13 : decode cX2_init 13 = .ok (.bipush 40, 2) := by decide +kernel
theorem dX2_init_15 : decode cX2_init 15 = .ok (.newarray .int, 2) := by decide +kernel
theorem dX2_init_17 : decode cX2_init 17 = .ok (.putfield 15, 3) := by decide +kernel
theorem dX2_init_20 : decode cX2_init 20 = .ok (.aload_n 0, 1) := by decide +kernel
theorem dX2_init_21 : decode cX2_init 21 = .ok (.bipush 16, 2) := by decide +kernel
theorem dX2_init_23 : decode cX2_init 23 = .ok (.newarray .int, 2) := by decide +kernel
theorem dX2_init_25 : decode cX2_init 25 = .ok (.putfield 18, 3) := by decide +kernel
theorem dX2_init_28 : decode cX2_init 28 = .ok (.aload_n 0, 1) := by decide +kernel
theorem dX2_init_29 : decode cX2_init 29 = .ok (.bipush 16, 2) := by decide +kernel
theorem dX2_init_31 : decode cX2_init 31 = .ok (.newarray .int, 2) := by decide +kernel
theorem dX2_init_33 : decode cX2_init 33 = .ok (.putfield 21, 3) := by decide +kernel
theorem dX2_init_36 : decode cX2_init 36 = .ok (.aload_n 0, 1) := by decide +kernel
theorem dX2_init_37 : decode cX2_init 37 = .ok (.bipush 16, 2) := by decide +kernel
theorem dX2_init_39 : decode cX2_init 39 = .ok (.newarray .int, 2) := by decide +kernel
theorem dX2_init_41 : decode cX2_init 41 = .ok (.putfield 24, 3) := by decide +kernel
theorem dX2_init_44 : decode cX2_init 44 = .ok (.return_, 1) := by decide +kernel
theorem dX2_begin_0 : decode cX2_begin 0 = .ok (.aload_n 1, 1) := by decide +kernel
theorem dX2_begin_1 : decode cX2_begin 1 = .ok (.iconst 0, 1) := by decide +kernel
theorem dX2_begin_2 : decode cX2_begin 2 = .ok (.aload_n 0, 1) := by decide +kernel
theorem dX2_begin_3 : decode cX2_begin 3 = .ok (.getfield 9, 3) := by decide +kernel
theorem dX2_begin_6 : decode cX2_begin 6 = .ok (.iconst 0, 1) := by decide +kernel
theorem dX2_begin_7 : decode cX2_begin 7 = .ok (.bipush 32, 2) := by decide +kernel
theorem dX2_begin_9 : decode cX2_begin 9 = .ok (.invokestatic 27, 3) := by decide +kernel
theorem dX2_begin_12 : decode cX2_begin 12 = .ok (.aload_n 0, 1) := by decide +kernel
theorem dX2_begin_13 : decode cX2_begin 13 = .ok (.iconst 0, 1) := by decide +kernel
theorem dX2_begin_14 : decode cX2_begin 14 = .ok (.putfield 33, 3) := by decide +kernel
theorem dX2_begin_17 : decode cX2_begin 17 = .ok (.aload_n 0, 1) := by decide +kernel
theorem dX2_begin_18 : decode cX2_begin 18 = .ok (.iconst 0, 1) := by decide +kernel
theorem dX2_begin_19 : decode cX2_begin 19 = .ok (.putfield 37, 3) := by decide +kernel
theorem dX2_begin_22 : decode cX2_begin 22 = .ok (.return_, 1) := by decide +kernel
theorem dX2_copyFrom_0 : decode cX2_copyFrom 0 = .ok (.aload_n 1, 1) := by decide +kernel
theorem dX2_copyFrom_1 : decode cX2_copyFrom 1 = .ok (.getfield 9, 3) := by decide +kernel
theorem dX2_copyFrom_4 : decode cX2_copyFrom 4 = .ok (.iconst 0, 1) := by decide +kernel
theorem dX2_copyFrom_5 : decode cX2_copyFrom 5 = .ok (.aload_n 0, 1) := by decide +kernel
theorem dX2_copyFrom_6 : decode cX2_copyFrom 6 = .ok (.getfield 9, 3) := by decide +kernel
theorem dX2_copyFrom_9 : decode cX2_copyFrom 9 = .ok (.iconst 0, 1) := by decide +kernel
theorem dX2_copyFrom_10 : decode cX2_copyFrom 10 = .ok (.bipush 32, 2) := by decide +kernel
theorem dX2_copyFrom_12 : decode cX2_copyFrom 12 = .ok (.invokestatic 27, 3) := by decide +kernel
theorem dX2_copyFrom_15 : decode cX2_copyFrom 15 = .ok (.aload_n 1, 1) := by decide +kernel
theorem dX2_copyFrom_16 : decode cX2_copyFrom 16 = .ok (.getfield 15, 3) := by decide +kernel
theorem dX2_copyFrom_19 : decode cX2_copyFrom 19 = .ok (.iconst 0, 1) := by decide +kernel
theorem dX2_copyFrom_20 : decode cX2_copyFrom 20 = .ok (.aload_n 0, 1) := by decide +kernel
theorem dX2_copyFrom_21 : decode cX2_copyFrom 21 = .ok (.getfield 15, 3) := by decide +kernel
theorem dX2_copyFrom_24 : decode cX2_copyFrom 24 = .ok (.iconst 0, 1) := by decide +kernel
theorem dX2_copyFrom_25 : decode cX2_copyFrom 25 = .ok (.bipush 40, 2) := by decide +kernel
theorem dX2_copyFrom_27 : decode cX2_copyFrom 27 = .ok (.invokestatic 27, 3) := by decide +kernel
theorem dX2_copyFrom_30 : decode cX2_copyFrom 30 = .ok (.aload_n 1, 1) := by decide +kernel
theorem dX2_copyFrom_31 : decode cX2_copyFrom 31 = .ok (.getfield 18, 3) := by decide +kernel
theorem dX2_copyFrom_34 : decode cX2_copyFrom 34 = .ok (.iconst 0, 1) := by decide +kernel
theorem dX2_copyFrom_35 : decode cX2_copyFrom 35 = .ok (.aload_n 0, 1) := by decide +kernel
theorem dX2_copyFrom_36 : decode cX2_copyFrom 36 = .ok (.getfield 18, 3) := by decide +kernel
theorem dX2_copyFrom_39 : decode cX2_copyFrom 39 = .ok (.iconst 0, 1) := by decide +kernel
theorem dX2_copyFrom_40 : decode cX2_copyFrom 40 = .ok (.bipush 16, 2) := by decide +kernel
theorem dX2_copyFrom_42 : decode cX2_copyFrom 42 = .ok (.invokestatic 27, 3) := by decide +kernel
theorem dX2_copyFrom_45 : decode cX2_copyFrom 45 = .ok (.aload_n 1, 1) := by decide +kernel
theorem dX2_copyFrom_46 : decode cX2_copyFrom 46 = .ok (.getfield 21, 3) := by decide +kernel
theorem dX2_copyFrom_49 : decode cX2_copyFrom 49 = .ok (.iconst 0, 1) := by decide +kernel
theorem dX2_copyFrom_50 : decode cX2_copyFrom 50 = .ok (.aload_n 0, 1) := by decide +kernel
theorem dX2_copyFrom_51 : decode cX2_copyFrom 51 = .ok (.getfield 21, 3) := by decide +kernel
theorem dX2_copyFrom_54 : decode cX2_copyFrom 54 = .ok (.iconst 0, 1) := by decide +kernel
theorem dX2_copyFrom_55 : decode cX2_copyFrom 55 = .ok (.bipush 16, 2) := by decide +kernel
theorem dX2_copyFrom_57 : decode cX2_copyFrom 57 = .ok (.invokestatic 27, 3) := by decide +kernel
theorem dX2_copyFrom_60 : decode cX2_copyFrom 60 = .ok (.aload_n 1, 1) := by decide +kernel
theorem dX2_copyFrom_61 : decode cX2_copyFrom 61 = .ok (.getfield 24, 3) := by decide +kernel
theorem dX2_copyFrom_64 : decode cX2_copyFrom 64 = .ok (.iconst 0, 1) := by decide +kernel
theorem dX2_copyFrom_65 : decode cX2_copyFrom 65 = .ok (.aload_n 0, 1) := by decide +kernel
theorem dX2_copyFrom_66 : decode cX2_copyFrom 66 = .ok (.getfield 24, 3) := by decide +kernel
theorem dX2_copyFrom_69 : decode cX2_copyFrom 69 = .ok (.iconst 0, 1) := by decide +kernel
theorem dX2_copyFrom_70 : decode cX2_copyFrom 70 = .ok (.bipush 16, 2) := by decide +kernel
theorem dX2_copyFrom_72 : decode cX2_copyFrom 72 = .ok (.invokestatic 27, 3) := by decide +kernel
theorem dX2_copyFrom_75 : decode cX2_copyFrom 75 = .ok (.aload_n 0, 1) := by decide +kernel
theorem dX2_copyFrom_76 : decode cX2_copyFrom 76 = .ok (.aload_n 1, 1) := by decide +kernel
theorem dX2_copyFrom_77 : decode cX2_copyFrom 77 = .ok (.getfield 33, 3) := by decide +kernel
theorem dX2_copyFrom_80 : decode cX2_copyFrom 80 = .ok (.putfield 33, 3) := by decide +kernel
theorem dX2_copyFrom_83 : decode cX2_copyFrom 83 = .ok (.aload_n 0, 1) := by decide +kernel
theorem dX2_copyFrom_84 : decode cX2_copyFrom 84 = .ok (.aload_n 1, 1) := by decide +kernel
theorem dX2_copyFrom_85 : decode cX2_copyFrom 85 = .ok (.getfield 37, 3) := by decide +kernel
theorem dX2_copyFrom_88 : decode cX2_copyFrom 88 = .ok (.putfield 37, 3) := by decide +kernel
theorem dX2_copyFrom_91 : decode cX2_copyFrom 91 = .ok (.return_, 1) := by decide +kernel
theorem dX2_receive_0 : decode cX2_receive 0 = .ok (.aload_n 0, 1) := by decide +kernel
theorem dX2_receive_1 : decode cX2_receive 1 = .ok (.getfield 33, 3) := by decide +kernel
theorem dX2_receive_4 : decode cX2_receive 4 = .ok (.aload_n 0, 1) := by decide +kernel
theorem dX2_receive_5 : decode cX2_receive 5 = .ok (.getfield 37, 3) := by decide +kernel
theorem dX2_receive_8 : decode cX2_receive 8 = .ok (.iadd, 1) := by decide +kernel
theorem dX2_receive_9 : decode cX2_receive 9 = .ok (.bipush 15, 2) := by decide +kernel
theorem dX2_receive_11 : decode cX2_receive 11 = .ok (.iand, 1) := by decide +kernel
theorem dX2_receive_12 : decode cX2_receive 12 = .ok (.istore 4, 2) := by decide +kernel
theorem dX2_receive_14 : decode cX2_receive 14 = .ok (.aload_n 0, 1) := by decide +kernel
theorem dX2_receive_15 : decode cX2_receive 15 = .ok (.getfield 18, 3) := by decide +kernel
theorem dX2_receive_18 : decode cX2_receive 18 = .ok (.iload 4, 2) := by decide +kernel
theorem dX2_receive_20 : decode cX2_receive 20 = .ok (.iload_n 1, 1) := by decide +kernel
theorem dX2_receive_21 : decode cX2_receive 21 = .ok (.bipush 32, 2) := by decide +kernel
theorem dX2_receive_23 : decode cX2_receive 23 = .ok (.invokestatic 40, 3) := by decide +kernel
theorem dX2_receive_26 : decode cX2_receive 26 = .ok (.iastore, 1) := by decide +kernel
theorem dX2_receive_27 : decode cX2_receive 27 = .ok (.aload_n 0, 1) := by decide +kernel
theorem dX2_receive_28 : decode cX2_receive 28 = .ok (.getfield 21, 3) := by decide +kernel
theorem dX2_receive_31 : decode cX2_receive 31 = .ok (.iload 4, 2) := by decide +kernel
theorem dX2_receive_33 : decode cX2_receive 33 = .ok (.iload_n 2, 1) := by decide +kernel
theorem dX2_receive_34 : decode cX2_receive 34 = .ok (.iastore, 1) := by decide +kernel
theorem dX2_receive_35 : decode cX2_receive 35 = .ok (.aload_n 0, 1) := by decide +kernel
theorem dX2_receive_36 : decode cX2_receive 36 = .ok (.getfield 24, 3) := by decide +kernel
theorem dX2_receive_39 : decode cX2_receive 39 = .ok (.iload 4, 2) := by decide +kernel
theorem dX2_receive_41 : decode cX2_receive 41 = .ok (.iload_n 3, 1) := by decide +kernel
theorem dX2_receive_42 : decode cX2_receive 42 = .ok (.iastore, 1) := by decide +kernel
theorem dX2_receive_43 : decode cX2_receive 43 = .ok (.iload_n 1, 1) := by decide +kernel
theorem dX2_receive_44 : decode cX2_receive 44 = .ok (.bipush 32, 2) := by decide +kernel
theorem dX2_receive_46 : decode cX2_receive 46 = .ok (.if_icmp .ge 26, 3) := by decide +kernel
theorem dX2_receive_49 : decode cX2_receive 49 = .ok (.aload_n 0, 1) := by decide +kernel
theorem dX2_receive_50 : decode cX2_receive 50 = .ok (.getfield 9, 3) := by decide +kernel
theorem dX2_receive_53 : decode cX2_receive 53 = .ok (.iload_n 1, 1) := by decide +kernel
theorem dX2_receive_54 : decode cX2_receive 54 = .ok (.bipush 31, 2) := by decide +kernel
theorem dX2_receive_56 : decode cX2_receive 56 = .ok (.iand, 1) := by decide +kernel
theorem dX2_receive_57 : decode cX2_receive 57 = .ok (.iload_n 2, 1) := by decide +kernel
theorem dX2_receive_58 : decode cX2_receive 58 = .ok (.iastore, 1) := by decide +kernel
theorem dX2_receive_59 : decode cX2_receive 59 = .ok (.aload_n 0, 1) := by decide +kernel
theorem dX2_receive_60 : decode cX2_receive 60 = .ok (.dup, 1) := by decide +kernel
theorem dX2_receive_61 : decode cX2_receive 61 = .ok (.getfield 33, 3) := by decide +kernel
theorem dX2_receive_64 : decode cX2_receive 64 = .ok (.iconst 1, 1) := by decide +kernel
theorem dX2_receive_65 : decode cX2_receive 65 = .ok (.iadd, 1) := by decide +kernel
theorem dX2_receive_66 : decode cX2_receive 66 = .ok (.putfield 33, 3) := by decide +kernel
theorem dX2_receive_69 : decode cX2_receive 69 = .ok (.goto 28, 3) := by decide +kernel
theorem dX2_receive_72 : decode cX2_receive 72 = .ok (.aload_n 0, 1) := by decide +kernel
theorem dX2_receive_73 : decode cX2_receive 73 = .ok (.getfield 15, 3) := by decide +kernel
theorem dX2_receive_76 : decode cX2_receive 76 = .ok (.aload_n 0, 1) := by decide +kernel
theorem dX2_receive_77 : decode cX2_receive 77 = .ok (.getfield 37, 3) := by decide +kernel
theorem dX2_receive_80 : decode cX2_receive 80 = .ok (.bipush 40, 2) := by decide +kernel
theorem dX2_receive_82 : decode cX2_receive 82 = .ok (.invokestatic 46, 3) := by decide +kernel
theorem dX2_receive_85 : decode cX2_receive 85 = .ok (.iload_n 2, 1) := by decide +kernel
theorem dX2_receive_86 : decode cX2_receive 86 = .ok (.iastore, 1) := by decide +kernel
theorem dX2_receive_87 : decode cX2_receive 87 = .ok (.aload_n 0, 1) := by decide +kernel
theorem dX2_receive_88 : decode cX2_receive 88 = .ok (.dup, 1) := by decide +kernel
theorem dX2_receive_89 : decode cX2_receive 89 = .ok (.getfield 37, 3) := by decide +kernel
theorem dX2_receive_92 : decode cX2_receive 92 = .ok (.iconst 1, 1) := by decide +kernel
theorem dX2_receive_93 : decode cX2_receive 93 = .ok (.iadd, 1) := by decide +kernel
theorem dX2_receive_94 : decode cX2_receive 94 = .ok (.putfield 37, 3) := by decide +kernel
theorem dX2_receive_97 : decode cX2_receive 97 = .ok (.return_, 1) := by decide +kernel
theorem dX2_keptOutput_0 : decode cX2_keptOutput 0 = .ok (.aload_n 0, 1) := by decide +kernel
theorem dX2_keptOutput_1 : decode cX2_keptOutput 1 = .ok (.getfield 37, 3) := by decide +kernel
theorem dX2_keptOutput_4 : decode cX2_keptOutput 4 = .ok (.bipush 40, 2) := by decide +kernel
theorem dX2_keptOutput_6 : decode cX2_keptOutput 6 = .ok (.invokestatic 40, 3) := by decide +kernel
theorem dX2_keptOutput_9 : decode cX2_keptOutput 9 = .ok (.istore_n 2, 1) := by decide +kernel
theorem dX2_keptOutput_10 : decode cX2_keptOutput 10 = .ok (.iload_n 1, 1) := by decide +kernel
theorem dX2_keptOutput_11 : decode cX2_keptOutput 11 = .ok (.ifCond .lt 8, 3) := by decide +kernel
theorem dX2_keptOutput_14 : decode cX2_keptOutput 14 = .ok (.iload_n 1, 1) := by decide +kernel
theorem dX2_keptOutput_15 : decode cX2_keptOutput 15 = .ok (.iload_n 2, 1) := by decide +kernel
theorem dX2_keptOutput_16 : decode cX2_keptOutput 16 = .ok (.if_icmp .lt 7, 3) := by decide +kernel
theorem dX2_keptOutput_19 : decode cX2_keptOutput 19 = .ok (.iconst 0, 1) := by decide +kernel
theorem dX2_keptOutput_20 : decode cX2_keptOutput 20 = .ok (.goto 21, 3) := by decide +kernel
theorem dX2_keptOutput_23 : decode cX2_keptOutput 23 = .ok (.aload_n 0, 1) := by decide +kernel
theorem dX2_keptOutput_24 : decode cX2_keptOutput 24 = .ok (.getfield 15, 3) := by decide +kernel
theorem dX2_keptOutput_27 : decode cX2_keptOutput 27 = .ok (.aload_n 0, 1) := by decide +kernel
theorem dX2_keptOutput_28 : decode cX2_keptOutput 28 = .ok (.getfield 37, 3) := by decide +kernel
theorem dX2_keptOutput_31 : decode cX2_keptOutput 31 = .ok (.iload_n 2, 1) := by decide +kernel
theorem dX2_keptOutput_32 : decode cX2_keptOutput 32 = .ok (.isub, 1) := by decide +kernel
theorem dX2_keptOutput_33 : decode cX2_keptOutput 33 = .ok (.iload_n 1, 1) := by decide +kernel
theorem dX2_keptOutput_34 : decode cX2_keptOutput 34 = .ok (.iadd, 1) := by decide +kernel
theorem dX2_keptOutput_35 : decode cX2_keptOutput 35 = .ok (.bipush 40, 2) := by decide +kernel
theorem dX2_keptOutput_37 : decode cX2_keptOutput 37 = .ok (.invokestatic 46, 3) := by decide +kernel
theorem dX2_keptOutput_40 : decode cX2_keptOutput 40 = .ok (.iaload, 1) := by decide +kernel
theorem dX2_keptOutput_41 : decode cX2_keptOutput 41 = .ok (.ireturn, 1) := by decide +kernel
theorem dX2_journalSize_0 : decode cX2_journalSize 0 = .ok (.aload_n 0, 1) := by decide +kernel
theorem dX2_journalSize_1 : decode cX2_journalSize 1 = .ok (.getfield 33, 3) := by decide +kernel
theorem dX2_journalSize_4 : decode cX2_journalSize 4 = .ok (.aload_n 0, 1) := by decide +kernel
theorem dX2_journalSize_5 : decode cX2_journalSize 5 = .ok (.getfield 37, 3) := by decide +kernel
theorem dX2_journalSize_8 : decode cX2_journalSize 8 = .ok (.iadd, 1) := by decide +kernel
theorem dX2_journalSize_9 : decode cX2_journalSize 9 = .ok (.bipush 16, 2) := by decide +kernel
theorem dX2_journalSize_11 : decode cX2_journalSize 11 = .ok (.invokestatic 40, 3) := by decide +kernel
theorem dX2_journalSize_14 : decode cX2_journalSize 14 = .ok (.ireturn, 1) := by decide +kernel
theorem dX2_journalPart_0 : decode cX2_journalPart 0 = .ok (.iload_n 1, 1) := by decide +kernel
theorem dX2_journalPart_1 : decode cX2_journalPart 1 = .ok (.ifCond .lt 11, 3) := by decide +kernel
theorem dX2_journalPart_4 : decode cX2_journalPart 4 = .ok (.iload_n 1, 1) := by decide +kernel
theorem dX2_journalPart_5 : decode cX2_journalPart 5 = .ok (.aload_n 0, 1) := by decide +kernel
theorem dX2_journalPart_6 : decode cX2_journalPart 6 = .ok (.invokevirtual 49, 3) := by decide +kernel
theorem dX2_journalPart_9 : decode cX2_journalPart 9 = .ok (.if_icmp .lt 5, 3) := by decide +kernel
theorem dX2_journalPart_12 : decode cX2_journalPart 12 = .ok (.iconst 0, 1) := by decide +kernel
theorem dX2_journalPart_13 : decode cX2_journalPart 13 = .ok (.ireturn, 1) := by decide +kernel
theorem dX2_journalPart_14 : decode cX2_journalPart 14 = .ok (.aload_n 0, 1) := by decide +kernel
theorem dX2_journalPart_15 : decode cX2_journalPart 15 = .ok (.getfield 33, 3) := by decide +kernel
theorem dX2_journalPart_18 : decode cX2_journalPart 18 = .ok (.aload_n 0, 1) := by decide +kernel
theorem dX2_journalPart_19 : decode cX2_journalPart 19 = .ok (.getfield 37, 3) := by decide +kernel
theorem dX2_journalPart_22 : decode cX2_journalPart 22 = .ok (.iadd, 1) := by decide +kernel
theorem dX2_journalPart_23 : decode cX2_journalPart 23 = .ok (.aload_n 0, 1) := by decide +kernel
theorem dX2_journalPart_24 : decode cX2_journalPart 24 = .ok (.invokevirtual 49, 3) := by decide +kernel
theorem dX2_journalPart_27 : decode cX2_journalPart 27 = .ok (.isub, 1) := by decide +kernel
theorem dX2_journalPart_28 : decode cX2_journalPart 28 = .ok (.iload_n 1, 1) := by decide +kernel
theorem dX2_journalPart_29 : decode cX2_journalPart 29 = .ok (.iadd, 1) := by decide +kernel
theorem dX2_journalPart_30 : decode cX2_journalPart 30 = .ok (.bipush 15, 2) := by decide +kernel
theorem dX2_journalPart_32 : decode cX2_journalPart 32 = .ok (.iand, 1) := by decide +kernel
theorem dX2_journalPart_33 : decode cX2_journalPart 33 = .ok (.istore_n 3, 1) := by decide +kernel
theorem dX2_journalPart_34 : decode cX2_journalPart 34 = .ok (.iload_n 2, 1) := by decide +kernel
theorem dX2_journalPart_35 : decode cX2_journalPart 35 = .ok (.tableswitch 46 0 2 #[25, 32, 39], 25) := by decide +kernel
theorem dX2_journalPart_60 : decode cX2_journalPart 60 = .ok (.aload_n 0, 1) := by decide +kernel
theorem dX2_journalPart_61 : decode cX2_journalPart 61 = .ok (.getfield 18, 3) := by decide +kernel
theorem dX2_journalPart_64 : decode cX2_journalPart 64 = .ok (.iload_n 3, 1) := by decide +kernel
theorem dX2_journalPart_65 : decode cX2_journalPart 65 = .ok (.iaload, 1) := by decide +kernel
theorem dX2_journalPart_66 : decode cX2_journalPart 66 = .ok (.ireturn, 1) := by decide +kernel
theorem dX2_journalPart_67 : decode cX2_journalPart 67 = .ok (.aload_n 0, 1) := by decide +kernel
theorem dX2_journalPart_68 : decode cX2_journalPart 68 = .ok (.getfield 21, 3) := by decide +kernel
theorem dX2_journalPart_71 : decode cX2_journalPart 71 = .ok (.iload_n 3, 1) := by decide +kernel
theorem dX2_journalPart_72 : decode cX2_journalPart 72 = .ok (.iaload, 1) := by decide +kernel
theorem dX2_journalPart_73 : decode cX2_journalPart 73 = .ok (.ireturn, 1) := by decide +kernel
theorem dX2_journalPart_74 : decode cX2_journalPart 74 = .ok (.aload_n 0, 1) := by decide +kernel
theorem dX2_journalPart_75 : decode cX2_journalPart 75 = .ok (.getfield 24, 3) := by decide +kernel
theorem dX2_journalPart_78 : decode cX2_journalPart 78 = .ok (.iload_n 3, 1) := by decide +kernel
theorem dX2_journalPart_79 : decode cX2_journalPart 79 = .ok (.iaload, 1) := by decide +kernel
theorem dX2_journalPart_80 : decode cX2_journalPart 80 = .ok (.ireturn, 1) := by decide +kernel
theorem dX2_journalPart_81 : decode cX2_journalPart 81 = .ok (.iconst 0, 1) := by decide +kernel
theorem dX2_journalPart_82 : decode cX2_journalPart 82 = .ok (.ireturn, 1) := by decide +kernel
theorem dX3_init_0 : decode cX3_init 0 = .ok (.aload_n 0, 1) := by decide +kernel
theorem dX3_init_1 : decode cX3_init 1 = .ok (.invokespecial 3, 3) := by decide +kernel
theorem dX3_init_4 : decode cX3_init 4 = .ok (.aload_n 0, 1) := by decide +kernel
theorem dX3_init_5 : decode cX3_init 5 = .ok (.bipush 8, 2) := by decide +kernel
theorem dX3_init_7 : decode cX3_init 7 = .ok (.newarray .int, 2) := by decide +kernel
theorem dX3_init_9 : decode cX3_init 9 = .ok (.putfield 9, 3) := by decide +kernel
theorem dX3_init_12 : decode cX3_init 12 = .ok (.aload_n 0, 1) := by decide +kernel
theorem dX3_init_13 : decode cX3_init 13 = .ok (.new 15, 3) := by decide +kernel
theorem dX3_init_16 : decode cX3_init 16 = .ok (.dup, 1) := by decide +kernel
theorem dX3_init_17 : decode cX3_init 17 = .ok (.invokespecial 17, 3) := by decide +kernel
theorem dX3_init_20 : decode cX3_init 20 = .ok (.putfield 18, 3) := by decide +kernel
theorem dX3_init_23 : decode cX3_init 23 = .ok (.aload_n 0, 1) := by decide +kernel
theorem dX3_init_24 : decode cX3_init 24 = .ok (.new 15, 3) := by decide +kernel
theorem dX3_init_27 : decode cX3_init 27 = .ok (.dup, 1) := by decide +kernel
theorem dX3_init_28 : decode cX3_init 28 = .ok (.invokespecial 17, 3) := by decide +kernel
theorem dX3_init_31 : decode cX3_init 31 = .ok (.putfield 22, 3) := by decide +kernel
theorem dX3_init_34 : decode cX3_init 34 = .ok (.aload_n 0, 1) := by decide +kernel
theorem dX3_init_35 : decode cX3_init 35 = .ok (.new 15, 3) := by decide +kernel
theorem dX3_init_38 : decode cX3_init 38 = .ok (.dup, 1) := by decide +kernel
theorem dX3_init_39 : decode cX3_init 39 = .ok (.invokespecial 17, 3) := by decide +kernel
theorem dX3_init_42 : decode cX3_init 42 = .ok (.putfield 25, 3) := by decide +kernel
theorem dX3_init_45 : decode cX3_init 45 = .ok (.aload_n 0, 1) := by decide +kernel
theorem dX3_init_46 : decode cX3_init 46 = .ok (.new 28, 3) := by decide +kernel
theorem dX3_init_49 : decode cX3_init 49 = .ok (.dup, 1) := by decide +kernel
theorem dX3_init_50 : decode cX3_init 50 = .ok (.invokespecial 30, 3) := by decide +kernel
theorem dX3_init_53 : decode cX3_init 53 = .ok (.putfield 31, 3) := by decide +kernel
theorem dX3_init_56 : decode cX3_init 56 = .ok (.aload_n 0, 1) := by decide +kernel
theorem dX3_init_57 : decode cX3_init 57 = .ok (.new 35, 3) := by decide +kernel
theorem dX3_init_60 : decode cX3_init 60 = .ok (.dup, 1) := by decide +kernel
theorem dX3_init_61 : decode cX3_init 61 = .ok (.invokespecial 37, 3) := by decide +kernel
theorem dX3_init_64 : decode cX3_init 64 = .ok (.putfield 38, 3) := by decide +kernel
theorem dX3_init_67 : decode cX3_init 67 = .ok (.aload_n 0, 1) := by decide +kernel
theorem dX3_init_68 : decode cX3_init 68 = .ok (.new 42, 3) := by decide +kernel
theorem dX3_init_71 : decode cX3_init 71 = .ok (.dup, 1) := by decide +kernel
theorem dX3_init_72 : decode cX3_init 72 = .ok (.invokespecial 44, 3) := by decide +kernel
theorem dX3_init_75 : decode cX3_init 75 = .ok (.putfield 45, 3) := by decide +kernel
theorem dX3_init_78 : decode cX3_init 78 = .ok (.aload_n 0, 1) := by decide +kernel
theorem dX3_init_79 : decode cX3_init 79 = .ok (.aload_n 1, 1) := by decide +kernel
theorem dX3_init_80 : decode cX3_init 80 = .ok (.invokevirtual 49, 3) := by decide +kernel
theorem dX3_init_83 : decode cX3_init 83 = .ok (.return_, 1) := by decide +kernel
theorem dX3_begin_0 : decode cX3_begin 0 = .ok (.aload_n 0, 1) := by decide +kernel
theorem dX3_begin_1 : decode cX3_begin 1 = .ok (.aload_n 1, 1) := by decide +kernel
theorem dX3_begin_2 : decode cX3_begin 2 = .ok (.putfield 53, 3) := by decide +kernel
theorem dX3_begin_5 : decode cX3_begin 5 = .ok (.aload_n 1, 1) := by decide +kernel
theorem dX3_begin_6 : decode cX3_begin 6 = .ok (.getfield 57, 3) := by decide +kernel
theorem dX3_begin_9 : decode cX3_begin 9 = .ok (.iconst 0, 1) := by decide +kernel
theorem dX3_begin_10 : decode cX3_begin 10 = .ok (.aload_n 0, 1) := by decide +kernel
theorem dX3_begin_11 : decode cX3_begin 11 = .ok (.getfield 9, 3) := by decide +kernel
theorem dX3_begin_14 : decode cX3_begin 14 = .ok (.iconst 0, 1) := by decide +kernel
theorem dX3_begin_15 : decode cX3_begin 15 = .ok (.bipush 8, 2) := by decide +kernel
theorem dX3_begin_17 : decode cX3_begin 17 = .ok (.invokestatic 60, 3) := by decide +kernel
theorem dX3_begin_20 : decode cX3_begin 20 = .ok (.aload_n 0, 1) := by decide +kernel
theorem dX3_begin_21 : decode cX3_begin 21 = .ok (.getfield 18, 3) := by decide +kernel
theorem dX3_begin_24 : decode cX3_begin 24 = .ok (.invokevirtual 66, 3) := by decide +kernel
theorem dX3_begin_27 : decode cX3_begin 27 = .ok (.aload_n 0, 1) := by decide +kernel
theorem dX3_begin_28 : decode cX3_begin 28 = .ok (.getfield 22, 3) := by decide +kernel
theorem dX3_begin_31 : decode cX3_begin 31 = .ok (.invokevirtual 66, 3) := by decide +kernel
theorem dX3_begin_34 : decode cX3_begin 34 = .ok (.aload_n 0, 1) := by decide +kernel
theorem dX3_begin_35 : decode cX3_begin 35 = .ok (.getfield 25, 3) := by decide +kernel
theorem dX3_begin_38 : decode cX3_begin 38 = .ok (.invokevirtual 66, 3) := by decide +kernel
theorem dX3_begin_41 : decode cX3_begin 41 = .ok (.aload_n 0, 1) := by decide +kernel
theorem dX3_begin_42 : decode cX3_begin 42 = .ok (.getfield 31, 3) := by decide +kernel
theorem dX3_begin_45 : decode cX3_begin 45 = .ok (.invokevirtual 69, 3) := by decide +kernel
theorem dX3_begin_48 : decode cX3_begin 48 = .ok (.aload_n 0, 1) := by decide +kernel
theorem dX3_begin_49 : decode cX3_begin 49 = .ok (.getfield 38, 3) := by decide +kernel
theorem dX3_begin_52 : decode cX3_begin 52 = .ok (.aload_n 1, 1) := by decide +kernel
theorem dX3_begin_53 : decode cX3_begin 53 = .ok (.getfield 70, 3) := by decide +kernel
theorem dX3_begin_56 : decode cX3_begin 56 = .ok (.invokevirtual 73, 3) := by decide +kernel
theorem dX3_begin_59 : decode cX3_begin 59 = .ok (.aload_n 0, 1) := by decide +kernel
theorem dX3_begin_60 : decode cX3_begin 60 = .ok (.getfield 45, 3) := by decide +kernel
theorem dX3_begin_63 : decode cX3_begin 63 = .ok (.invokevirtual 76, 3) := by decide +kernel
theorem dX3_begin_66 : decode cX3_begin 66 = .ok (.aload_n 0, 1) := by decide +kernel
theorem dX3_begin_67 : decode cX3_begin 67 = .ok (.iconst 0, 1) := by decide +kernel
theorem dX3_begin_68 : decode cX3_begin 68 = .ok (.putfield 77, 3) := by decide +kernel
theorem dX3_begin_71 : decode cX3_begin 71 = .ok (.aload_n 0, 1) := by decide +kernel
theorem dX3_begin_72 : decode cX3_begin 72 = .ok (.iconst 0, 1) := by decide +kernel
theorem dX3_begin_73 : decode cX3_begin 73 = .ok (.putfield 81, 3) := by decide +kernel
theorem dX3_begin_76 : decode cX3_begin 76 = .ok (.return_, 1) := by decide +kernel
theorem dX3_copyFrom_0 : decode cX3_copyFrom 0 = .ok (.aload_n 0, 1) := by decide +kernel
theorem dX3_copyFrom_1 : decode cX3_copyFrom 1 = .ok (.aload_n 1, 1) := by decide +kernel
theorem dX3_copyFrom_2 : decode cX3_copyFrom 2 = .ok (.getfield 53, 3) := by decide +kernel
theorem dX3_copyFrom_5 : decode cX3_copyFrom 5 = .ok (.putfield 53, 3) := by decide +kernel
theorem dX3_copyFrom_8 : decode cX3_copyFrom 8 = .ok (.aload_n 1, 1) := by decide +kernel
theorem dX3_copyFrom_9 : decode cX3_copyFrom 9 = .ok (.getfield 9, 3) := by decide +kernel
theorem dX3_copyFrom_12 : decode cX3_copyFrom 12 = .ok (.iconst 0, 1) := by decide +kernel
theorem dX3_copyFrom_13 : decode cX3_copyFrom 13 = .ok (.aload_n 0, 1) := by decide +kernel
theorem dX3_copyFrom_14 : decode cX3_copyFrom 14 = .ok (.getfield 9, 3) := by decide +kernel
theorem dX3_copyFrom_17 : decode cX3_copyFrom 17 = .ok (.iconst 0, 1) := by decide +kernel
theorem dX3_copyFrom_18 : decode cX3_copyFrom 18 = .ok (.bipush 8, 2) := by decide +kernel
theorem dX3_copyFrom_20 : decode cX3_copyFrom 20 = .ok (.invokestatic 60, 3) := by decide +kernel
theorem dX3_copyFrom_23 : decode cX3_copyFrom 23 = .ok (.aload_n 0, 1) := by decide +kernel
theorem dX3_copyFrom_24 : decode cX3_copyFrom 24 = .ok (.getfield 18, 3) := by decide +kernel
theorem dX3_copyFrom_27 : decode cX3_copyFrom 27 = .ok (.aload_n 1, 1) := by decide +kernel
theorem dX3_copyFrom_28 : decode cX3_copyFrom 28 = .ok (.getfield 18, 3) := by decide +kernel
theorem dX3_copyFrom_31 : decode cX3_copyFrom 31 = .ok (.invokevirtual 84, 3) := by decide +kernel
theorem dX3_copyFrom_34 : decode cX3_copyFrom 34 = .ok (.aload_n 0, 1) := by decide +kernel
theorem dX3_copyFrom_35 : decode cX3_copyFrom 35 = .ok (.getfield 22, 3) := by decide +kernel
theorem dX3_copyFrom_38 : decode cX3_copyFrom 38 = .ok (.aload_n 1, 1) := by decide +kernel
theorem dX3_copyFrom_39 : decode cX3_copyFrom 39 = .ok (.getfield 22, 3) := by decide +kernel
theorem dX3_copyFrom_42 : decode cX3_copyFrom 42 = .ok (.invokevirtual 84, 3) := by decide +kernel
theorem dX3_copyFrom_45 : decode cX3_copyFrom 45 = .ok (.aload_n 0, 1) := by decide +kernel
theorem dX3_copyFrom_46 : decode cX3_copyFrom 46 = .ok (.getfield 25, 3) := by decide +kernel
theorem dX3_copyFrom_49 : decode cX3_copyFrom 49 = .ok (.aload_n 1, 1) := by decide +kernel
theorem dX3_copyFrom_50 : decode cX3_copyFrom 50 = .ok (.getfield 25, 3) := by decide +kernel
theorem dX3_copyFrom_53 : decode cX3_copyFrom 53 = .ok (.invokevirtual 84, 3) := by decide +kernel
theorem dX3_copyFrom_56 : decode cX3_copyFrom 56 = .ok (.aload_n 0, 1) := by decide +kernel
theorem dX3_copyFrom_57 : decode cX3_copyFrom 57 = .ok (.getfield 31, 3) := by decide +kernel
theorem dX3_copyFrom_60 : decode cX3_copyFrom 60 = .ok (.aload_n 1, 1) := by decide +kernel
theorem dX3_copyFrom_61 : decode cX3_copyFrom 61 = .ok (.getfield 31, 3) := by decide +kernel
theorem dX3_copyFrom_64 : decode cX3_copyFrom 64 = .ok (.invokevirtual 88, 3) := by decide +kernel
theorem dX3_copyFrom_67 : decode cX3_copyFrom 67 = .ok (.aload_n 0, 1) := by decide +kernel
theorem dX3_copyFrom_68 : decode cX3_copyFrom 68 = .ok (.getfield 38, 3) := by decide +kernel
theorem dX3_copyFrom_71 : decode cX3_copyFrom 71 = .ok (.aload_n 1, 1) := by decide +kernel
theorem dX3_copyFrom_72 : decode cX3_copyFrom 72 = .ok (.getfield 38, 3) := by decide +kernel
theorem dX3_copyFrom_75 : decode cX3_copyFrom 75 = .ok (.invokevirtual 91, 3) := by decide +kernel
theorem dX3_copyFrom_78 : decode cX3_copyFrom 78 = .ok (.aload_n 0, 1) := by decide +kernel
theorem dX3_copyFrom_79 : decode cX3_copyFrom 79 = .ok (.getfield 45, 3) := by decide +kernel
theorem dX3_copyFrom_82 : decode cX3_copyFrom 82 = .ok (.aload_n 1, 1) := by decide +kernel
theorem dX3_copyFrom_83 : decode cX3_copyFrom 83 = .ok (.getfield 45, 3) := by decide +kernel
theorem dX3_copyFrom_86 : decode cX3_copyFrom 86 = .ok (.invokevirtual 94, 3) := by decide +kernel
theorem dX3_copyFrom_89 : decode cX3_copyFrom 89 = .ok (.aload_n 0, 1) := by decide +kernel
theorem dX3_copyFrom_90 : decode cX3_copyFrom 90 = .ok (.aload_n 1, 1) := by decide +kernel
theorem dX3_copyFrom_91 : decode cX3_copyFrom 91 = .ok (.getfield 77, 3) := by decide +kernel
theorem dX3_copyFrom_94 : decode cX3_copyFrom 94 = .ok (.putfield 77, 3) := by decide +kernel
theorem dX3_copyFrom_97 : decode cX3_copyFrom 97 = .ok (.aload_n 0, 1) := by decide +kernel
theorem dX3_copyFrom_98 : decode cX3_copyFrom 98 = .ok (.aload_n 1, 1) := by decide +kernel
theorem dX3_copyFrom_99 : decode cX3_copyFrom 99 = .ok (.getfield 81, 3) := by decide +kernel
theorem dX3_copyFrom_102 : decode cX3_copyFrom 102 = .ok (.putfield 81, 3) := by decide +kernel
theorem dX3_copyFrom_105 : decode cX3_copyFrom 105 = .ok (.return_, 1) := by decide +kernel
theorem dX3_strand_0 : decode cX3_strand 0 = .ok (.iload_n 1, 1) := by decide +kernel
theorem dX3_strand_1 : decode cX3_strand 1 = .ok (.ifCond .ne 10, 3) := by decide +kernel
theorem dX3_strand_4 : decode cX3_strand 4 = .ok (.aload_n 0, 1) := by decide +kernel
theorem dX3_strand_5 : decode cX3_strand 5 = .ok (.getfield 18, 3) := by decide +kernel
theorem dX3_strand_8 : decode cX3_strand 8 = .ok (.goto 7, 3) := by decide +kernel
theorem dX3_strand_11 : decode cX3_strand 11 = .ok (.aload_n 0, 1) := by decide +kernel
theorem dX3_strand_12 : decode cX3_strand 12 = .ok (.getfield 22, 3) := by decide +kernel
theorem dX3_strand_15 : decode cX3_strand 15 = .ok (.areturn, 1) := by decide +kernel
theorem dX3_ahead_0 : decode cX3_ahead 0 = .ok (.aload_n 0, 1) := by decide +kernel
theorem dX3_ahead_1 : decode cX3_ahead 1 = .ok (.getfield 18, 3) := by decide +kernel
theorem dX3_ahead_4 : decode cX3_ahead 4 = .ok (.getfield 97, 3) := by decide +kernel
theorem dX3_ahead_7 : decode cX3_ahead 7 = .ok (.aload_n 0, 1) := by decide +kernel
theorem dX3_ahead_8 : decode cX3_ahead 8 = .ok (.getfield 22, 3) := by decide +kernel
theorem dX3_ahead_11 : decode cX3_ahead 11 = .ok (.getfield 97, 3) := by decide +kernel
theorem dX3_ahead_14 : decode cX3_ahead 14 = .ok (.isub, 1) := by decide +kernel
theorem dX3_ahead_15 : decode cX3_ahead 15 = .ok (.ireturn, 1) := by decide +kernel
theorem dX3_stuckBits_0 : decode cX3_stuckBits 0 = .ok (.aload_n 0, 1) := by decide +kernel
theorem dX3_stuckBits_1 : decode cX3_stuckBits 1 = .ok (.getfield 18, 3) := by decide +kernel
theorem dX3_stuckBits_4 : decode cX3_stuckBits 4 = .ok (.invokevirtual 101, 3) := by decide +kernel
theorem dX3_stuckBits_7 : decode cX3_stuckBits 7 = .ok (.aload_n 0, 1) := by decide +kernel
theorem dX3_stuckBits_8 : decode cX3_stuckBits 8 = .ok (.getfield 22, 3) := by decide +kernel
theorem dX3_stuckBits_11 : decode cX3_stuckBits 11 = .ok (.invokevirtual 101, 3) := by decide +kernel
theorem dX3_stuckBits_14 : decode cX3_stuckBits 14 = .ok (.iadd, 1) := by decide +kernel
theorem dX3_stuckBits_15 : decode cX3_stuckBits 15 = .ok (.ireturn, 1) := by decide +kernel
theorem dX3_flipBit_0 : decode cX3_flipBit 0 = .ok (.iload_n 2, 1) := by decide +kernel
theorem dX3_flipBit_1 : decode cX3_flipBit 1 = .ok (.ifCond .lt 13, 3) := by decide +kernel
theorem dX3_flipBit_4 : decode cX3_flipBit 4 = .ok (.iload_n 3, 1) := by decide +kernel
theorem dX3_flipBit_5 : decode cX3_flipBit 5 = .ok (.ifCond .lt 9, 3) := by decide +kernel
theorem dX3_flipBit_8 : decode cX3_flipBit 8 = .ok (.iload_n 3, 1) := by decide +kernel
theorem dX3_flipBit_9 : decode cX3_flipBit 9 = .ok (.bipush 31, 2) := by decide +kernel
theorem dX3_flipBit_11 : decode cX3_flipBit 11 = .ok (.if_icmp .le 5, 3) := by decide +kernel
theorem dX3_flipBit_14 : decode cX3_flipBit 14 = .ok (.iconst 0, 1) := by decide +kernel
theorem dX3_flipBit_15 : decode cX3_flipBit 15 = .ok (.ireturn, 1) := by decide +kernel
theorem dX3_flipBit_16 : decode cX3_flipBit 16 = .ok (.iload_n 1, 1) := by decide +kernel
theorem dX3_flipBit_17 : decode cX3_flipBit 17 = .ok (.tableswitch 76 0 5 #[39, 39, 50, 50, 63, 63], 39) := by decide +kernel
theorem dX3_flipBit_56 : decode cX3_flipBit 56 = .ok (.aload_n 0, 1) := by decide +kernel
theorem dX3_flipBit_57 : decode cX3_flipBit 57 = .ok (.iload_n 1, 1) := by decide +kernel
theorem dX3_flipBit_58 : decode cX3_flipBit 58 = .ok (.invokevirtual 105, 3) := by decide +kernel
theorem dX3_flipBit_61 : decode cX3_flipBit 61 = .ok (.iload_n 2, 1) := by decide +kernel
theorem dX3_flipBit_62 : decode cX3_flipBit 62 = .ok (.iload_n 3, 1) := by decide +kernel
theorem dX3_flipBit_63 : decode cX3_flipBit 63 = .ok (.invokevirtual 109, 3) := by decide +kernel
theorem dX3_flipBit_66 : decode cX3_flipBit 66 = .ok (.ireturn, 1) := by decide +kernel
theorem dX3_flipBit_67 : decode cX3_flipBit 67 = .ok (.aload_n 0, 1) := by decide +kernel
theorem dX3_flipBit_68 : decode cX3_flipBit 68 = .ok (.iload_n 1, 1) := by decide +kernel
theorem dX3_flipBit_69 : decode cX3_flipBit 69 = .ok (.iconst 2, 1) := by decide +kernel
theorem dX3_flipBit_70 : decode cX3_flipBit 70 = .ok (.isub, 1) := by decide +kernel
theorem dX3_flipBit_71 : decode cX3_flipBit 71 = .ok (.invokevirtual 105, 3) := by decide +kernel
theorem dX3_flipBit_74 : decode cX3_flipBit 74 = .ok (.iload_n 2, 1) := by decide +kernel
theorem dX3_flipBit_75 : decode cX3_flipBit 75 = .ok (.iload_n 3, 1) := by decide +kernel
theorem dX3_flipBit_76 : decode cX3_flipBit 76 = .ok (.invokevirtual 113, 3) := by decide +kernel
theorem dX3_flipBit_79 : decode cX3_flipBit 79 = .ok (.ireturn, 1) := by decide +kernel
theorem dX3_flipBit_80 : decode cX3_flipBit 80 = .ok (.aload_n 0, 1) := by decide +kernel
theorem dX3_flipBit_81 : decode cX3_flipBit 81 = .ok (.iload_n 1, 1) := by decide +kernel
theorem dX3_flipBit_82 : decode cX3_flipBit 82 = .ok (.iconst 4, 1) := by decide +kernel
theorem dX3_flipBit_83 : decode cX3_flipBit 83 = .ok (.isub, 1) := by decide +kernel
theorem dX3_flipBit_84 : decode cX3_flipBit 84 = .ok (.invokevirtual 105, 3) := by decide +kernel
theorem dX3_flipBit_87 : decode cX3_flipBit 87 = .ok (.iload_n 2, 1) := by decide +kernel
theorem dX3_flipBit_88 : decode cX3_flipBit 88 = .ok (.iload_n 3, 1) := by decide +kernel
theorem dX3_flipBit_89 : decode cX3_flipBit 89 = .ok (.invokevirtual 116, 3) := by decide +kernel
theorem dX3_flipBit_92 : decode cX3_flipBit 92 = .ok (.ireturn, 1) := by decide +kernel
theorem dX3_flipBit_93 : decode cX3_flipBit 93 = .ok (.aload_n 0, 1) := by decide +kernel
theorem dX3_flipBit_94 : decode cX3_flipBit 94 = .ok (.getfield 31, 3) := by decide +kernel
theorem dX3_flipBit_97 : decode cX3_flipBit 97 = .ok (.iload_n 1, 1) := by decide +kernel
theorem dX3_flipBit_98 : decode cX3_flipBit 98 = .ok (.iload_n 2, 1) := by decide +kernel
theorem dX3_flipBit_99 : decode cX3_flipBit 99 = .ok (.iload_n 3, 1) := by decide +kernel
theorem dX3_flipBit_100 : decode cX3_flipBit 100 = .ok (.invokevirtual 119, 3) := by decide +kernel
theorem dX3_flipBit_103 : decode cX3_flipBit 103 = .ok (.ireturn, 1) := by decide +kernel
theorem dX3_whyLeaderWaits_0 : decode cX3_whyLeaderWaits 0 = .ok (.aload_n 0, 1) := by decide +kernel
theorem dX3_whyLeaderWaits_1 : decode cX3_whyLeaderWaits 1 = .ok (.getfield 18, 3) := by decide +kernel
theorem dX3_whyLeaderWaits_4 : decode cX3_whyLeaderWaits 4 = .ok (.getfield 97, 3) := by decide +kernel
theorem dX3_whyLeaderWaits_7 : decode cX3_whyLeaderWaits 7 = .ok (.aload_n 0, 1) := by decide +kernel
theorem dX3_whyLeaderWaits_8 : decode cX3_whyLeaderWaits 8 = .ok (.getfield 9, 3) := by decide +kernel
theorem dX3_whyLeaderWaits_11 : decode cX3_whyLeaderWaits 11 = .ok (.iconst 0, 1) := by decide +kernel
theorem dX3_whyLeaderWaits_12 : decode cX3_whyLeaderWaits 12 = .ok (.iaload, 1) := by decide +kernel
theorem dX3_whyLeaderWaits_13 : decode cX3_whyLeaderWaits 13 = .ok (.if_icmp .lt 5, 3) := by decide +kernel
theorem dX3_whyLeaderWaits_16 : decode cX3_whyLeaderWaits 16 = .ok (.iconst 1, 1) := by decide +kernel
theorem dX3_whyLeaderWaits_17 : decode cX3_whyLeaderWaits 17 = .ok (.ireturn, 1) := by decide +kernel
theorem dX3_whyLeaderWaits_18 : decode cX3_whyLeaderWaits 18 = .ok (.aload_n 0, 1) := by decide +kernel
theorem dX3_whyLeaderWaits_19 : decode cX3_whyLeaderWaits 19 = .ok (.getfield 53, 3) := by decide +kernel
theorem dX3_whyLeaderWaits_22 : decode cX3_whyLeaderWaits 22 = .ok (.getfield 123, 3) := by decide +kernel
theorem dX3_whyLeaderWaits_25 : decode cX3_whyLeaderWaits 25 = .ok (.aload_n 0, 1) := by decide +kernel
theorem dX3_whyLeaderWaits_26 : decode cX3_whyLeaderWaits 26 = .ok (.getfield 18, 3) := by decide +kernel
theorem dX3_whyLeaderWaits_29 : decode cX3_whyLeaderWaits 29 = .ok (.getfield 126, 3) := by decide +kernel
theorem dX3_whyLeaderWaits_32 : decode cX3_whyLeaderWaits 32 = .ok (.bipush 63, 2) := by decide +kernel
theorem dX3_whyLeaderWaits_34 : decode cX3_whyLeaderWaits 34 = .ok (.iand, 1) := by decide +kernel
theorem dX3_whyLeaderWaits_35 : decode cX3_whyLeaderWaits 35 = .ok (.iaload, 1) := by decide +kernel
theorem dX3_whyLeaderWaits_36 : decode cX3_whyLeaderWaits 36 = .ok (.istore_n 1, 1) := by decide +kernel
theorem dX3_whyLeaderWaits_37 : decode cX3_whyLeaderWaits 37 = .ok (.iload_n 1, 1) := by decide +kernel
theorem dX3_whyLeaderWaits_38 : decode cX3_whyLeaderWaits 38 = .ok (.ifCond .ne 5, 3) := by decide +kernel
theorem dX3_whyLeaderWaits_41 : decode cX3_whyLeaderWaits 41 = .ok (.iconst 2, 1) := by decide +kernel
theorem dX3_whyLeaderWaits_42 : decode cX3_whyLeaderWaits 42 = .ok (.ireturn, 1) := by decide +kernel
theorem dX3_whyLeaderWaits_43 : decode cX3_whyLeaderWaits 43 = .ok (.aload_n 0, 1) := by decide +kernel
theorem dX3_whyLeaderWaits_44 : decode cX3_whyLeaderWaits 44 = .ok (.invokevirtual 129, 3) := by decide +kernel
theorem dX3_whyLeaderWaits_47 : decode cX3_whyLeaderWaits 47 = .ok (.aload_n 0, 1) := by decide +kernel
theorem dX3_whyLeaderWaits_48 : decode cX3_whyLeaderWaits 48 = .ok (.getfield 9, 3) := by decide +kernel
theorem dX3_whyLeaderWaits_51 : decode cX3_whyLeaderWaits 51 = .ok (.iconst 2, 1) := by decide +kernel
theorem dX3_whyLeaderWaits_52 : decode cX3_whyLeaderWaits 52 = .ok (.iaload, 1) := by decide +kernel
theorem dX3_whyLeaderWaits_53 : decode cX3_whyLeaderWaits 53 = .ok (.if_icmp .lt 5, 3) := by decide +kernel
theorem dX3_whyLeaderWaits_56 : decode cX3_whyLeaderWaits 56 = .ok (.iconst 3, 1) := by decide +kernel
theorem dX3_whyLeaderWaits_57 : decode cX3_whyLeaderWaits 57 = .ok (.ireturn, 1) := by decide +kernel
theorem dX3_whyLeaderWaits_58 : decode cX3_whyLeaderWaits 58 = .ok (.iload_n 1, 1) := by decide +kernel
theorem dX3_whyLeaderWaits_59 : decode cX3_whyLeaderWaits 59 = .ok (.bipush 6, 2) := by decide +kernel
theorem dX3_whyLeaderWaits_61 : decode cX3_whyLeaderWaits 61 = .ok (.if_icmp .ne 19, 3) := by decide +kernel
theorem dX3_whyLeaderWaits_64 : decode cX3_whyLeaderWaits 64 = .ok (.aload_n 0, 1) := by decide +kernel
theorem dX3_whyLeaderWaits_65 : decode cX3_whyLeaderWaits 65 = .ok (.getfield 31, 3) := by decide +kernel
theorem dX3_whyLeaderWaits_68 : decode cX3_whyLeaderWaits 68 = .ok (.getfield 132, 3) := by decide +kernel
theorem dX3_whyLeaderWaits_71 : decode cX3_whyLeaderWaits 71 = .ok (.aload_n 0, 1) := by decide +kernel
theorem dX3_whyLeaderWaits_72 : decode cX3_whyLeaderWaits 72 = .ok (.getfield 9, 3) := by decide +kernel
theorem dX3_whyLeaderWaits_75 : decode cX3_whyLeaderWaits 75 = .ok (.iconst 3, 1) := by decide +kernel
theorem dX3_whyLeaderWaits_76 : decode cX3_whyLeaderWaits 76 = .ok (.iaload, 1) := by decide +kernel
theorem dX3_whyLeaderWaits_77 : decode cX3_whyLeaderWaits 77 = .ok (.if_icmp .ge 53, 3) := by decide +kernel
theorem dX3_whyLeaderWaits_80 : decode cX3_whyLeaderWaits 80 = .ok (.iload_n 1, 1) := by decide +kernel
theorem dX3_whyLeaderWaits_81 : decode cX3_whyLeaderWaits 81 = .ok (.bipush 15, 2) := by decide +kernel
theorem dX3_whyLeaderWaits_83 : decode cX3_whyLeaderWaits 83 = .ok (.if_icmp .lt 19, 3) := by decide +kernel
theorem dX3_whyLeaderWaits_86 : decode cX3_whyLeaderWaits 86 = .ok (.aload_n 0, 1) := by decide +kernel
theorem dX3_whyLeaderWaits_87 : decode cX3_whyLeaderWaits 87 = .ok (.getfield 31, 3) := by decide +kernel
theorem dX3_whyLeaderWaits_90 : decode cX3_whyLeaderWaits 90 = .ok (.getfield 135, 3) := by decide +kernel
theorem dX3_whyLeaderWaits_93 : decode cX3_whyLeaderWaits 93 = .ok (.aload_n 0, 1) := by decide +kernel
theorem dX3_whyLeaderWaits_94 : decode cX3_whyLeaderWaits 94 = .ok (.getfield 9, 3) := by decide +kernel
theorem dX3_whyLeaderWaits_97 : decode cX3_whyLeaderWaits 97 = .ok (.iconst 4, 1) := by decide +kernel
theorem dX3_whyLeaderWaits_98 : decode cX3_whyLeaderWaits 98 = .ok (.iaload, 1) := by decide +kernel
theorem dX3_whyLeaderWaits_99 : decode cX3_whyLeaderWaits 99 = .ok (.if_icmp .ge 31, 3) := by decide +kernel
theorem dX3_whyLeaderWaits_102 : decode cX3_whyLeaderWaits 102 = .ok (.iload_n 1, 1) := by decide +kernel
theorem dX3_whyLeaderWaits_103 : decode cX3_whyLeaderWaits 103 = .ok (.bipush 7, 2) := by decide +kernel
theorem dX3_whyLeaderWaits_105 : decode cX3_whyLeaderWaits 105 = .ok (.if_icmp .eq 9, 3) := by decide +kernel
theorem dX3_whyLeaderWaits_108 : decode cX3_whyLeaderWaits 108 = .ok (.iload_n 1, 1) := by decide +kernel
theorem dX3_whyLeaderWaits_109 : decode cX3_whyLeaderWaits 109 = .ok (.bipush 8, 2) := by decide +kernel
theorem dX3_whyLeaderWaits_111 : decode cX3_whyLeaderWaits 111 = .ok (.if_icmp .ne 23, 3) := by decide +kernel
theorem dX3_whyLeaderWaits_114 : decode cX3_whyLeaderWaits 114 = .ok (.aload_n 0, 1) := by decide +kernel
theorem dX3_whyLeaderWaits_115 : decode cX3_whyLeaderWaits 115 = .ok (.getfield 31, 3) := by decide +kernel
theorem dX3_whyLeaderWaits_118 : decode cX3_whyLeaderWaits 118 = .ok (.getfield 138, 3) := by decide +kernel
theorem dX3_whyLeaderWaits_121 : decode cX3_whyLeaderWaits 121 = .ok (.aload_n 0, 1) := by decide +kernel
theorem dX3_whyLeaderWaits_122 : decode cX3_whyLeaderWaits 122 = .ok (.getfield 9, 3) := by decide +kernel
theorem dX3_whyLeaderWaits_125 : decode cX3_whyLeaderWaits 125 = .ok (.iconst 5, 1) := by decide +kernel
theorem dX3_whyLeaderWaits_126 : decode cX3_whyLeaderWaits 126 = .ok (.iaload, 1) := by decide +kernel
theorem dX3_whyLeaderWaits_127 : decode cX3_whyLeaderWaits 127 = .ok (.if_icmp .lt 7, 3) := by decide +kernel
theorem dX3_whyLeaderWaits_130 : decode cX3_whyLeaderWaits 130 = .ok (.iconst 1, 1) := by decide +kernel
theorem dX3_whyLeaderWaits_131 : decode cX3_whyLeaderWaits 131 = .ok (.goto 4, 3) := by decide +kernel
theorem dX3_whyLeaderWaits_134 : decode cX3_whyLeaderWaits 134 = .ok (.iconst 0, 1) := by decide +kernel
theorem dX3_whyLeaderWaits_135 : decode cX3_whyLeaderWaits 135 = .ok (.istore_n 2, 1) := by decide +kernel
theorem dX3_whyLeaderWaits_136 : decode cX3_whyLeaderWaits 136 = .ok (.iload_n 2, 1) := by decide +kernel
theorem dX3_whyLeaderWaits_137 : decode cX3_whyLeaderWaits 137 = .ok (.ifCond .eq 7, 3) := by decide +kernel
theorem dX3_whyLeaderWaits_140 : decode cX3_whyLeaderWaits 140 = .ok (.iconst 4, 1) := by decide +kernel
theorem dX3_whyLeaderWaits_141 : decode cX3_whyLeaderWaits 141 = .ok (.goto 4, 3) := by decide +kernel
theorem dX3_whyLeaderWaits_144 : decode cX3_whyLeaderWaits 144 = .ok (.iconst 0, 1) := by decide +kernel
theorem dX3_whyLeaderWaits_145 : decode cX3_whyLeaderWaits 145 = .ok (.ireturn, 1) := by decide +kernel
theorem dX3_whyTrailerWaits_0 : decode cX3_whyTrailerWaits 0 = .ok (.aload_n 0, 1) := by decide +kernel
theorem dX3_whyTrailerWaits_1 : decode cX3_whyTrailerWaits 1 = .ok (.getfield 22, 3) := by decide +kernel
theorem dX3_whyTrailerWaits_4 : decode cX3_whyTrailerWaits 4 = .ok (.getfield 97, 3) := by decide +kernel
theorem dX3_whyTrailerWaits_7 : decode cX3_whyTrailerWaits 7 = .ok (.aload_n 0, 1) := by decide +kernel
theorem dX3_whyTrailerWaits_8 : decode cX3_whyTrailerWaits 8 = .ok (.getfield 9, 3) := by decide +kernel
theorem dX3_whyTrailerWaits_11 : decode cX3_whyTrailerWaits 11 = .ok (.iconst 0, 1) := by decide +kernel
theorem dX3_whyTrailerWaits_12 : decode cX3_whyTrailerWaits 12 = .ok (.iaload, 1) := by decide +kernel
theorem dX3_whyTrailerWaits_13 : decode cX3_whyTrailerWaits 13 = .ok (.if_icmp .lt 5, 3) := by decide +kernel
theorem dX3_whyTrailerWaits_16 : decode cX3_whyTrailerWaits 16 = .ok (.iconst 1, 1) := by decide +kernel
theorem dX3_whyTrailerWaits_17 : decode cX3_whyTrailerWaits 17 = .ok (.ireturn, 1) := by decide +kernel
theorem dX3_whyTrailerWaits_18 : decode cX3_whyTrailerWaits 18 = .ok (.aload_n 0, 1) := by decide +kernel
theorem dX3_whyTrailerWaits_19 : decode cX3_whyTrailerWaits 19 = .ok (.getfield 53, 3) := by decide +kernel
theorem dX3_whyTrailerWaits_22 : decode cX3_whyTrailerWaits 22 = .ok (.getfield 123, 3) := by decide +kernel
theorem dX3_whyTrailerWaits_25 : decode cX3_whyTrailerWaits 25 = .ok (.aload_n 0, 1) := by decide +kernel
theorem dX3_whyTrailerWaits_26 : decode cX3_whyTrailerWaits 26 = .ok (.getfield 22, 3) := by decide +kernel
theorem dX3_whyTrailerWaits_29 : decode cX3_whyTrailerWaits 29 = .ok (.getfield 126, 3) := by decide +kernel
theorem dX3_whyTrailerWaits_32 : decode cX3_whyTrailerWaits 32 = .ok (.bipush 63, 2) := by decide +kernel
theorem dX3_whyTrailerWaits_34 : decode cX3_whyTrailerWaits 34 = .ok (.iand, 1) := by decide +kernel
theorem dX3_whyTrailerWaits_35 : decode cX3_whyTrailerWaits 35 = .ok (.iaload, 1) := by decide +kernel
theorem dX3_whyTrailerWaits_36 : decode cX3_whyTrailerWaits 36 = .ok (.istore_n 1, 1) := by decide +kernel
theorem dX3_whyTrailerWaits_37 : decode cX3_whyTrailerWaits 37 = .ok (.iload_n 1, 1) := by decide +kernel
theorem dX3_whyTrailerWaits_38 : decode cX3_whyTrailerWaits 38 = .ok (.ifCond .ne 5, 3) := by decide +kernel
theorem dX3_whyTrailerWaits_41 : decode cX3_whyTrailerWaits 41 = .ok (.iconst 2, 1) := by decide +kernel
theorem dX3_whyTrailerWaits_42 : decode cX3_whyTrailerWaits 42 = .ok (.ireturn, 1) := by decide +kernel
theorem dX3_whyTrailerWaits_43 : decode cX3_whyTrailerWaits 43 = .ok (.aload_n 0, 1) := by decide +kernel
theorem dX3_whyTrailerWaits_44 : decode cX3_whyTrailerWaits 44 = .ok (.invokevirtual 129, 3) := by decide +kernel
theorem dX3_whyTrailerWaits_47 : decode cX3_whyTrailerWaits 47 = .ok (.iconst 1, 1) := by decide +kernel
theorem dX3_whyTrailerWaits_48 : decode cX3_whyTrailerWaits 48 = .ok (.if_icmp .lt 23, 3) := by decide +kernel
theorem dX3_whyTrailerWaits_51 : decode cX3_whyTrailerWaits 51 = .ok (.aload_n 0, 1) := by decide +kernel
theorem dX3_whyTrailerWaits_52 : decode cX3_whyTrailerWaits 52 = .ok (.invokevirtual 129, 3) := by decide +kernel
theorem dX3_whyTrailerWaits_55 : decode cX3_whyTrailerWaits 55 = .ok (.aload_n 0, 1) := by decide +kernel
theorem dX3_whyTrailerWaits_56 : decode cX3_whyTrailerWaits 56 = .ok (.getfield 9, 3) := by decide +kernel
theorem dX3_whyTrailerWaits_59 : decode cX3_whyTrailerWaits 59 = .ok (.iconst 1, 1) := by decide +kernel
theorem dX3_whyTrailerWaits_60 : decode cX3_whyTrailerWaits 60 = .ok (.iaload, 1) := by decide +kernel
theorem dX3_whyTrailerWaits_61 : decode cX3_whyTrailerWaits 61 = .ok (.if_icmp .ge 12, 3) := by decide +kernel
theorem dX3_whyTrailerWaits_64 : decode cX3_whyTrailerWaits 64 = .ok (.aload_n 0, 1) := by decide +kernel
theorem dX3_whyTrailerWaits_65 : decode cX3_whyTrailerWaits 65 = .ok (.invokevirtual 141, 3) := by decide +kernel
theorem dX3_whyTrailerWaits_68 : decode cX3_whyTrailerWaits 68 = .ok (.ifCond .ne 5, 3) := by decide +kernel
theorem dX3_whyTrailerWaits_71 : decode cX3_whyTrailerWaits 71 = .ok (.iconst 3, 1) := by decide +kernel
theorem dX3_whyTrailerWaits_72 : decode cX3_whyTrailerWaits 72 = .ok (.ireturn, 1) := by decide +kernel
theorem dX3_whyTrailerWaits_73 : decode cX3_whyTrailerWaits 73 = .ok (.iload_n 1, 1) := by decide +kernel
theorem dX3_whyTrailerWaits_74 : decode cX3_whyTrailerWaits 74 = .ok (.bipush 6, 2) := by decide +kernel
theorem dX3_whyTrailerWaits_76 : decode cX3_whyTrailerWaits 76 = .ok (.if_icmp .ne 13, 3) := by decide +kernel
theorem dX3_whyTrailerWaits_79 : decode cX3_whyTrailerWaits 79 = .ok (.aload_n 0, 1) := by decide +kernel
theorem dX3_whyTrailerWaits_80 : decode cX3_whyTrailerWaits 80 = .ok (.getfield 31, 3) := by decide +kernel
theorem dX3_whyTrailerWaits_83 : decode cX3_whyTrailerWaits 83 = .ok (.getfield 132, 3) := by decide +kernel
theorem dX3_whyTrailerWaits_86 : decode cX3_whyTrailerWaits 86 = .ok (.ifCond .eq 48, 3) := by decide +kernel
theorem dX3_whyTrailerWaits_89 : decode cX3_whyTrailerWaits 89 = .ok (.iload_n 1, 1) := by decide +kernel
theorem dX3_whyTrailerWaits_90 : decode cX3_whyTrailerWaits 90 = .ok (.bipush 15, 2) := by decide +kernel
theorem dX3_whyTrailerWaits_92 : decode cX3_whyTrailerWaits 92 = .ok (.if_icmp .lt 13, 3) := by decide +kernel
theorem dX3_whyTrailerWaits_95 : decode cX3_whyTrailerWaits 95 = .ok (.aload_n 0, 1) := by decide +kernel
theorem dX3_whyTrailerWaits_96 : decode cX3_whyTrailerWaits 96 = .ok (.getfield 31, 3) := by decide +kernel
theorem dX3_whyTrailerWaits_99 : decode cX3_whyTrailerWaits 99 = .ok (.getfield 135, 3) := by decide +kernel
theorem dX3_whyTrailerWaits_102 : decode cX3_whyTrailerWaits 102 = .ok (.ifCond .eq 32, 3) := by decide +kernel
theorem dX3_whyTrailerWaits_105 : decode cX3_whyTrailerWaits 105 = .ok (.iload_n 1, 1) := by decide +kernel
theorem dX3_whyTrailerWaits_106 : decode cX3_whyTrailerWaits 106 = .ok (.bipush 7, 2) := by decide +kernel
theorem dX3_whyTrailerWaits_108 : decode cX3_whyTrailerWaits 108 = .ok (.if_icmp .eq 9, 3) := by decide +kernel
theorem dX3_whyTrailerWaits_111 : decode cX3_whyTrailerWaits 111 = .ok (.iload_n 1, 1) := by decide +kernel
theorem dX3_whyTrailerWaits_112 : decode cX3_whyTrailerWaits 112 = .ok (.bipush 8, 2) := by decide +kernel
theorem dX3_whyTrailerWaits_114 : decode cX3_whyTrailerWaits 114 = .ok (.if_icmp .ne 24, 3) := by decide +kernel
theorem dX3_whyTrailerWaits_117 : decode cX3_whyTrailerWaits 117 = .ok (.aload_n 0, 1) := by decide +kernel
theorem dX3_whyTrailerWaits_118 : decode cX3_whyTrailerWaits 118 = .ok (.getfield 31, 3) := by decide +kernel
theorem dX3_whyTrailerWaits_121 : decode cX3_whyTrailerWaits 121 = .ok (.getfield 144, 3) := by decide +kernel
theorem dX3_whyTrailerWaits_124 : decode cX3_whyTrailerWaits 124 = .ok (.aload_n 0, 1) := by decide +kernel
theorem dX3_whyTrailerWaits_125 : decode cX3_whyTrailerWaits 125 = .ok (.getfield 31, 3) := by decide +kernel
theorem dX3_whyTrailerWaits_128 : decode cX3_whyTrailerWaits 128 = .ok (.getfield 138, 3) := by decide +kernel
theorem dX3_whyTrailerWaits_131 : decode cX3_whyTrailerWaits 131 = .ok (.if_icmp .lt 7, 3) := by decide +kernel
theorem dX3_whyTrailerWaits_134 : decode cX3_whyTrailerWaits 134 = .ok (.iconst 1, 1) := by decide +kernel
theorem dX3_whyTrailerWaits_135 : decode cX3_whyTrailerWaits 135 = .ok (.goto 4, 3) := by decide +kernel
theorem dX3_whyTrailerWaits_138 : decode cX3_whyTrailerWaits 138 = .ok (.iconst 0, 1) := by decide +kernel
theorem dX3_whyTrailerWaits_139 : decode cX3_whyTrailerWaits 139 = .ok (.istore_n 2, 1) := by decide +kernel
theorem dX3_whyTrailerWaits_140 : decode cX3_whyTrailerWaits 140 = .ok (.iload_n 2, 1) := by decide +kernel
theorem dX3_whyTrailerWaits_141 : decode cX3_whyTrailerWaits 141 = .ok (.ifCond .eq 7, 3) := by decide +kernel
theorem dX3_whyTrailerWaits_144 : decode cX3_whyTrailerWaits 144 = .ok (.iconst 4, 1) := by decide +kernel
theorem dX3_whyTrailerWaits_145 : decode cX3_whyTrailerWaits 145 = .ok (.goto 4, 3) := by decide +kernel
theorem dX3_whyTrailerWaits_148 : decode cX3_whyTrailerWaits 148 = .ok (.iconst 0, 1) := by decide +kernel
theorem dX3_whyTrailerWaits_149 : decode cX3_whyTrailerWaits 149 = .ok (.ireturn, 1) := by decide +kernel
theorem dX3_upcoming_0 : decode cX3_upcoming 0 = .ok (.aload_n 0, 1) := by decide +kernel
theorem dX3_upcoming_1 : decode cX3_upcoming 1 = .ok (.getfield 77, 3) := by decide +kernel
theorem dX3_upcoming_4 : decode cX3_upcoming 4 = .ok (.ifCond .ne 10, 3) := by decide +kernel
theorem dX3_upcoming_7 : decode cX3_upcoming 7 = .ok (.aload_n 0, 1) := by decide +kernel
theorem dX3_upcoming_8 : decode cX3_upcoming 8 = .ok (.getfield 81, 3) := by decide +kernel
theorem dX3_upcoming_11 : decode cX3_upcoming 11 = .ok (.ifCond .eq 6, 3) := by decide +kernel
theorem dX3_upcoming_14 : decode cX3_upcoming 14 = .ok (.bipush (-2), 2) := by decide +kernel
theorem dX3_upcoming_16 : decode cX3_upcoming 16 = .ok (.ireturn, 1) := by decide +kernel
theorem dX3_upcoming_17 : decode cX3_upcoming 17 = .ok (.aload_n 0, 1) := by decide +kernel
theorem dX3_upcoming_18 : decode cX3_upcoming 18 = .ok (.invokevirtual 147, 3) := by decide +kernel
theorem dX3_upcoming_21 : decode cX3_upcoming 21 = .ok (.ifCond .ne 21, 3) := by decide +kernel
theorem dX3_upcoming_24 : decode cX3_upcoming 24 = .ok (.aload_n 0, 1) := by decide +kernel
theorem dX3_upcoming_25 : decode cX3_upcoming 25 = .ok (.invokevirtual 150, 3) := by decide +kernel
theorem dX3_upcoming_28 : decode cX3_upcoming 28 = .ok (.istore_n 1, 1) := by decide +kernel
theorem dX3_upcoming_29 : decode cX3_upcoming 29 = .ok (.iload_n 1, 1) := by decide +kernel
theorem dX3_upcoming_30 : decode cX3_upcoming 30 = .ok (.ifCond .ne 7, 3) := by decide +kernel
theorem dX3_upcoming_33 : decode cX3_upcoming 33 = .ok (.iconst 0, 1) := by decide +kernel
theorem dX3_upcoming_34 : decode cX3_upcoming 34 = .ok (.goto 7, 3) := by decide +kernel
theorem dX3_upcoming_37 : decode cX3_upcoming 37 = .ok (.bipush 10, 2) := by decide +kernel
theorem dX3_upcoming_39 : decode cX3_upcoming 39 = .ok (.iload_n 1, 1) := by decide +kernel
theorem dX3_upcoming_40 : decode cX3_upcoming 40 = .ok (.iadd, 1) := by decide +kernel
theorem dX3_upcoming_41 : decode cX3_upcoming 41 = .ok (.ireturn, 1) := by decide +kernel
theorem dX3_upcoming_42 : decode cX3_upcoming 42 = .ok (.aload_n 0, 1) := by decide +kernel
theorem dX3_upcoming_43 : decode cX3_upcoming 43 = .ok (.invokevirtual 141, 3) := by decide +kernel
theorem dX3_upcoming_46 : decode cX3_upcoming 46 = .ok (.ifCond .ne 5, 3) := by decide +kernel
theorem dX3_upcoming_49 : decode cX3_upcoming 49 = .ok (.iconst 1, 1) := by decide +kernel
theorem dX3_upcoming_50 : decode cX3_upcoming 50 = .ok (.ireturn, 1) := by decide +kernel
theorem dX3_upcoming_51 : decode cX3_upcoming 51 = .ok (.aload_n 0, 1) := by decide +kernel
theorem dX3_upcoming_52 : decode cX3_upcoming 52 = .ok (.invokevirtual 153, 3) := by decide +kernel
theorem dX3_upcoming_55 : decode cX3_upcoming 55 = .ok (.istore_n 1, 1) := by decide +kernel
theorem dX3_upcoming_56 : decode cX3_upcoming 56 = .ok (.iload_n 1, 1) := by decide +kernel
theorem dX3_upcoming_57 : decode cX3_upcoming 57 = .ok (.ifCond .ne 7, 3) := by decide +kernel
theorem dX3_upcoming_60 : decode cX3_upcoming 60 = .ok (.iconst 2, 1) := by decide +kernel
theorem dX3_upcoming_61 : decode cX3_upcoming 61 = .ok (.goto 7, 3) := by decide +kernel
theorem dX3_upcoming_64 : decode cX3_upcoming 64 = .ok (.bipush 10, 2) := by decide +kernel
theorem dX3_upcoming_66 : decode cX3_upcoming 66 = .ok (.iload_n 1, 1) := by decide +kernel
theorem dX3_upcoming_67 : decode cX3_upcoming 67 = .ok (.iadd, 1) := by decide +kernel
theorem dX3_upcoming_68 : decode cX3_upcoming 68 = .ok (.ireturn, 1) := by decide +kernel
theorem dX3_alarmOfTrailer_0 : decode cX3_alarmOfTrailer 0 = .ok (.aload_n 0, 1) := by decide +kernel
theorem dX3_alarmOfTrailer_1 : decode cX3_alarmOfTrailer 1 = .ok (.getfield 53, 3) := by decide +kernel
theorem dX3_alarmOfTrailer_4 : decode cX3_alarmOfTrailer 4 = .ok (.getfield 123, 3) := by decide +kernel
theorem dX3_alarmOfTrailer_7 : decode cX3_alarmOfTrailer 7 = .ok (.aload_n 0, 1) := by decide +kernel
theorem dX3_alarmOfTrailer_8 : decode cX3_alarmOfTrailer 8 = .ok (.getfield 22, 3) := by decide +kernel
theorem dX3_alarmOfTrailer_11 : decode cX3_alarmOfTrailer 11 = .ok (.getfield 126, 3) := by decide +kernel
theorem dX3_alarmOfTrailer_14 : decode cX3_alarmOfTrailer 14 = .ok (.bipush 63, 2) := by decide +kernel
theorem dX3_alarmOfTrailer_16 : decode cX3_alarmOfTrailer 16 = .ok (.iand, 1) := by decide +kernel
theorem dX3_alarmOfTrailer_17 : decode cX3_alarmOfTrailer 17 = .ok (.iaload, 1) := by decide +kernel
theorem dX3_alarmOfTrailer_18 : decode cX3_alarmOfTrailer 18 = .ok (.istore_n 1, 1) := by decide +kernel
theorem dX3_alarmOfTrailer_19 : decode cX3_alarmOfTrailer 19 = .ok (.iload_n 1, 1) := by decide +kernel
theorem dX3_alarmOfTrailer_20 : decode cX3_alarmOfTrailer 20 = .ok (.bipush 6, 2) := by decide +kernel
theorem dX3_alarmOfTrailer_22 : decode cX3_alarmOfTrailer 22 = .ok (.if_icmp .ne 30, 3) := by decide +kernel
theorem dX3_alarmOfTrailer_25 : decode cX3_alarmOfTrailer 25 = .ok (.aload_n 0, 1) := by decide +kernel
theorem dX3_alarmOfTrailer_26 : decode cX3_alarmOfTrailer 26 = .ok (.getfield 31, 3) := by decide +kernel
theorem dX3_alarmOfTrailer_29 : decode cX3_alarmOfTrailer 29 = .ok (.invokevirtual 156, 3) := by decide +kernel
theorem dX3_alarmOfTrailer_32 : decode cX3_alarmOfTrailer 32 = .ok (.aload_n 0, 1) := by decide +kernel
theorem dX3_alarmOfTrailer_33 : decode cX3_alarmOfTrailer 33 = .ok (.getfield 22, 3) := by decide +kernel
theorem dX3_alarmOfTrailer_36 : decode cX3_alarmOfTrailer 36 = .ok (.aload_n 0, 1) := by decide +kernel
theorem dX3_alarmOfTrailer_37 : decode cX3_alarmOfTrailer 37 = .ok (.getfield 53, 3) := by decide +kernel
theorem dX3_alarmOfTrailer_40 : decode cX3_alarmOfTrailer 40 = .ok (.invokevirtual 159, 3) := by decide +kernel
theorem dX3_alarmOfTrailer_43 : decode cX3_alarmOfTrailer 43 = .ok (.if_icmp .ne 7, 3) := by decide +kernel
theorem dX3_alarmOfTrailer_46 : decode cX3_alarmOfTrailer 46 = .ok (.iconst 0, 1) := by decide +kernel
theorem dX3_alarmOfTrailer_47 : decode cX3_alarmOfTrailer 47 = .ok (.goto 4, 3) := by decide +kernel
theorem dX3_alarmOfTrailer_50 : decode cX3_alarmOfTrailer 50 = .ok (.iconst 1, 1) := by decide +kernel
theorem dX3_alarmOfTrailer_51 : decode cX3_alarmOfTrailer 51 = .ok (.ireturn, 1) := by decide +kernel
theorem dX3_alarmOfTrailer_52 : decode cX3_alarmOfTrailer 52 = .ok (.iload_n 1, 1) := by decide +kernel
theorem dX3_alarmOfTrailer_53 : decode cX3_alarmOfTrailer 53 = .ok (.bipush 15, 2) := by decide +kernel
theorem dX3_alarmOfTrailer_55 : decode cX3_alarmOfTrailer 55 = .ok (.if_icmp .lt 30, 3) := by decide +kernel
theorem dX3_alarmOfTrailer_58 : decode cX3_alarmOfTrailer 58 = .ok (.aload_n 0, 1) := by decide +kernel
theorem dX3_alarmOfTrailer_59 : decode cX3_alarmOfTrailer 59 = .ok (.getfield 31, 3) := by decide +kernel
theorem dX3_alarmOfTrailer_62 : decode cX3_alarmOfTrailer 62 = .ok (.invokevirtual 163, 3) := by decide +kernel
theorem dX3_alarmOfTrailer_65 : decode cX3_alarmOfTrailer 65 = .ok (.aload_n 0, 1) := by decide +kernel
theorem dX3_alarmOfTrailer_66 : decode cX3_alarmOfTrailer 66 = .ok (.getfield 22, 3) := by decide +kernel
theorem dX3_alarmOfTrailer_69 : decode cX3_alarmOfTrailer 69 = .ok (.aload_n 0, 1) := by decide +kernel
theorem dX3_alarmOfTrailer_70 : decode cX3_alarmOfTrailer 70 = .ok (.getfield 53, 3) := by decide +kernel
theorem dX3_alarmOfTrailer_73 : decode cX3_alarmOfTrailer 73 = .ok (.invokevirtual 167, 3) := by decide +kernel
theorem dX3_alarmOfTrailer_76 : decode cX3_alarmOfTrailer 76 = .ok (.if_icmp .ne 7, 3) := by decide +kernel
theorem dX3_alarmOfTrailer_79 : decode cX3_alarmOfTrailer 79 = .ok (.iconst 0, 1) := by decide +kernel
theorem dX3_alarmOfTrailer_80 : decode cX3_alarmOfTrailer 80 = .ok (.goto 4, 3) := by decide +kernel
theorem dX3_alarmOfTrailer_83 : decode cX3_alarmOfTrailer 83 = .ok (.iconst 2, 1) := by decide +kernel
theorem dX3_alarmOfTrailer_84 : decode cX3_alarmOfTrailer 84 = .ok (.ireturn, 1) := by decide +kernel
theorem dX3_alarmOfTrailer_85 : decode cX3_alarmOfTrailer 85 = .ok (.iload_n 1, 1) := by decide +kernel
theorem dX3_alarmOfTrailer_86 : decode cX3_alarmOfTrailer 86 = .ok (.bipush 7, 2) := by decide +kernel
theorem dX3_alarmOfTrailer_88 : decode cX3_alarmOfTrailer 88 = .ok (.if_icmp .eq 9, 3) := by decide +kernel
theorem dX3_alarmOfTrailer_91 : decode cX3_alarmOfTrailer 91 = .ok (.iload_n 1, 1) := by decide +kernel
theorem dX3_alarmOfTrailer_92 : decode cX3_alarmOfTrailer 92 = .ok (.bipush 8, 2) := by decide +kernel
theorem dX3_alarmOfTrailer_94 : decode cX3_alarmOfTrailer 94 = .ok (.if_icmp .ne 41, 3) := by decide +kernel
theorem dX3_alarmOfTrailer_97 : decode cX3_alarmOfTrailer 97 = .ok (.aload_n 0, 1) := by decide +kernel
theorem dX3_alarmOfTrailer_98 : decode cX3_alarmOfTrailer 98 = .ok (.getfield 31, 3) := by decide +kernel
theorem dX3_alarmOfTrailer_101 : decode cX3_alarmOfTrailer 101 = .ok (.aload_n 0, 1) := by decide +kernel
theorem dX3_alarmOfTrailer_102 : decode cX3_alarmOfTrailer 102 = .ok (.getfield 22, 3) := by decide +kernel
theorem dX3_alarmOfTrailer_105 : decode cX3_alarmOfTrailer 105 = .ok (.aload_n 0, 1) := by decide +kernel
theorem dX3_alarmOfTrailer_106 : decode cX3_alarmOfTrailer 106 = .ok (.getfield 53, 3) := by decide +kernel
theorem dX3_alarmOfTrailer_109 : decode cX3_alarmOfTrailer 109 = .ok (.invokevirtual 159, 3) := by decide +kernel
theorem dX3_alarmOfTrailer_112 : decode cX3_alarmOfTrailer 112 = .ok (.aload_n 0, 1) := by decide +kernel
theorem dX3_alarmOfTrailer_113 : decode cX3_alarmOfTrailer 113 = .ok (.getfield 22, 3) := by decide +kernel
theorem dX3_alarmOfTrailer_116 : decode cX3_alarmOfTrailer 116 = .ok (.aload_n 0, 1) := by decide +kernel
theorem dX3_alarmOfTrailer_117 : decode cX3_alarmOfTrailer 117 = .ok (.getfield 53, 3) := by decide +kernel
theorem dX3_alarmOfTrailer_120 : decode cX3_alarmOfTrailer 120 = .ok (.invokevirtual 171, 3) := by decide +kernel
theorem dX3_alarmOfTrailer_123 : decode cX3_alarmOfTrailer 123 = .ok (.invokevirtual 174, 3) := by decide +kernel
theorem dX3_alarmOfTrailer_126 : decode cX3_alarmOfTrailer 126 = .ok (.ifCond .eq 7, 3) := by decide +kernel
theorem dX3_alarmOfTrailer_129 : decode cX3_alarmOfTrailer 129 = .ok (.iconst 0, 1) := by decide +kernel
theorem dX3_alarmOfTrailer_130 : decode cX3_alarmOfTrailer 130 = .ok (.goto 4, 3) := by decide +kernel
theorem dX3_alarmOfTrailer_133 : decode cX3_alarmOfTrailer 133 = .ok (.iconst 3, 1) := by decide +kernel
theorem dX3_alarmOfTrailer_134 : decode cX3_alarmOfTrailer 134 = .ok (.ireturn, 1) := by decide +kernel
theorem dX3_alarmOfTrailer_135 : decode cX3_alarmOfTrailer 135 = .ok (.iconst 0, 1) := by decide +kernel
theorem dX3_alarmOfTrailer_136 : decode cX3_alarmOfTrailer 136 = .ok (.ireturn, 1) := by decide +kernel
theorem dX3_alarmOfPoint_0 : decode cX3_alarmOfPoint 0 = .ok (.aload_n 0, 1) := by decide +kernel
theorem dX3_alarmOfPoint_1 : decode cX3_alarmOfPoint 1 = .ok (.getfield 18, 3) := by decide +kernel
theorem dX3_alarmOfPoint_4 : decode cX3_alarmOfPoint 4 = .ok (.aload_n 0, 1) := by decide +kernel
theorem dX3_alarmOfPoint_5 : decode cX3_alarmOfPoint 5 = .ok (.getfield 22, 3) := by decide +kernel
theorem dX3_alarmOfPoint_8 : decode cX3_alarmOfPoint 8 = .ok (.invokevirtual 177, 3) := by decide +kernel
theorem dX3_alarmOfPoint_11 : decode cX3_alarmOfPoint 11 = .ok (.ifCond .eq 5, 3) := by decide +kernel
theorem dX3_alarmOfPoint_14 : decode cX3_alarmOfPoint 14 = .ok (.iconst 4, 1) := by decide +kernel
theorem dX3_alarmOfPoint_15 : decode cX3_alarmOfPoint 15 = .ok (.ireturn, 1) := by decide +kernel
theorem dX3_alarmOfPoint_16 : decode cX3_alarmOfPoint 16 = .ok (.aload_n 0, 1) := by decide +kernel
theorem dX3_alarmOfPoint_17 : decode cX3_alarmOfPoint 17 = .ok (.invokevirtual 129, 3) := by decide +kernel
theorem dX3_alarmOfPoint_20 : decode cX3_alarmOfPoint 20 = .ok (.ifCond .ne 13, 3) := by decide +kernel
theorem dX3_alarmOfPoint_23 : decode cX3_alarmOfPoint 23 = .ok (.aload_n 0, 1) := by decide +kernel
theorem dX3_alarmOfPoint_24 : decode cX3_alarmOfPoint 24 = .ok (.getfield 31, 3) := by decide +kernel
theorem dX3_alarmOfPoint_27 : decode cX3_alarmOfPoint 27 = .ok (.invokevirtual 181, 3) := by decide +kernel
theorem dX3_alarmOfPoint_30 : decode cX3_alarmOfPoint 30 = .ok (.ifCond .ne 5, 3) := by decide +kernel
theorem dX3_alarmOfPoint_33 : decode cX3_alarmOfPoint 33 = .ok (.iconst 5, 1) := by decide +kernel
theorem dX3_alarmOfPoint_34 : decode cX3_alarmOfPoint 34 = .ok (.ireturn, 1) := by decide +kernel
theorem dX3_alarmOfPoint_35 : decode cX3_alarmOfPoint 35 = .ok (.aload_n 0, 1) := by decide +kernel
theorem dX3_alarmOfPoint_36 : decode cX3_alarmOfPoint 36 = .ok (.getfield 31, 3) := by decide +kernel
theorem dX3_alarmOfPoint_39 : decode cX3_alarmOfPoint 39 = .ok (.invokevirtual 184, 3) := by decide +kernel
theorem dX3_alarmOfPoint_42 : decode cX3_alarmOfPoint 42 = .ok (.ifCond .eq 7, 3) := by decide +kernel
theorem dX3_alarmOfPoint_45 : decode cX3_alarmOfPoint 45 = .ok (.iconst 0, 1) := by decide +kernel
theorem dX3_alarmOfPoint_46 : decode cX3_alarmOfPoint 46 = .ok (.goto 5, 3) := by decide +kernel
theorem dX3_alarmOfPoint_49 : decode cX3_alarmOfPoint 49 = .ok (.bipush 6, 2) := by decide +kernel
theorem dX3_alarmOfPoint_51 : decode cX3_alarmOfPoint 51 = .ok (.ireturn, 1) := by decide +kernel
theorem dX3_turn_0 : decode cX3_turn 0 = .ok (.aload_n 0, 1) := by decide +kernel
theorem dX3_turn_1 : decode cX3_turn 1 = .ok (.invokevirtual 187, 3) := by decide +kernel
theorem dX3_turn_4 : decode cX3_turn 4 = .ok (.istore_n 1, 1) := by decide +kernel
theorem dX3_turn_5 : decode cX3_turn 5 = .ok (.iload_n 1, 1) := by decide +kernel
theorem dX3_turn_6 : decode cX3_turn 6 = .ok (.bipush (-2), 2) := by decide +kernel
theorem dX3_turn_8 : decode cX3_turn 8 = .ok (.if_icmp .ne 5, 3) := by decide +kernel
theorem dX3_turn_11 : decode cX3_turn 11 = .ok (.iload_n 1, 1) := by decide +kernel
theorem dX3_turn_12 : decode cX3_turn 12 = .ok (.ireturn, 1) := by decide +kernel
theorem dX3_turn_13 : decode cX3_turn 13 = .ok (.aload_n 0, 1) := by decide +kernel
theorem dX3_turn_14 : decode cX3_turn 14 = .ok (.getfield 45, 3) := by decide +kernel
theorem dX3_turn_17 : decode cX3_turn 17 = .ok (.dup, 1) := by decide +kernel
theorem dX3_turn_18 : decode cX3_turn 18 = .ok (.getfield 190, 3) := by decide +kernel
theorem dX3_turn_21 : decode cX3_turn 21 = .ok (.iconst 1, 1) := by decide +kernel
theorem dX3_turn_22 : decode cX3_turn 22 = .ok (.iadd, 1) := by decide +kernel
theorem dX3_turn_23 : decode cX3_turn 23 = .ok (.putfield 190, 3) := by decide +kernel
theorem dX3_turn_26 : decode cX3_turn 26 = .ok (.iload_n 1, 1) := by decide +kernel
theorem dX3_turn_27 : decode cX3_turn 27 = .ok (.ifCond .ne 10, 3) := by decide +kernel
theorem dX3_turn_30 : decode cX3_turn 30 = .ok (.aload_n 0, 1) := by decide +kernel
theorem dX3_turn_31 : decode cX3_turn 31 = .ok (.invokevirtual 193, 3) := by decide +kernel
theorem dX3_turn_34 : decode cX3_turn 34 = .ok (.goto 35, 3) := by decide +kernel
theorem dX3_turn_37 : decode cX3_turn 37 = .ok (.iload_n 1, 1) := by decide +kernel
theorem dX3_turn_38 : decode cX3_turn 38 = .ok (.iconst 1, 1) := by decide +kernel
theorem dX3_turn_39 : decode cX3_turn 39 = .ok (.if_icmp .ne 10, 3) := by decide +kernel
theorem dX3_turn_42 : decode cX3_turn 42 = .ok (.aload_n 0, 1) := by decide +kernel
theorem dX3_turn_43 : decode cX3_turn 43 = .ok (.invokevirtual 196, 3) := by decide +kernel
theorem dX3_turn_46 : decode cX3_turn 46 = .ok (.goto 23, 3) := by decide +kernel
theorem dX3_turn_49 : decode cX3_turn 49 = .ok (.iload_n 1, 1) := by decide +kernel
theorem dX3_turn_50 : decode cX3_turn 50 = .ok (.iconst 2, 1) := by decide +kernel
theorem dX3_turn_51 : decode cX3_turn 51 = .ok (.if_icmp .ne 10, 3) := by decide +kernel
theorem dX3_turn_54 : decode cX3_turn 54 = .ok (.aload_n 0, 1) := by decide +kernel
theorem dX3_turn_55 : decode cX3_turn 55 = .ok (.invokevirtual 199, 3) := by decide +kernel
theorem dX3_turn_58 : decode cX3_turn 58 = .ok (.goto 11, 3) := by decide +kernel
theorem dX3_turn_61 : decode cX3_turn 61 = .ok (.aload_n 0, 1) := by decide +kernel
theorem dX3_turn_62 : decode cX3_turn 62 = .ok (.iload_n 1, 1) := by decide +kernel
theorem dX3_turn_63 : decode cX3_turn 63 = .ok (.bipush 10, 2) := by decide +kernel
theorem dX3_turn_65 : decode cX3_turn 65 = .ok (.isub, 1) := by decide +kernel
theorem dX3_turn_66 : decode cX3_turn 66 = .ok (.invokevirtual 202, 3) := by decide +kernel
theorem dX3_turn_69 : decode cX3_turn 69 = .ok (.aload_n 0, 1) := by decide +kernel
theorem dX3_turn_70 : decode cX3_turn 70 = .ok (.getfield 45, 3) := by decide +kernel
theorem dX3_turn_73 : decode cX3_turn 73 = .ok (.dup, 1) := by decide +kernel
theorem dX3_turn_74 : decode cX3_turn 74 = .ok (.getfield 206, 3) := by decide +kernel
theorem dX3_turn_77 : decode cX3_turn 77 = .ok (.aload_n 0, 1) := by decide +kernel
theorem dX3_turn_78 : decode cX3_turn 78 = .ok (.invokevirtual 129, 3) := by decide +kernel
theorem dX3_turn_81 : decode cX3_turn 81 = .ok (.iadd, 1) := by decide +kernel
theorem dX3_turn_82 : decode cX3_turn 82 = .ok (.putfield 206, 3) := by decide +kernel
theorem dX3_turn_85 : decode cX3_turn 85 = .ok (.aload_n 0, 1) := by decide +kernel
theorem dX3_turn_86 : decode cX3_turn 86 = .ok (.getfield 45, 3) := by decide +kernel
theorem dX3_turn_89 : decode cX3_turn 89 = .ok (.aload_n 0, 1) := by decide +kernel
theorem dX3_turn_90 : decode cX3_turn 90 = .ok (.getfield 45, 3) := by decide +kernel
theorem dX3_turn_93 : decode cX3_turn 93 = .ok (.getfield 209, 3) := by decide +kernel
theorem dX3_turn_96 : decode cX3_turn 96 = .ok (.aload_n 0, 1) := by decide +kernel
theorem dX3_turn_97 : decode cX3_turn 97 = .ok (.invokevirtual 129, 3) := by decide +kernel
theorem dX3_turn_100 : decode cX3_turn 100 = .ok (.invokestatic 212, 3) := by decide +kernel
theorem dX3_turn_103 : decode cX3_turn 103 = .ok (.putfield 209, 3) := by decide +kernel
theorem dX3_turn_106 : decode cX3_turn 106 = .ok (.iload_n 1, 1) := by decide +kernel
theorem dX3_turn_107 : decode cX3_turn 107 = .ok (.ireturn, 1) := by decide +kernel
theorem dX3_alarmByNothing_0 : decode cX3_alarmByNothing 0 = .ok (.aload_n 0, 1) := by decide +kernel
theorem dX3_alarmByNothing_1 : decode cX3_alarmByNothing 1 = .ok (.getfield 77, 3) := by decide +kernel
theorem dX3_alarmByNothing_4 : decode cX3_alarmByNothing 4 = .ok (.ifCond .ne 29, 3) := by decide +kernel
theorem dX3_alarmByNothing_7 : decode cX3_alarmByNothing 7 = .ok (.aload_n 0, 1) := by decide +kernel
theorem dX3_alarmByNothing_8 : decode cX3_alarmByNothing 8 = .ok (.getfield 81, 3) := by decide +kernel
theorem dX3_alarmByNothing_11 : decode cX3_alarmByNothing 11 = .ok (.ifCond .ne 22, 3) := by decide +kernel
theorem dX3_alarmByNothing_14 : decode cX3_alarmByNothing 14 = .ok (.aload_n 0, 1) := by decide +kernel
theorem dX3_alarmByNothing_15 : decode cX3_alarmByNothing 15 = .ok (.getfield 45, 3) := by decide +kernel
theorem dX3_alarmByNothing_18 : decode cX3_alarmByNothing 18 = .ok (.dup, 1) := by decide +kernel
theorem dX3_alarmByNothing_19 : decode cX3_alarmByNothing 19 = .ok (.getfield 190, 3) := by decide +kernel
theorem dX3_alarmByNothing_22 : decode cX3_alarmByNothing 22 = .ok (.iconst 1, 1) := by decide +kernel
theorem dX3_alarmByNothing_23 : decode cX3_alarmByNothing 23 = .ok (.iadd, 1) := by decide +kernel
theorem dX3_alarmByNothing_24 : decode cX3_alarmByNothing 24 = .ok (.putfield 190, 3) := by decide +kernel
theorem dX3_alarmByNothing_27 : decode cX3_alarmByNothing 27 = .ok (.aload_n 0, 1) := by decide +kernel
theorem dX3_alarmByNothing_28 : decode cX3_alarmByNothing 28 = .ok (.bipush 7, 2) := by decide +kernel
theorem dX3_alarmByNothing_30 : decode cX3_alarmByNothing 30 = .ok (.invokevirtual 202, 3) := by decide +kernel
theorem dX3_alarmByNothing_33 : decode cX3_alarmByNothing 33 = .ok (.return_, 1) := by decide +kernel
theorem dX3_stepLeader_0 : decode cX3_stepLeader 0 = .ok (.aload_n 0, 1) := by decide +kernel
theorem dX3_stepLeader_1 : decode cX3_stepLeader 1 = .ok (.getfield 45, 3) := by decide +kernel
theorem dX3_stepLeader_4 : decode cX3_stepLeader 4 = .ok (.dup, 1) := by decide +kernel
theorem dX3_stepLeader_5 : decode cX3_stepLeader 5 = .ok (.getfield 218, 3) := by decide +kernel
theorem dX3_stepLeader_8 : decode cX3_stepLeader 8 = .ok (.iconst 1, 1) := by decide +kernel
theorem dX3_stepLeader_9 : decode cX3_stepLeader 9 = .ok (.iadd, 1) := by decide +kernel
theorem dX3_stepLeader_10 : decode cX3_stepLeader 10 = .ok (.putfield 218, 3) := by decide +kernel
theorem dX3_stepLeader_13 : decode cX3_stepLeader 13 = .ok (.aload_n 0, 1) := by decide +kernel
theorem dX3_stepLeader_14 : decode cX3_stepLeader 14 = .ok (.getfield 53, 3) := by decide +kernel
theorem dX3_stepLeader_17 : decode cX3_stepLeader 17 = .ok (.getfield 123, 3) := by decide +kernel
theorem dX3_stepLeader_20 : decode cX3_stepLeader 20 = .ok (.aload_n 0, 1) := by decide +kernel
theorem dX3_stepLeader_21 : decode cX3_stepLeader 21 = .ok (.getfield 18, 3) := by decide +kernel
theorem dX3_stepLeader_24 : decode cX3_stepLeader 24 = .ok (.getfield 126, 3) := by decide +kernel
theorem dX3_stepLeader_27 : decode cX3_stepLeader 27 = .ok (.bipush 63, 2) := by decide +kernel
theorem dX3_stepLeader_29 : decode cX3_stepLeader 29 = .ok (.iand, 1) := by decide +kernel
theorem dX3_stepLeader_30 : decode cX3_stepLeader 30 = .ok (.iaload, 1) := by decide +kernel
theorem dX3_stepLeader_31 : decode cX3_stepLeader 31 = .ok (.istore_n 1, 1) := by decide +kernel
theorem dX3_stepLeader_32 : decode cX3_stepLeader 32 = .ok (.iload_n 1, 1) := by decide +kernel
theorem dX3_stepLeader_33 : decode cX3_stepLeader 33 = .ok (.bipush 6, 2) := by decide +kernel
theorem dX3_stepLeader_35 : decode cX3_stepLeader 35 = .ok (.if_icmp .ne 86, 3) := by decide +kernel
theorem dX3_stepLeader_38 : decode cX3_stepLeader 38 = .ok (.aload_n 0, 1) := by decide +kernel
theorem dX3_stepLeader_39 : decode cX3_stepLeader 39 = .ok (.getfield 18, 3) := by decide +kernel
theorem dX3_stepLeader_42 : decode cX3_stepLeader 42 = .ok (.aload_n 0, 1) := by decide +kernel
theorem dX3_stepLeader_43 : decode cX3_stepLeader 43 = .ok (.getfield 53, 3) := by decide +kernel
theorem dX3_stepLeader_46 : decode cX3_stepLeader 46 = .ok (.invokevirtual 159, 3) := by decide +kernel
theorem dX3_stepLeader_49 : decode cX3_stepLeader 49 = .ok (.istore_n 2, 1) := by decide +kernel
theorem dX3_stepLeader_50 : decode cX3_stepLeader 50 = .ok (.aload_n 0, 1) := by decide +kernel
theorem dX3_stepLeader_51 : decode cX3_stepLeader 51 = .ok (.getfield 31, 3) := by decide +kernel
theorem dX3_stepLeader_54 : decode cX3_stepLeader 54 = .ok (.iload_n 2, 1) := by decide +kernel
theorem dX3_stepLeader_55 : decode cX3_stepLeader 55 = .ok (.invokevirtual 221, 3) := by decide +kernel
theorem dX3_stepLeader_58 : decode cX3_stepLeader 58 = .ok (.istore_n 3, 1) := by decide +kernel
theorem dX3_stepLeader_59 : decode cX3_stepLeader 59 = .ok (.iload_n 3, 1) := by decide +kernel
theorem dX3_stepLeader_60 : decode cX3_stepLeader 60 = .ok (.ifCond .lt 9, 3) := by decide +kernel
theorem dX3_stepLeader_63 : decode cX3_stepLeader 63 = .ok (.iload_n 3, 1) := by decide +kernel
theorem dX3_stepLeader_64 : decode cX3_stepLeader 64 = .ok (.bipush 7, 2) := by decide +kernel
theorem dX3_stepLeader_66 : decode cX3_stepLeader 66 = .ok (.if_icmp .le 18, 3) := by decide +kernel
theorem dX3_stepLeader_69 : decode cX3_stepLeader 69 = .ok (.aload_n 0, 1) := by decide +kernel
theorem dX3_stepLeader_70 : decode cX3_stepLeader 70 = .ok (.getfield 38, 3) := by decide +kernel
theorem dX3_stepLeader_73 : decode cX3_stepLeader 73 = .ok (.getfield 225, 3) := by decide +kernel
theorem dX3_stepLeader_76 : decode cX3_stepLeader 76 = .ok (.iload_n 2, 1) := by decide +kernel
theorem dX3_stepLeader_77 : decode cX3_stepLeader 77 = .ok (.bipush 31, 2) := by decide +kernel
theorem dX3_stepLeader_79 : decode cX3_stepLeader 79 = .ok (.iand, 1) := by decide +kernel
theorem dX3_stepLeader_80 : decode cX3_stepLeader 80 = .ok (.iaload, 1) := by decide +kernel
theorem dX3_stepLeader_81 : decode cX3_stepLeader 81 = .ok (.goto 12, 3) := by decide +kernel
theorem dX3_stepLeader_84 : decode cX3_stepLeader 84 = .ok (.aload_n 0, 1) := by decide +kernel
theorem dX3_stepLeader_85 : decode cX3_stepLeader 85 = .ok (.getfield 31, 3) := by decide +kernel
theorem dX3_stepLeader_88 : decode cX3_stepLeader 88 = .ok (.getfield 228, 3) := by decide +kernel
theorem dX3_stepLeader_91 : decode cX3_stepLeader 91 = .ok (.iload_n 3, 1) := by decide +kernel
theorem dX3_stepLeader_92 : decode cX3_stepLeader 92 = .ok (.iaload, 1) := by decide +kernel
theorem dX3_stepLeader_93 : decode cX3_stepLeader 93 = .ok (.istore 4, 2) := by decide +kernel
theorem dX3_stepLeader_95 : decode cX3_stepLeader 95 = .ok (.aload_n 0, 1) := by decide +kernel
theorem dX3_stepLeader_96 : decode cX3_stepLeader 96 = .ok (.getfield 31, 3) := by decide +kernel
theorem dX3_stepLeader_99 : decode cX3_stepLeader 99 = .ok (.iload_n 2, 1) := by decide +kernel
theorem dX3_stepLeader_100 : decode cX3_stepLeader 100 = .ok (.iload 4, 2) := by decide +kernel
theorem dX3_stepLeader_102 : decode cX3_stepLeader 102 = .ok (.invokevirtual 231, 3) := by decide +kernel
theorem dX3_stepLeader_105 : decode cX3_stepLeader 105 = .ok (.aload_n 0, 1) := by decide +kernel
theorem dX3_stepLeader_106 : decode cX3_stepLeader 106 = .ok (.getfield 18, 3) := by decide +kernel
theorem dX3_stepLeader_109 : decode cX3_stepLeader 109 = .ok (.aload_n 0, 1) := by decide +kernel
theorem dX3_stepLeader_110 : decode cX3_stepLeader 110 = .ok (.getfield 53, 3) := by decide +kernel
theorem dX3_stepLeader_113 : decode cX3_stepLeader 113 = .ok (.iload 4, 2) := by decide +kernel
theorem dX3_stepLeader_115 : decode cX3_stepLeader 115 = .ok (.invokevirtual 235, 3) := by decide +kernel
theorem dX3_stepLeader_118 : decode cX3_stepLeader 118 = .ok (.goto 106, 3) := by decide +kernel
theorem dX3_stepLeader_121 : decode cX3_stepLeader 121 = .ok (.iload_n 1, 1) := by decide +kernel
theorem dX3_stepLeader_122 : decode cX3_stepLeader 122 = .ok (.bipush 15, 2) := by decide +kernel
theorem dX3_stepLeader_124 : decode cX3_stepLeader 124 = .ok (.if_icmp .lt 38, 3) := by decide +kernel
theorem dX3_stepLeader_127 : decode cX3_stepLeader 127 = .ok (.aload_n 0, 1) := by decide +kernel
theorem dX3_stepLeader_128 : decode cX3_stepLeader 128 = .ok (.getfield 18, 3) := by decide +kernel
theorem dX3_stepLeader_131 : decode cX3_stepLeader 131 = .ok (.aload_n 0, 1) := by decide +kernel
theorem dX3_stepLeader_132 : decode cX3_stepLeader 132 = .ok (.getfield 53, 3) := by decide +kernel
theorem dX3_stepLeader_135 : decode cX3_stepLeader 135 = .ok (.invokevirtual 167, 3) := by decide +kernel
theorem dX3_stepLeader_138 : decode cX3_stepLeader 138 = .ok (.istore_n 2, 1) := by decide +kernel
theorem dX3_stepLeader_139 : decode cX3_stepLeader 139 = .ok (.aload_n 0, 1) := by decide +kernel
theorem dX3_stepLeader_140 : decode cX3_stepLeader 140 = .ok (.getfield 31, 3) := by decide +kernel
theorem dX3_stepLeader_143 : decode cX3_stepLeader 143 = .ok (.iload_n 2, 1) := by decide +kernel
theorem dX3_stepLeader_144 : decode cX3_stepLeader 144 = .ok (.invokevirtual 239, 3) := by decide +kernel
theorem dX3_stepLeader_147 : decode cX3_stepLeader 147 = .ok (.aload_n 0, 1) := by decide +kernel
theorem dX3_stepLeader_148 : decode cX3_stepLeader 148 = .ok (.getfield 18, 3) := by decide +kernel
theorem dX3_stepLeader_151 : decode cX3_stepLeader 151 = .ok (.aload_n 0, 1) := by decide +kernel
theorem dX3_stepLeader_152 : decode cX3_stepLeader 152 = .ok (.getfield 53, 3) := by decide +kernel
theorem dX3_stepLeader_155 : decode cX3_stepLeader 155 = .ok (.iload_n 2, 1) := by decide +kernel
theorem dX3_stepLeader_156 : decode cX3_stepLeader 156 = .ok (.invokevirtual 243, 3) := by decide +kernel
theorem dX3_stepLeader_159 : decode cX3_stepLeader 159 = .ok (.goto 65, 3) := by decide +kernel
theorem dX3_stepLeader_162 : decode cX3_stepLeader 162 = .ok (.iload_n 1, 1) := by decide +kernel
theorem dX3_stepLeader_163 : decode cX3_stepLeader 163 = .ok (.bipush 7, 2) := by decide +kernel
theorem dX3_stepLeader_165 : decode cX3_stepLeader 165 = .ok (.if_icmp .eq 9, 3) := by decide +kernel
theorem dX3_stepLeader_168 : decode cX3_stepLeader 168 = .ok (.iload_n 1, 1) := by decide +kernel
theorem dX3_stepLeader_169 : decode cX3_stepLeader 169 = .ok (.bipush 8, 2) := by decide +kernel
theorem dX3_stepLeader_171 : decode cX3_stepLeader 171 = .ok (.if_icmp .ne 42, 3) := by decide +kernel
theorem dX3_stepLeader_174 : decode cX3_stepLeader 174 = .ok (.aload_n 0, 1) := by decide +kernel
theorem dX3_stepLeader_175 : decode cX3_stepLeader 175 = .ok (.getfield 31, 3) := by decide +kernel
theorem dX3_stepLeader_178 : decode cX3_stepLeader 178 = .ok (.aload_n 0, 1) := by decide +kernel
theorem dX3_stepLeader_179 : decode cX3_stepLeader 179 = .ok (.getfield 18, 3) := by decide +kernel
theorem dX3_stepLeader_182 : decode cX3_stepLeader 182 = .ok (.aload_n 0, 1) := by decide +kernel
theorem dX3_stepLeader_183 : decode cX3_stepLeader 183 = .ok (.getfield 53, 3) := by decide +kernel
theorem dX3_stepLeader_186 : decode cX3_stepLeader 186 = .ok (.invokevirtual 159, 3) := by decide +kernel
theorem dX3_stepLeader_189 : decode cX3_stepLeader 189 = .ok (.aload_n 0, 1) := by decide +kernel
theorem dX3_stepLeader_190 : decode cX3_stepLeader 190 = .ok (.getfield 18, 3) := by decide +kernel
theorem dX3_stepLeader_193 : decode cX3_stepLeader 193 = .ok (.aload_n 0, 1) := by decide +kernel
theorem dX3_stepLeader_194 : decode cX3_stepLeader 194 = .ok (.getfield 53, 3) := by decide +kernel
theorem dX3_stepLeader_197 : decode cX3_stepLeader 197 = .ok (.invokevirtual 171, 3) := by decide +kernel
theorem dX3_stepLeader_200 : decode cX3_stepLeader 200 = .ok (.invokevirtual 247, 3) := by decide +kernel
theorem dX3_stepLeader_203 : decode cX3_stepLeader 203 = .ok (.aload_n 0, 1) := by decide +kernel
theorem dX3_stepLeader_204 : decode cX3_stepLeader 204 = .ok (.getfield 18, 3) := by decide +kernel
theorem dX3_stepLeader_207 : decode cX3_stepLeader 207 = .ok (.invokevirtual 250, 3) := by decide +kernel
theorem dX3_stepLeader_210 : decode cX3_stepLeader 210 = .ok (.goto 14, 3) := by decide +kernel
theorem dX3_stepLeader_213 : decode cX3_stepLeader 213 = .ok (.aload_n 0, 1) := by decide +kernel
theorem dX3_stepLeader_214 : decode cX3_stepLeader 214 = .ok (.getfield 18, 3) := by decide +kernel
theorem dX3_stepLeader_217 : decode cX3_stepLeader 217 = .ok (.aload_n 0, 1) := by decide +kernel
theorem dX3_stepLeader_218 : decode cX3_stepLeader 218 = .ok (.getfield 53, 3) := by decide +kernel
theorem dX3_stepLeader_221 : decode cX3_stepLeader 221 = .ok (.invokevirtual 253, 3) := by decide +kernel
theorem dX3_stepLeader_224 : decode cX3_stepLeader 224 = .ok (.return_, 1) := by decide +kernel
theorem dX3_stepTrailer_0 : decode cX3_stepTrailer 0 = .ok (.aload_n 0, 1) := by decide +kernel
theorem dX3_stepTrailer_1 : decode cX3_stepTrailer 1 = .ok (.getfield 45, 3) := by decide +kernel
theorem dX3_stepTrailer_4 : decode cX3_stepTrailer 4 = .ok (.dup, 1) := by decide +kernel
theorem dX3_stepTrailer_5 : decode cX3_stepTrailer 5 = .ok (.getfield 256, 3) := by decide +kernel
theorem dX3_stepTrailer_8 : decode cX3_stepTrailer 8 = .ok (.iconst 1, 1) := by decide +kernel
theorem dX3_stepTrailer_9 : decode cX3_stepTrailer 9 = .ok (.iadd, 1) := by decide +kernel
theorem dX3_stepTrailer_10 : decode cX3_stepTrailer 10 = .ok (.putfield 256, 3) := by decide +kernel
theorem dX3_stepTrailer_13 : decode cX3_stepTrailer 13 = .ok (.aload_n 0, 1) := by decide +kernel
theorem dX3_stepTrailer_14 : decode cX3_stepTrailer 14 = .ok (.getfield 53, 3) := by decide +kernel
theorem dX3_stepTrailer_17 : decode cX3_stepTrailer 17 = .ok (.getfield 123, 3) := by decide +kernel
theorem dX3_stepTrailer_20 : decode cX3_stepTrailer 20 = .ok (.aload_n 0, 1) := by decide +kernel
theorem dX3_stepTrailer_21 : decode cX3_stepTrailer 21 = .ok (.getfield 22, 3) := by decide +kernel
theorem dX3_stepTrailer_24 : decode cX3_stepTrailer 24 = .ok (.getfield 126, 3) := by decide +kernel
theorem dX3_stepTrailer_27 : decode cX3_stepTrailer 27 = .ok (.bipush 63, 2) := by decide +kernel
theorem dX3_stepTrailer_29 : decode cX3_stepTrailer 29 = .ok (.iand, 1) := by decide +kernel
theorem dX3_stepTrailer_30 : decode cX3_stepTrailer 30 = .ok (.iaload, 1) := by decide +kernel
theorem dX3_stepTrailer_31 : decode cX3_stepTrailer 31 = .ok (.istore_n 1, 1) := by decide +kernel
theorem dX3_stepTrailer_32 : decode cX3_stepTrailer 32 = .ok (.iload_n 1, 1) := by decide +kernel
theorem dX3_stepTrailer_33 : decode cX3_stepTrailer 33 = .ok (.bipush 6, 2) := by decide +kernel
theorem dX3_stepTrailer_35 : decode cX3_stepTrailer 35 = .ok (.if_icmp .ne 24, 3) := by decide +kernel
theorem dX3_stepTrailer_38 : decode cX3_stepTrailer 38 = .ok (.aload_n 0, 1) := by decide +kernel
theorem dX3_stepTrailer_39 : decode cX3_stepTrailer 39 = .ok (.getfield 22, 3) := by decide +kernel
theorem dX3_stepTrailer_42 : decode cX3_stepTrailer 42 = .ok (.aload_n 0, 1) := by decide +kernel
theorem dX3_stepTrailer_43 : decode cX3_stepTrailer 43 = .ok (.getfield 53, 3) := by decide +kernel
theorem dX3_stepTrailer_46 : decode cX3_stepTrailer 46 = .ok (.aload_n 0, 1) := by decide +kernel
theorem dX3_stepTrailer_47 : decode cX3_stepTrailer 47 = .ok (.getfield 31, 3) := by decide +kernel
theorem dX3_stepTrailer_50 : decode cX3_stepTrailer 50 = .ok (.invokevirtual 259, 3) := by decide +kernel
theorem dX3_stepTrailer_53 : decode cX3_stepTrailer 53 = .ok (.invokevirtual 235, 3) := by decide +kernel
theorem dX3_stepTrailer_56 : decode cX3_stepTrailer 56 = .ok (.goto 101, 3) := by decide +kernel
theorem dX3_stepTrailer_59 : decode cX3_stepTrailer 59 = .ok (.iload_n 1, 1) := by decide +kernel
theorem dX3_stepTrailer_60 : decode cX3_stepTrailer 60 = .ok (.bipush 15, 2) := by decide +kernel
theorem dX3_stepTrailer_62 : decode cX3_stepTrailer 62 = .ok (.if_icmp .lt 33, 3) := by decide +kernel
theorem dX3_stepTrailer_65 : decode cX3_stepTrailer 65 = .ok (.aload_n 0, 1) := by decide +kernel
theorem dX3_stepTrailer_66 : decode cX3_stepTrailer 66 = .ok (.getfield 31, 3) := by decide +kernel
theorem dX3_stepTrailer_69 : decode cX3_stepTrailer 69 = .ok (.invokevirtual 163, 3) := by decide +kernel
theorem dX3_stepTrailer_72 : decode cX3_stepTrailer 72 = .ok (.istore_n 2, 1) := by decide +kernel
theorem dX3_stepTrailer_73 : decode cX3_stepTrailer 73 = .ok (.aload_n 0, 1) := by decide +kernel
theorem dX3_stepTrailer_74 : decode cX3_stepTrailer 74 = .ok (.getfield 31, 3) := by decide +kernel
theorem dX3_stepTrailer_77 : decode cX3_stepTrailer 77 = .ok (.invokevirtual 262, 3) := by decide +kernel
theorem dX3_stepTrailer_80 : decode cX3_stepTrailer 80 = .ok (.aload_n 0, 1) := by decide +kernel
theorem dX3_stepTrailer_81 : decode cX3_stepTrailer 81 = .ok (.getfield 22, 3) := by decide +kernel
theorem dX3_stepTrailer_84 : decode cX3_stepTrailer 84 = .ok (.aload_n 0, 1) := by decide +kernel
theorem dX3_stepTrailer_85 : decode cX3_stepTrailer 85 = .ok (.getfield 53, 3) := by decide +kernel
theorem dX3_stepTrailer_88 : decode cX3_stepTrailer 88 = .ok (.iload_n 2, 1) := by decide +kernel
theorem dX3_stepTrailer_89 : decode cX3_stepTrailer 89 = .ok (.invokevirtual 243, 3) := by decide +kernel
theorem dX3_stepTrailer_92 : decode cX3_stepTrailer 92 = .ok (.goto 65, 3) := by decide +kernel
theorem dX3_stepTrailer_95 : decode cX3_stepTrailer 95 = .ok (.iload_n 1, 1) := by decide +kernel
theorem dX3_stepTrailer_96 : decode cX3_stepTrailer 96 = .ok (.bipush 7, 2) := by decide +kernel
theorem dX3_stepTrailer_98 : decode cX3_stepTrailer 98 = .ok (.if_icmp .eq 9, 3) := by decide +kernel
theorem dX3_stepTrailer_101 : decode cX3_stepTrailer 101 = .ok (.iload_n 1, 1) := by decide +kernel
theorem dX3_stepTrailer_102 : decode cX3_stepTrailer 102 = .ok (.bipush 8, 2) := by decide +kernel
theorem dX3_stepTrailer_104 : decode cX3_stepTrailer 104 = .ok (.if_icmp .ne 42, 3) := by decide +kernel
theorem dX3_stepTrailer_107 : decode cX3_stepTrailer 107 = .ok (.aload_n 0, 1) := by decide +kernel
theorem dX3_stepTrailer_108 : decode cX3_stepTrailer 108 = .ok (.getfield 31, 3) := by decide +kernel
theorem dX3_stepTrailer_111 : decode cX3_stepTrailer 111 = .ok (.aload_n 0, 1) := by decide +kernel
theorem dX3_stepTrailer_112 : decode cX3_stepTrailer 112 = .ok (.getfield 22, 3) := by decide +kernel
theorem dX3_stepTrailer_115 : decode cX3_stepTrailer 115 = .ok (.aload_n 0, 1) := by decide +kernel
theorem dX3_stepTrailer_116 : decode cX3_stepTrailer 116 = .ok (.getfield 53, 3) := by decide +kernel
theorem dX3_stepTrailer_119 : decode cX3_stepTrailer 119 = .ok (.invokevirtual 159, 3) := by decide +kernel
theorem dX3_stepTrailer_122 : decode cX3_stepTrailer 122 = .ok (.aload_n 0, 1) := by decide +kernel
theorem dX3_stepTrailer_123 : decode cX3_stepTrailer 123 = .ok (.getfield 22, 3) := by decide +kernel
theorem dX3_stepTrailer_126 : decode cX3_stepTrailer 126 = .ok (.aload_n 0, 1) := by decide +kernel
theorem dX3_stepTrailer_127 : decode cX3_stepTrailer 127 = .ok (.getfield 53, 3) := by decide +kernel
theorem dX3_stepTrailer_130 : decode cX3_stepTrailer 130 = .ok (.invokevirtual 171, 3) := by decide +kernel
theorem dX3_stepTrailer_133 : decode cX3_stepTrailer 133 = .ok (.invokevirtual 265, 3) := by decide +kernel
theorem dX3_stepTrailer_136 : decode cX3_stepTrailer 136 = .ok (.aload_n 0, 1) := by decide +kernel
theorem dX3_stepTrailer_137 : decode cX3_stepTrailer 137 = .ok (.getfield 22, 3) := by decide +kernel
theorem dX3_stepTrailer_140 : decode cX3_stepTrailer 140 = .ok (.invokevirtual 250, 3) := by decide +kernel
theorem dX3_stepTrailer_143 : decode cX3_stepTrailer 143 = .ok (.goto 14, 3) := by decide +kernel
theorem dX3_stepTrailer_146 : decode cX3_stepTrailer 146 = .ok (.aload_n 0, 1) := by decide +kernel
theorem dX3_stepTrailer_147 : decode cX3_stepTrailer 147 = .ok (.getfield 22, 3) := by decide +kernel
theorem dX3_stepTrailer_150 : decode cX3_stepTrailer 150 = .ok (.aload_n 0, 1) := by decide +kernel
theorem dX3_stepTrailer_151 : decode cX3_stepTrailer 151 = .ok (.getfield 53, 3) := by decide +kernel
theorem dX3_stepTrailer_154 : decode cX3_stepTrailer 154 = .ok (.invokevirtual 253, 3) := by decide +kernel
theorem dX3_stepTrailer_157 : decode cX3_stepTrailer 157 = .ok (.return_, 1) := by decide +kernel
theorem dX3_passPoint_0 : decode cX3_passPoint 0 = .ok (.aload_n 0, 1) := by decide +kernel
theorem dX3_passPoint_1 : decode cX3_passPoint 1 = .ok (.getfield 45, 3) := by decide +kernel
theorem dX3_passPoint_4 : decode cX3_passPoint 4 = .ok (.dup, 1) := by decide +kernel
theorem dX3_passPoint_5 : decode cX3_passPoint 5 = .ok (.getfield 268, 3) := by decide +kernel
theorem dX3_passPoint_8 : decode cX3_passPoint 8 = .ok (.iconst 1, 1) := by decide +kernel
theorem dX3_passPoint_9 : decode cX3_passPoint 9 = .ok (.iadd, 1) := by decide +kernel
theorem dX3_passPoint_10 : decode cX3_passPoint 10 = .ok (.putfield 268, 3) := by decide +kernel
theorem dX3_passPoint_13 : decode cX3_passPoint 13 = .ok (.aload_n 0, 1) := by decide +kernel
theorem dX3_passPoint_14 : decode cX3_passPoint 14 = .ok (.getfield 45, 3) := by decide +kernel
theorem dX3_passPoint_17 : decode cX3_passPoint 17 = .ok (.iconst 0, 1) := by decide +kernel
theorem dX3_passPoint_18 : decode cX3_passPoint 18 = .ok (.putfield 271, 3) := by decide +kernel
theorem dX3_passPoint_21 : decode cX3_passPoint 21 = .ok (.aload_n 0, 1) := by decide +kernel
theorem dX3_passPoint_22 : decode cX3_passPoint 22 = .ok (.getfield 45, 3) := by decide +kernel
theorem dX3_passPoint_25 : decode cX3_passPoint 25 = .ok (.dup, 1) := by decide +kernel
theorem dX3_passPoint_26 : decode cX3_passPoint 26 = .ok (.getfield 274, 3) := by decide +kernel
theorem dX3_passPoint_29 : decode cX3_passPoint 29 = .ok (.aload_n 0, 1) := by decide +kernel
theorem dX3_passPoint_30 : decode cX3_passPoint 30 = .ok (.getfield 18, 3) := by decide +kernel
theorem dX3_passPoint_33 : decode cX3_passPoint 33 = .ok (.getfield 97, 3) := by decide +kernel
theorem dX3_passPoint_36 : decode cX3_passPoint 36 = .ok (.iadd, 1) := by decide +kernel
theorem dX3_passPoint_37 : decode cX3_passPoint 37 = .ok (.putfield 274, 3) := by decide +kernel
theorem dX3_passPoint_40 : decode cX3_passPoint 40 = .ok (.iconst 0, 1) := by decide +kernel
theorem dX3_passPoint_41 : decode cX3_passPoint 41 = .ok (.istore_n 1, 1) := by decide +kernel
theorem dX3_passPoint_42 : decode cX3_passPoint 42 = .ok (.iload_n 1, 1) := by decide +kernel
theorem dX3_passPoint_43 : decode cX3_passPoint 43 = .ok (.aload_n 0, 1) := by decide +kernel
theorem dX3_passPoint_44 : decode cX3_passPoint 44 = .ok (.getfield 31, 3) := by decide +kernel
theorem dX3_passPoint_47 : decode cX3_passPoint 47 = .ok (.getfield 138, 3) := by decide +kernel
theorem dX3_passPoint_50 : decode cX3_passPoint 50 = .ok (.if_icmp .ge 47, 3) := by decide +kernel
theorem dX3_passPoint_53 : decode cX3_passPoint 53 = .ok (.iload_n 1, 1) := by decide +kernel
theorem dX3_passPoint_54 : decode cX3_passPoint 54 = .ok (.bipush 8, 2) := by decide +kernel
theorem dX3_passPoint_56 : decode cX3_passPoint 56 = .ok (.if_icmp .ge 41, 3) := by decide +kernel
theorem dX3_passPoint_59 : decode cX3_passPoint 59 = .ok (.aload_n 0, 1) := by decide +kernel
theorem dX3_passPoint_60 : decode cX3_passPoint 60 = .ok (.getfield 38, 3) := by decide +kernel
theorem dX3_passPoint_63 : decode cX3_passPoint 63 = .ok (.aload_n 0, 1) := by decide +kernel
theorem dX3_passPoint_64 : decode cX3_passPoint 64 = .ok (.getfield 31, 3) := by decide +kernel
theorem dX3_passPoint_67 : decode cX3_passPoint 67 = .ok (.getfield 277, 3) := by decide +kernel
theorem dX3_passPoint_70 : decode cX3_passPoint 70 = .ok (.iload_n 1, 1) := by decide +kernel
theorem dX3_passPoint_71 : decode cX3_passPoint 71 = .ok (.iaload, 1) := by decide +kernel
theorem dX3_passPoint_72 : decode cX3_passPoint 72 = .ok (.aload_n 0, 1) := by decide +kernel
theorem dX3_passPoint_73 : decode cX3_passPoint 73 = .ok (.getfield 31, 3) := by decide +kernel
theorem dX3_passPoint_76 : decode cX3_passPoint 76 = .ok (.getfield 228, 3) := by decide +kernel
theorem dX3_passPoint_79 : decode cX3_passPoint 79 = .ok (.iload_n 1, 1) := by decide +kernel
theorem dX3_passPoint_80 : decode cX3_passPoint 80 = .ok (.iaload, 1) := by decide +kernel
theorem dX3_passPoint_81 : decode cX3_passPoint 81 = .ok (.aload_n 0, 1) := by decide +kernel
theorem dX3_passPoint_82 : decode cX3_passPoint 82 = .ok (.getfield 45, 3) := by decide +kernel
theorem dX3_passPoint_85 : decode cX3_passPoint 85 = .ok (.getfield 268, 3) := by decide +kernel
theorem dX3_passPoint_88 : decode cX3_passPoint 88 = .ok (.invokevirtual 280, 3) := by decide +kernel
theorem dX3_passPoint_91 : decode cX3_passPoint 91 = .ok (.iinc 1 1, 3) := by decide +kernel
theorem dX3_passPoint_94 : decode cX3_passPoint 94 = .ok (.goto (-52), 3) := by decide +kernel
theorem dX3_passPoint_97 : decode cX3_passPoint 97 = .ok (.aload_n 0, 1) := by decide +kernel
theorem dX3_passPoint_98 : decode cX3_passPoint 98 = .ok (.getfield 25, 3) := by decide +kernel
theorem dX3_passPoint_101 : decode cX3_passPoint 101 = .ok (.aload_n 0, 1) := by decide +kernel
theorem dX3_passPoint_102 : decode cX3_passPoint 102 = .ok (.getfield 18, 3) := by decide +kernel
theorem dX3_passPoint_105 : decode cX3_passPoint 105 = .ok (.invokevirtual 284, 3) := by decide +kernel
theorem dX3_passPoint_108 : decode cX3_passPoint 108 = .ok (.aload_n 0, 1) := by decide +kernel
theorem dX3_passPoint_109 : decode cX3_passPoint 109 = .ok (.getfield 18, 3) := by decide +kernel
theorem dX3_passPoint_112 : decode cX3_passPoint 112 = .ok (.iconst 0, 1) := by decide +kernel
theorem dX3_passPoint_113 : decode cX3_passPoint 113 = .ok (.putfield 97, 3) := by decide +kernel
theorem dX3_passPoint_116 : decode cX3_passPoint 116 = .ok (.aload_n 0, 1) := by decide +kernel
theorem dX3_passPoint_117 : decode cX3_passPoint 117 = .ok (.getfield 22, 3) := by decide +kernel
theorem dX3_passPoint_120 : decode cX3_passPoint 120 = .ok (.iconst 0, 1) := by decide +kernel
theorem dX3_passPoint_121 : decode cX3_passPoint 121 = .ok (.putfield 97, 3) := by decide +kernel
theorem dX3_passPoint_124 : decode cX3_passPoint 124 = .ok (.aload_n 0, 1) := by decide +kernel
theorem dX3_passPoint_125 : decode cX3_passPoint 125 = .ok (.getfield 31, 3) := by decide +kernel
theorem dX3_passPoint_128 : decode cX3_passPoint 128 = .ok (.invokevirtual 69, 3) := by decide +kernel
theorem dX3_passPoint_131 : decode cX3_passPoint 131 = .ok (.aload_n 0, 1) := by decide +kernel
theorem dX3_passPoint_132 : decode cX3_passPoint 132 = .ok (.aload_n 0, 1) := by decide +kernel
theorem dX3_passPoint_133 : decode cX3_passPoint 133 = .ok (.getfield 18, 3) := by decide +kernel
theorem dX3_passPoint_136 : decode cX3_passPoint 136 = .ok (.aload_n 0, 1) := by decide +kernel
theorem dX3_passPoint_137 : decode cX3_passPoint 137 = .ok (.getfield 53, 3) := by decide +kernel
theorem dX3_passPoint_140 : decode cX3_passPoint 140 = .ok (.invokevirtual 287, 3) := by decide +kernel
theorem dX3_passPoint_143 : decode cX3_passPoint 143 = .ok (.putfield 77, 3) := by decide +kernel
theorem dX3_passPoint_146 : decode cX3_passPoint 146 = .ok (.return_, 1) := by decide +kernel
theorem dX3_raise_0 : decode cX3_raise 0 = .ok (.aload_n 0, 1) := by decide +kernel
theorem dX3_raise_1 : decode cX3_raise 1 = .ok (.getfield 45, 3) := by decide +kernel
theorem dX3_raise_4 : decode cX3_raise 4 = .ok (.iload_n 1, 1) := by decide +kernel
theorem dX3_raise_5 : decode cX3_raise 5 = .ok (.aload_n 0, 1) := by decide +kernel
theorem dX3_raise_6 : decode cX3_raise 6 = .ok (.getfield 18, 3) := by decide +kernel
theorem dX3_raise_9 : decode cX3_raise 9 = .ok (.getfield 97, 3) := by decide +kernel
theorem dX3_raise_12 : decode cX3_raise 12 = .ok (.aload_n 0, 1) := by decide +kernel
theorem dX3_raise_13 : decode cX3_raise 13 = .ok (.getfield 22, 3) := by decide +kernel
theorem dX3_raise_16 : decode cX3_raise 16 = .ok (.getfield 97, 3) := by decide +kernel
theorem dX3_raise_19 : decode cX3_raise 19 = .ok (.invokevirtual 290, 3) := by decide +kernel
theorem dX3_raise_22 : decode cX3_raise 22 = .ok (.aload_n 0, 1) := by decide +kernel
theorem dX3_raise_23 : decode cX3_raise 23 = .ok (.getfield 45, 3) := by decide +kernel
theorem dX3_raise_26 : decode cX3_raise 26 = .ok (.dup, 1) := by decide +kernel
theorem dX3_raise_27 : decode cX3_raise 27 = .ok (.getfield 256, 3) := by decide +kernel
theorem dX3_raise_30 : decode cX3_raise 30 = .ok (.iload_n 1, 1) := by decide +kernel
theorem dX3_raise_31 : decode cX3_raise 31 = .ok (.iconst 3, 1) := by decide +kernel
theorem dX3_raise_32 : decode cX3_raise 32 = .ok (.if_icmp .gt 7, 3) := by decide +kernel
theorem dX3_raise_35 : decode cX3_raise 35 = .ok (.iconst 1, 1) := by decide +kernel
theorem dX3_raise_36 : decode cX3_raise 36 = .ok (.goto 4, 3) := by decide +kernel
theorem dX3_raise_39 : decode cX3_raise 39 = .ok (.iconst 0, 1) := by decide +kernel
theorem dX3_raise_40 : decode cX3_raise 40 = .ok (.iadd, 1) := by decide +kernel
theorem dX3_raise_41 : decode cX3_raise 41 = .ok (.putfield 256, 3) := by decide +kernel
theorem dX3_raise_44 : decode cX3_raise 44 = .ok (.aload_n 0, 1) := by decide +kernel
theorem dX3_raise_45 : decode cX3_raise 45 = .ok (.getfield 18, 3) := by decide +kernel
theorem dX3_raise_48 : decode cX3_raise 48 = .ok (.aload_n 0, 1) := by decide +kernel
theorem dX3_raise_49 : decode cX3_raise 49 = .ok (.getfield 25, 3) := by decide +kernel
theorem dX3_raise_52 : decode cX3_raise 52 = .ok (.invokevirtual 284, 3) := by decide +kernel
theorem dX3_raise_55 : decode cX3_raise 55 = .ok (.aload_n 0, 1) := by decide +kernel
theorem dX3_raise_56 : decode cX3_raise 56 = .ok (.getfield 22, 3) := by decide +kernel
theorem dX3_raise_59 : decode cX3_raise 59 = .ok (.aload_n 0, 1) := by decide +kernel
theorem dX3_raise_60 : decode cX3_raise 60 = .ok (.getfield 25, 3) := by decide +kernel
theorem dX3_raise_63 : decode cX3_raise 63 = .ok (.invokevirtual 284, 3) := by decide +kernel
theorem dX3_raise_66 : decode cX3_raise 66 = .ok (.aload_n 0, 1) := by decide +kernel
theorem dX3_raise_67 : decode cX3_raise 67 = .ok (.getfield 31, 3) := by decide +kernel
theorem dX3_raise_70 : decode cX3_raise 70 = .ok (.invokevirtual 69, 3) := by decide +kernel
theorem dX3_raise_73 : decode cX3_raise 73 = .ok (.aload_n 0, 1) := by decide +kernel
theorem dX3_raise_74 : decode cX3_raise 74 = .ok (.aload_n 0, 1) := by decide +kernel
theorem dX3_raise_75 : decode cX3_raise 75 = .ok (.getfield 45, 3) := by decide +kernel
theorem dX3_raise_78 : decode cX3_raise 78 = .ok (.getfield 271, 3) := by decide +kernel
theorem dX3_raise_81 : decode cX3_raise 81 = .ok (.aload_n 0, 1) := by decide +kernel
theorem dX3_raise_82 : decode cX3_raise 82 = .ok (.getfield 9, 3) := by decide +kernel
theorem dX3_raise_85 : decode cX3_raise 85 = .ok (.bipush 6, 2) := by decide +kernel
theorem dX3_raise_87 : decode cX3_raise 87 = .ok (.iaload, 1) := by decide +kernel
theorem dX3_raise_88 : decode cX3_raise 88 = .ok (.if_icmp .lt 7, 3) := by decide +kernel
theorem dX3_raise_91 : decode cX3_raise 91 = .ok (.iconst 1, 1) := by decide +kernel
theorem dX3_raise_92 : decode cX3_raise 92 = .ok (.goto 4, 3) := by decide +kernel
theorem dX3_raise_95 : decode cX3_raise 95 = .ok (.iconst 0, 1) := by decide +kernel
theorem dX3_raise_96 : decode cX3_raise 96 = .ok (.putfield 81, 3) := by decide +kernel
theorem dX3_raise_99 : decode cX3_raise 99 = .ok (.return_, 1) := by decide +kernel
theorem dX4_init_0 : decode cX4_init 0 = .ok (.aload_n 0, 1) := by decide +kernel
theorem dX4_init_1 : decode cX4_init 1 = .ok (.invokespecial 3, 3) := by decide +kernel
theorem dX4_init_4 : decode cX4_init 4 = .ok (.aload_n 0, 1) := by decide +kernel
theorem dX4_init_5 : decode cX4_init 5 = .ok (.bipush 64, 2) := by decide +kernel
theorem dX4_init_7 : decode cX4_init 7 = .ok (.newarray .int, 2) := by decide +kernel
theorem dX4_init_9 : decode cX4_init 9 = .ok (.putfield 9, 3) := by decide +kernel
theorem dX4_init_12 : decode cX4_init 12 = .ok (.aload_n 0, 1) := by decide +kernel
theorem dX4_init_13 : decode cX4_init 13 = .ok (.bipush 64, 2) := by decide +kernel
theorem dX4_init_15 : decode cX4_init 15 = .ok (.newarray .int, 2) := by decide +kernel
theorem dX4_init_17 : decode cX4_init 17 = .ok (.putfield 15, 3) := by decide +kernel
theorem dX4_init_20 : decode cX4_init 20 = .ok (.aload_n 0, 1) := by decide +kernel
theorem dX4_init_21 : decode cX4_init 21 = .ok (.bipush 64, 2) := by decide +kernel
theorem dX4_init_23 : decode cX4_init 23 = .ok (.newarray .int, 2) := by decide +kernel
theorem dX4_init_25 : decode cX4_init 25 = .ok (.putfield 18, 3) := by decide +kernel
theorem dX4_init_28 : decode cX4_init 28 = .ok (.aload_n 0, 1) := by decide +kernel
theorem dX4_init_29 : decode cX4_init 29 = .ok (.bipush 64, 2) := by decide +kernel
theorem dX4_init_31 : decode cX4_init 31 = .ok (.newarray .int, 2) := by decide +kernel
theorem dX4_init_33 : decode cX4_init 33 = .ok (.putfield 21, 3) := by decide +kernel
theorem dX4_init_36 : decode cX4_init 36 = .ok (.aload_n 0, 1) := by decide +kernel
theorem dX4_init_37 : decode cX4_init 37 = .ok (.bipush 8, 2) := by decide +kernel
theorem dX4_init_39 : decode cX4_init 39 = .ok (.newarray .int, 2) := by decide +kernel
theorem dX4_init_41 : decode cX4_init 41 = .ok (.putfield 24, 3) := by decide +kernel
theorem dX4_init_44 : decode cX4_init 44 = .ok (.aload_n 0, 1) := by decide +kernel
theorem dX4_init_45 : decode cX4_init 45 = .ok (.bipush 32, 2) := by decide +kernel
theorem dX4_init_47 : decode cX4_init 47 = .ok (.newarray .int, 2) := by decide +kernel
theorem dX4_init_49 : decode cX4_init 49 = .ok (.putfield 27, 3) := by decide +kernel
theorem dX4_init_52 : decode cX4_init 52 = .ok (.aload_n 0, 1) := by decide +kernel
theorem dX4_init_53 : decode cX4_init 53 = .ok (.sipush 140, 3) := by decide +kernel
theorem dX4_init_56 : decode cX4_init 56 = .ok (.newarray .int, 2) := by decide +kernel
theorem dX4_init_58 : decode cX4_init 58 = .ok (.putfield 30, 3) := by decide +kernel
theorem dX4_init_61 : decode cX4_init 61 = .ok (.aload_n 0, 1) := by decide +kernel
theorem dX4_init_62 : decode cX4_init 62 = .ok (.sipush 140, 3) := by decide +kernel
theorem dX4_init_65 : decode cX4_init 65 = .ok (.newarray .int, 2) := by decide +kernel
theorem dX4_init_67 : decode cX4_init 67 = .ok (.putfield 33, 3) := by decide +kernel
theorem dX4_init_70 : decode cX4_init 70 = .ok (.aload_n 0, 1) := by decide +kernel
theorem dX4_init_71 : decode cX4_init 71 = .ok (.invokevirtual 36, 3) := by decide +kernel
theorem dX4_init_74 : decode cX4_init 74 = .ok (.return_, 1) := by decide +kernel
theorem dX4_clear_0 : decode cX4_clear 0 = .ok (.iconst 0, 1) := by decide +kernel
theorem dX4_clear_1 : decode cX4_clear 1 = .ok (.istore_n 1, 1) := by decide +kernel
theorem dX4_clear_2 : decode cX4_clear 2 = .ok (.iload_n 1, 1) := by decide +kernel
theorem dX4_clear_3 : decode cX4_clear 3 = .ok (.bipush 64, 2) := by decide +kernel
theorem dX4_clear_5 : decode cX4_clear 5 = .ok (.if_icmp .ge 16, 3) := by decide +kernel
theorem dX4_clear_8 : decode cX4_clear 8 = .ok (.aload_n 0, 1) := by decide +kernel
theorem dX4_clear_9 : decode cX4_clear 9 = .ok (.getfield 9, 3) := by decide +kernel
theorem dX4_clear_12 : decode cX4_clear 12 = .ok (.iload_n 1, 1) := by decide +kernel
theorem dX4_clear_13 : decode cX4_clear 13 = .ok (.iconst 0, 1) := by decide +kernel
theorem dX4_clear_14 : decode cX4_clear 14 = .ok (.iastore, 1) := by decide +kernel
theorem dX4_clear_15 : decode cX4_clear 15 = .ok (.iinc 1 1, 3) := by decide +kernel
theorem dX4_clear_18 : decode cX4_clear 18 = .ok (.goto (-16), 3) := by decide +kernel
theorem dX4_clear_21 : decode cX4_clear 21 = .ok (.iconst 0, 1) := by decide +kernel
theorem dX4_clear_22 : decode cX4_clear 22 = .ok (.istore_n 1, 1) := by decide +kernel
theorem dX4_clear_23 : decode cX4_clear 23 = .ok (.iload_n 1, 1) := by decide +kernel
theorem dX4_clear_24 : decode cX4_clear 24 = .ok (.bipush 32, 2) := by decide +kernel
theorem dX4_clear_26 : decode cX4_clear 26 = .ok (.if_icmp .ge 16, 3) := by decide +kernel
theorem dX4_clear_29 : decode cX4_clear 29 = .ok (.aload_n 0, 1) := by decide +kernel
theorem dX4_clear_30 : decode cX4_clear 30 = .ok (.getfield 27, 3) := by decide +kernel
theorem dX4_clear_33 : decode cX4_clear 33 = .ok (.iload_n 1, 1) := by decide +kernel
theorem dX4_clear_34 : decode cX4_clear 34 = .ok (.iconst 0, 1) := by decide +kernel
theorem dX4_clear_35 : decode cX4_clear 35 = .ok (.iastore, 1) := by decide +kernel
theorem dX4_clear_36 : decode cX4_clear 36 = .ok (.iinc 1 1, 3) := by decide +kernel
theorem dX4_clear_39 : decode cX4_clear 39 = .ok (.goto (-16), 3) := by decide +kernel
theorem dX4_clear_42 : decode cX4_clear 42 = .ok (.aload_n 0, 1) := by decide +kernel
theorem dX4_clear_43 : decode cX4_clear 43 = .ok (.getfield 24, 3) := by decide +kernel
theorem dX4_clear_46 : decode cX4_clear 46 = .ok (.iconst 0, 1) := by decide +kernel
theorem dX4_clear_47 : decode cX4_clear 47 = .ok (.bipush 8, 2) := by decide +kernel
theorem dX4_clear_49 : decode cX4_clear 49 = .ok (.iastore, 1) := by decide +kernel
theorem dX4_clear_50 : decode cX4_clear 50 = .ok (.aload_n 0, 1) := by decide +kernel
theorem dX4_clear_51 : decode cX4_clear 51 = .ok (.getfield 24, 3) := by decide +kernel
theorem dX4_clear_54 : decode cX4_clear 54 = .ok (.iconst 1, 1) := by decide +kernel
theorem dX4_clear_55 : decode cX4_clear 55 = .ok (.iconst 1, 1) := by decide +kernel
theorem dX4_clear_56 : decode cX4_clear 56 = .ok (.iastore, 1) := by decide +kernel
theorem dX4_clear_57 : decode cX4_clear 57 = .ok (.aload_n 0, 1) := by decide +kernel
theorem dX4_clear_58 : decode cX4_clear 58 = .ok (.getfield 24, 3) := by decide +kernel
theorem dX4_clear_61 : decode cX4_clear 61 = .ok (.iconst 2, 1) := by decide +kernel
theorem dX4_clear_62 : decode cX4_clear 62 = .ok (.iconst 4, 1) := by decide +kernel
theorem dX4_clear_63 : decode cX4_clear 63 = .ok (.iastore, 1) := by decide +kernel
theorem dX4_clear_64 : decode cX4_clear 64 = .ok (.aload_n 0, 1) := by decide +kernel
theorem dX4_clear_65 : decode cX4_clear 65 = .ok (.getfield 24, 3) := by decide +kernel
theorem dX4_clear_68 : decode cX4_clear 68 = .ok (.iconst 3, 1) := by decide +kernel
theorem dX4_clear_69 : decode cX4_clear 69 = .ok (.iconst 4, 1) := by decide +kernel
theorem dX4_clear_70 : decode cX4_clear 70 = .ok (.iastore, 1) := by decide +kernel
theorem dX4_clear_71 : decode cX4_clear 71 = .ok (.aload_n 0, 1) := by decide +kernel
theorem dX4_clear_72 : decode cX4_clear 72 = .ok (.getfield 24, 3) := by decide +kernel
theorem dX4_clear_75 : decode cX4_clear 75 = .ok (.iconst 4, 1) := by decide +kernel
theorem dX4_clear_76 : decode cX4_clear 76 = .ok (.iconst 4, 1) := by decide +kernel
theorem dX4_clear_77 : decode cX4_clear 77 = .ok (.iastore, 1) := by decide +kernel
theorem dX4_clear_78 : decode cX4_clear 78 = .ok (.aload_n 0, 1) := by decide +kernel
theorem dX4_clear_79 : decode cX4_clear 79 = .ok (.getfield 24, 3) := by decide +kernel
theorem dX4_clear_82 : decode cX4_clear 82 = .ok (.iconst 5, 1) := by decide +kernel
theorem dX4_clear_83 : decode cX4_clear 83 = .ok (.iconst 4, 1) := by decide +kernel
theorem dX4_clear_84 : decode cX4_clear 84 = .ok (.iastore, 1) := by decide +kernel
theorem dX4_clear_85 : decode cX4_clear 85 = .ok (.aload_n 0, 1) := by decide +kernel
theorem dX4_clear_86 : decode cX4_clear 86 = .ok (.getfield 24, 3) := by decide +kernel
theorem dX4_clear_89 : decode cX4_clear 89 = .ok (.bipush 6, 2) := by decide +kernel
theorem dX4_clear_91 : decode cX4_clear 91 = .ok (.iconst 3, 1) := by decide +kernel
theorem dX4_clear_92 : decode cX4_clear 92 = .ok (.iastore, 1) := by decide +kernel
theorem dX4_clear_93 : decode cX4_clear 93 = .ok (.aload_n 0, 1) := by decide +kernel
theorem dX4_clear_94 : decode cX4_clear 94 = .ok (.getfield 24, 3) := by decide +kernel
theorem dX4_clear_97 : decode cX4_clear 97 = .ok (.bipush 7, 2) := by decide +kernel
theorem dX4_clear_99 : decode cX4_clear 99 = .ok (.iconst 0, 1) := by decide +kernel
theorem dX4_clear_100 : decode cX4_clear 100 = .ok (.iastore, 1) := by decide +kernel
theorem dX4_clear_101 : decode cX4_clear 101 = .ok (.aload_n 0, 1) := by decide +kernel
theorem dX4_clear_102 : decode cX4_clear 102 = .ok (.iconst 0, 1) := by decide +kernel
theorem dX4_clear_103 : decode cX4_clear 103 = .ok (.putfield 39, 3) := by decide +kernel
theorem dX4_clear_106 : decode cX4_clear 106 = .ok (.aload_n 0, 1) := by decide +kernel
theorem dX4_clear_107 : decode cX4_clear 107 = .ok (.iconst 0, 1) := by decide +kernel
theorem dX4_clear_108 : decode cX4_clear 108 = .ok (.putfield 43, 3) := by decide +kernel
theorem dX4_clear_111 : decode cX4_clear 111 = .ok (.aload_n 0, 1) := by decide +kernel
theorem dX4_clear_112 : decode cX4_clear 112 = .ok (.iconst 0, 1) := by decide +kernel
theorem dX4_clear_113 : decode cX4_clear 113 = .ok (.putfield 46, 3) := by decide +kernel
theorem dX4_clear_116 : decode cX4_clear 116 = .ok (.return_, 1) := by decide +kernel
theorem dX4_placeOf_0 : decode cX4_placeOf 0 = .ok (.iconst 0, 1) := by decide +kernel
theorem dX4_placeOf_1 : decode cX4_placeOf 1 = .ok (.istore_n 2, 1) := by decide +kernel
theorem dX4_placeOf_2 : decode cX4_placeOf 2 = .ok (.iload_n 2, 1) := by decide +kernel
theorem dX4_placeOf_3 : decode cX4_placeOf 3 = .ok (.aload_n 0, 1) := by decide +kernel
theorem dX4_placeOf_4 : decode cX4_placeOf 4 = .ok (.getfield 39, 3) := by decide +kernel
theorem dX4_placeOf_7 : decode cX4_placeOf 7 = .ok (.if_icmp .ge 33, 3) := by decide +kernel
theorem dX4_placeOf_10 : decode cX4_placeOf 10 = .ok (.iload_n 2, 1) := by decide +kernel
theorem dX4_placeOf_11 : decode cX4_placeOf 11 = .ok (.sipush 140, 3) := by decide +kernel
theorem dX4_placeOf_14 : decode cX4_placeOf 14 = .ok (.if_icmp .ge 26, 3) := by decide +kernel
theorem dX4_placeOf_17 : decode cX4_placeOf 17 = .ok (.aload_n 0, 1) := by decide +kernel
theorem dX4_placeOf_18 : decode cX4_placeOf 18 = .ok (.getfield 30, 3) := by decide +kernel
theorem dX4_placeOf_21 : decode cX4_placeOf 21 = .ok (.iload_n 2, 1) := by decide +kernel
theorem dX4_placeOf_22 : decode cX4_placeOf 22 = .ok (.iaload, 1) := by decide +kernel
theorem dX4_placeOf_23 : decode cX4_placeOf 23 = .ok (.iload_n 1, 1) := by decide +kernel
theorem dX4_placeOf_24 : decode cX4_placeOf 24 = .ok (.if_icmp .ne 10, 3) := by decide +kernel
theorem dX4_placeOf_27 : decode cX4_placeOf 27 = .ok (.aload_n 0, 1) := by decide +kernel
theorem dX4_placeOf_28 : decode cX4_placeOf 28 = .ok (.getfield 33, 3) := by decide +kernel
theorem dX4_placeOf_31 : decode cX4_placeOf 31 = .ok (.iload_n 2, 1) := by decide +kernel
theorem dX4_placeOf_32 : decode cX4_placeOf 32 = .ok (.iaload, 1) := by decide +kernel
theorem dX4_placeOf_33 : decode cX4_placeOf 33 = .ok (.ireturn, 1) := by decide +kernel
theorem dX4_placeOf_34 : decode cX4_placeOf 34 = .ok (.iinc 2 1, 3) := by decide +kernel
theorem dX4_placeOf_37 : decode cX4_placeOf 37 = .ok (.goto (-35), 3) := by decide +kernel
theorem dX4_placeOf_40 : decode cX4_placeOf 40 = .ok (.iconst (-1), 1) := by decide +kernel
theorem dX4_placeOf_41 : decode cX4_placeOf 41 = .ok (.ireturn, 1) := by decide +kernel
theorem dX4_nameNext_0 : decode cX4_nameNext 0 = .ok (.aload_n 0, 1) := by decide +kernel
theorem dX4_nameNext_1 : decode cX4_nameNext 1 = .ok (.getfield 39, 3) := by decide +kernel
theorem dX4_nameNext_4 : decode cX4_nameNext 4 = .ok (.ifCond .lt 46, 3) := by decide +kernel
theorem dX4_nameNext_7 : decode cX4_nameNext 7 = .ok (.aload_n 0, 1) := by decide +kernel
theorem dX4_nameNext_8 : decode cX4_nameNext 8 = .ok (.getfield 39, 3) := by decide +kernel
theorem dX4_nameNext_11 : decode cX4_nameNext 11 = .ok (.sipush 140, 3) := by decide +kernel
theorem dX4_nameNext_14 : decode cX4_nameNext 14 = .ok (.if_icmp .ge 36, 3) := by decide +kernel
theorem dX4_nameNext_17 : decode cX4_nameNext 17 = .ok (.aload_n 0, 1) := by decide +kernel
theorem dX4_nameNext_18 : decode cX4_nameNext 18 = .ok (.getfield 30, 3) := by decide +kernel
theorem dX4_nameNext_21 : decode cX4_nameNext 21 = .ok (.aload_n 0, 1) := by decide +kernel
theorem dX4_nameNext_22 : decode cX4_nameNext 22 = .ok (.getfield 39, 3) := by decide +kernel
theorem dX4_nameNext_25 : decode cX4_nameNext 25 = .ok (.iload_n 1, 1) := by decide +kernel
theorem dX4_nameNext_26 : decode cX4_nameNext 26 = .ok (.iastore, 1) := by decide +kernel
theorem dX4_nameNext_27 : decode cX4_nameNext 27 = .ok (.aload_n 0, 1) := by decide +kernel
theorem dX4_nameNext_28 : decode cX4_nameNext 28 = .ok (.getfield 33, 3) := by decide +kernel
theorem dX4_nameNext_31 : decode cX4_nameNext 31 = .ok (.aload_n 0, 1) := by decide +kernel
theorem dX4_nameNext_32 : decode cX4_nameNext 32 = .ok (.getfield 39, 3) := by decide +kernel
theorem dX4_nameNext_35 : decode cX4_nameNext 35 = .ok (.aload_n 0, 1) := by decide +kernel
theorem dX4_nameNext_36 : decode cX4_nameNext 36 = .ok (.getfield 43, 3) := by decide +kernel
theorem dX4_nameNext_39 : decode cX4_nameNext 39 = .ok (.iastore, 1) := by decide +kernel
theorem dX4_nameNext_40 : decode cX4_nameNext 40 = .ok (.aload_n 0, 1) := by decide +kernel
theorem dX4_nameNext_41 : decode cX4_nameNext 41 = .ok (.dup, 1) := by decide +kernel
theorem dX4_nameNext_42 : decode cX4_nameNext 42 = .ok (.getfield 39, 3) := by decide +kernel
theorem dX4_nameNext_45 : decode cX4_nameNext 45 = .ok (.iconst 1, 1) := by decide +kernel
theorem dX4_nameNext_46 : decode cX4_nameNext 46 = .ok (.iadd, 1) := by decide +kernel
theorem dX4_nameNext_47 : decode cX4_nameNext 47 = .ok (.putfield 39, 3) := by decide +kernel
theorem dX4_nameNext_50 : decode cX4_nameNext 50 = .ok (.return_, 1) := by decide +kernel
theorem dX4_append_0 : decode cX4_append 0 = .ok (.aload_n 0, 1) := by decide +kernel
theorem dX4_append_1 : decode cX4_append 1 = .ok (.getfield 43, 3) := by decide +kernel
theorem dX4_append_4 : decode cX4_append 4 = .ok (.bipush 63, 2) := by decide +kernel
theorem dX4_append_6 : decode cX4_append 6 = .ok (.iand, 1) := by decide +kernel
theorem dX4_append_7 : decode cX4_append 7 = .ok (.istore 5, 2) := by decide +kernel
theorem dX4_append_9 : decode cX4_append 9 = .ok (.aload_n 0, 1) := by decide +kernel
theorem dX4_append_10 : decode cX4_append 10 = .ok (.getfield 9, 3) := by decide +kernel
theorem dX4_append_13 : decode cX4_append 13 = .ok (.iload 5, 2) := by decide +kernel
theorem dX4_append_15 : decode cX4_append 15 = .ok (.iload_n 1, 1) := by decide +kernel
theorem dX4_append_16 : decode cX4_append 16 = .ok (.iastore, 1) := by decide +kernel
theorem dX4_append_17 : decode cX4_append 17 = .ok (.aload_n 0, 1) := by decide +kernel
theorem dX4_append_18 : decode cX4_append 18 = .ok (.getfield 15, 3) := by decide +kernel
theorem dX4_append_21 : decode cX4_append 21 = .ok (.iload 5, 2) := by decide +kernel
theorem dX4_append_23 : decode cX4_append 23 = .ok (.iload_n 2, 1) := by decide +kernel
theorem dX4_append_24 : decode cX4_append 24 = .ok (.iastore, 1) := by decide +kernel
theorem dX4_append_25 : decode cX4_append 25 = .ok (.aload_n 0, 1) := by decide +kernel
theorem dX4_append_26 : decode cX4_append 26 = .ok (.getfield 18, 3) := by decide +kernel
theorem dX4_append_29 : decode cX4_append 29 = .ok (.iload 5, 2) := by decide +kernel
theorem dX4_append_31 : decode cX4_append 31 = .ok (.iload_n 3, 1) := by decide +kernel
theorem dX4_append_32 : decode cX4_append 32 = .ok (.iastore, 1) := by decide +kernel
theorem dX4_append_33 : decode cX4_append 33 = .ok (.aload_n 0, 1) := by decide +kernel
theorem dX4_append_34 : decode cX4_append 34 = .ok (.getfield 21, 3) := by decide +kernel
theorem dX4_append_37 : decode cX4_append 37 = .ok (.iload 5, 2) := by decide +kernel
theorem dX4_append_39 : decode cX4_append 39 = .ok (.iload 4, 2) := by decide +kernel
theorem dX4_append_41 : decode cX4_append 41 = .ok (.iastore, 1) := by decide +kernel
theorem dX4_append_42 : decode cX4_append 42 = .ok (.aload_n 0, 1) := by decide +kernel
theorem dX4_append_43 : decode cX4_append 43 = .ok (.dup, 1) := by decide +kernel
theorem dX4_append_44 : decode cX4_append 44 = .ok (.getfield 43, 3) := by decide +kernel
theorem dX4_append_47 : decode cX4_append 47 = .ok (.iconst 1, 1) := by decide +kernel
theorem dX4_append_48 : decode cX4_append 48 = .ok (.iadd, 1) := by decide +kernel
theorem dX4_append_49 : decode cX4_append 49 = .ok (.putfield 43, 3) := by decide +kernel
theorem dX4_append_52 : decode cX4_append 52 = .ok (.return_, 1) := by decide +kernel
theorem dX5_init_0 : decode cX5_init 0 = .ok (.aload_n 0, 1) := by decide +kernel
theorem dX5_init_1 : decode cX5_init 1 = .ok (.invokespecial 3, 3) := by decide +kernel
theorem dX5_init_4 : decode cX5_init 4 = .ok (.aload_n 0, 1) := by decide +kernel
theorem dX5_init_5 : decode cX5_init 5 = .ok (.bipush 8, 2) := by decide +kernel
theorem dX5_init_7 : decode cX5_init 7 = .ok (.newarray .int, 2) := by decide +kernel
theorem dX5_init_9 : decode cX5_init 9 = .ok (.putfield 9, 3) := by decide +kernel
theorem dX5_init_12 : decode cX5_init 12 = .ok (.aload_n 0, 1) := by decide +kernel
theorem dX5_init_13 : decode cX5_init 13 = .ok (.bipush 8, 2) := by decide +kernel
theorem dX5_init_15 : decode cX5_init 15 = .ok (.newarray .int, 2) := by decide +kernel
theorem dX5_init_17 : decode cX5_init 17 = .ok (.putfield 15, 3) := by decide +kernel
theorem dX5_init_20 : decode cX5_init 20 = .ok (.aload_n 0, 1) := by decide +kernel
theorem dX5_init_21 : decode cX5_init 21 = .ok (.bipush 8, 2) := by decide +kernel
theorem dX5_init_23 : decode cX5_init 23 = .ok (.newarray .int, 2) := by decide +kernel
theorem dX5_init_25 : decode cX5_init 25 = .ok (.putfield 18, 3) := by decide +kernel
theorem dX5_init_28 : decode cX5_init 28 = .ok (.aload_n 0, 1) := by decide +kernel
theorem dX5_init_29 : decode cX5_init 29 = .ok (.bipush 8, 2) := by decide +kernel
theorem dX5_init_31 : decode cX5_init 31 = .ok (.newarray .int, 2) := by decide +kernel
theorem dX5_init_33 : decode cX5_init 33 = .ok (.putfield 21, 3) := by decide +kernel
theorem dX5_init_36 : decode cX5_init 36 = .ok (.aload_n 0, 1) := by decide +kernel
theorem dX5_init_37 : decode cX5_init 37 = .ok (.bipush 8, 2) := by decide +kernel
theorem dX5_init_39 : decode cX5_init 39 = .ok (.newarray .int, 2) := by decide +kernel
theorem dX5_init_41 : decode cX5_init 41 = .ok (.putfield 24, 3) := by decide +kernel
theorem dX5_init_44 : decode cX5_init 44 = .ok (.aload_n 0, 1) := by decide +kernel
theorem dX5_init_45 : decode cX5_init 45 = .ok (.bipush 8, 2) := by decide +kernel
theorem dX5_init_47 : decode cX5_init 47 = .ok (.newarray .int, 2) := by decide +kernel
theorem dX5_init_49 : decode cX5_init 49 = .ok (.putfield 27, 3) := by decide +kernel
theorem dX5_init_52 : decode cX5_init 52 = .ok (.aload_n 0, 1) := by decide +kernel
theorem dX5_init_53 : decode cX5_init 53 = .ok (.bipush 8, 2) := by decide +kernel
theorem dX5_init_55 : decode cX5_init 55 = .ok (.newarray .int, 2) := by decide +kernel
theorem dX5_init_57 : decode cX5_init 57 = .ok (.putfield 30, 3) := by decide +kernel
theorem dX5_init_60 : decode cX5_init 60 = .ok (.return_, 1) := by decide +kernel
theorem dX5_clear_0 : decode cX5_clear 0 = .ok (.aload_n 0, 1) := by decide +kernel
theorem dX5_clear_1 : decode cX5_clear 1 = .ok (.iconst 0, 1) := by decide +kernel
theorem dX5_clear_2 : decode cX5_clear 2 = .ok (.putfield 33, 3) := by decide +kernel
theorem dX5_clear_5 : decode cX5_clear 5 = .ok (.aload_n 0, 1) := by decide +kernel
theorem dX5_clear_6 : decode cX5_clear 6 = .ok (.iconst 0, 1) := by decide +kernel
theorem dX5_clear_7 : decode cX5_clear 7 = .ok (.putfield 37, 3) := by decide +kernel
theorem dX5_clear_10 : decode cX5_clear 10 = .ok (.aload_n 0, 1) := by decide +kernel
theorem dX5_clear_11 : decode cX5_clear 11 = .ok (.iconst 0, 1) := by decide +kernel
theorem dX5_clear_12 : decode cX5_clear 12 = .ok (.putfield 40, 3) := by decide +kernel
theorem dX5_clear_15 : decode cX5_clear 15 = .ok (.aload_n 0, 1) := by decide +kernel
theorem dX5_clear_16 : decode cX5_clear 16 = .ok (.iconst 0, 1) := by decide +kernel
theorem dX5_clear_17 : decode cX5_clear 17 = .ok (.putfield 43, 3) := by decide +kernel
theorem dX5_clear_20 : decode cX5_clear 20 = .ok (.aload_n 0, 1) := by decide +kernel
theorem dX5_clear_21 : decode cX5_clear 21 = .ok (.iconst 0, 1) := by decide +kernel
theorem dX5_clear_22 : decode cX5_clear 22 = .ok (.putfield 46, 3) := by decide +kernel
theorem dX5_clear_25 : decode cX5_clear 25 = .ok (.aload_n 0, 1) := by decide +kernel
theorem dX5_clear_26 : decode cX5_clear 26 = .ok (.iconst 0, 1) := by decide +kernel
theorem dX5_clear_27 : decode cX5_clear 27 = .ok (.putfield 49, 3) := by decide +kernel
theorem dX5_clear_30 : decode cX5_clear 30 = .ok (.return_, 1) := by decide +kernel
theorem dX5_copyFrom_0 : decode cX5_copyFrom 0 = .ok (.aload_n 1, 1) := by decide +kernel
theorem dX5_copyFrom_1 : decode cX5_copyFrom 1 = .ok (.getfield 9, 3) := by decide +kernel
theorem dX5_copyFrom_4 : decode cX5_copyFrom 4 = .ok (.iconst 0, 1) := by decide +kernel
theorem dX5_copyFrom_5 : decode cX5_copyFrom 5 = .ok (.aload_n 0, 1) := by decide +kernel
theorem dX5_copyFrom_6 : decode cX5_copyFrom 6 = .ok (.getfield 9, 3) := by decide +kernel
theorem dX5_copyFrom_9 : decode cX5_copyFrom 9 = .ok (.iconst 0, 1) := by decide +kernel
theorem dX5_copyFrom_10 : decode cX5_copyFrom 10 = .ok (.bipush 8, 2) := by decide +kernel
theorem dX5_copyFrom_12 : decode cX5_copyFrom 12 = .ok (.invokestatic 52, 3) := by decide +kernel
theorem dX5_copyFrom_15 : decode cX5_copyFrom 15 = .ok (.aload_n 1, 1) := by decide +kernel
theorem dX5_copyFrom_16 : decode cX5_copyFrom 16 = .ok (.getfield 15, 3) := by decide +kernel
theorem dX5_copyFrom_19 : decode cX5_copyFrom 19 = .ok (.iconst 0, 1) := by decide +kernel
theorem dX5_copyFrom_20 : decode cX5_copyFrom 20 = .ok (.aload_n 0, 1) := by decide +kernel
theorem dX5_copyFrom_21 : decode cX5_copyFrom 21 = .ok (.getfield 15, 3) := by decide +kernel
theorem dX5_copyFrom_24 : decode cX5_copyFrom 24 = .ok (.iconst 0, 1) := by decide +kernel
theorem dX5_copyFrom_25 : decode cX5_copyFrom 25 = .ok (.bipush 8, 2) := by decide +kernel
theorem dX5_copyFrom_27 : decode cX5_copyFrom 27 = .ok (.invokestatic 52, 3) := by decide +kernel
theorem dX5_copyFrom_30 : decode cX5_copyFrom 30 = .ok (.aload_n 1, 1) := by decide +kernel
theorem dX5_copyFrom_31 : decode cX5_copyFrom 31 = .ok (.getfield 18, 3) := by decide +kernel
theorem dX5_copyFrom_34 : decode cX5_copyFrom 34 = .ok (.iconst 0, 1) := by decide +kernel
theorem dX5_copyFrom_35 : decode cX5_copyFrom 35 = .ok (.aload_n 0, 1) := by decide +kernel
theorem dX5_copyFrom_36 : decode cX5_copyFrom 36 = .ok (.getfield 18, 3) := by decide +kernel
theorem dX5_copyFrom_39 : decode cX5_copyFrom 39 = .ok (.iconst 0, 1) := by decide +kernel
theorem dX5_copyFrom_40 : decode cX5_copyFrom 40 = .ok (.bipush 8, 2) := by decide +kernel
theorem dX5_copyFrom_42 : decode cX5_copyFrom 42 = .ok (.invokestatic 52, 3) := by decide +kernel
theorem dX5_copyFrom_45 : decode cX5_copyFrom 45 = .ok (.aload_n 1, 1) := by decide +kernel
theorem dX5_copyFrom_46 : decode cX5_copyFrom 46 = .ok (.getfield 21, 3) := by decide +kernel
theorem dX5_copyFrom_49 : decode cX5_copyFrom 49 = .ok (.iconst 0, 1) := by decide +kernel
theorem dX5_copyFrom_50 : decode cX5_copyFrom 50 = .ok (.aload_n 0, 1) := by decide +kernel
theorem dX5_copyFrom_51 : decode cX5_copyFrom 51 = .ok (.getfield 21, 3) := by decide +kernel
theorem dX5_copyFrom_54 : decode cX5_copyFrom 54 = .ok (.iconst 0, 1) := by decide +kernel
theorem dX5_copyFrom_55 : decode cX5_copyFrom 55 = .ok (.bipush 8, 2) := by decide +kernel
theorem dX5_copyFrom_57 : decode cX5_copyFrom 57 = .ok (.invokestatic 52, 3) := by decide +kernel
theorem dX5_copyFrom_60 : decode cX5_copyFrom 60 = .ok (.aload_n 1, 1) := by decide +kernel
theorem dX5_copyFrom_61 : decode cX5_copyFrom 61 = .ok (.getfield 24, 3) := by decide +kernel
theorem dX5_copyFrom_64 : decode cX5_copyFrom 64 = .ok (.iconst 0, 1) := by decide +kernel
theorem dX5_copyFrom_65 : decode cX5_copyFrom 65 = .ok (.aload_n 0, 1) := by decide +kernel
theorem dX5_copyFrom_66 : decode cX5_copyFrom 66 = .ok (.getfield 24, 3) := by decide +kernel
theorem dX5_copyFrom_69 : decode cX5_copyFrom 69 = .ok (.iconst 0, 1) := by decide +kernel
theorem dX5_copyFrom_70 : decode cX5_copyFrom 70 = .ok (.bipush 8, 2) := by decide +kernel
theorem dX5_copyFrom_72 : decode cX5_copyFrom 72 = .ok (.invokestatic 52, 3) := by decide +kernel
theorem dX5_copyFrom_75 : decode cX5_copyFrom 75 = .ok (.aload_n 1, 1) := by decide +kernel
theorem dX5_copyFrom_76 : decode cX5_copyFrom 76 = .ok (.getfield 27, 3) := by decide +kernel
theorem dX5_copyFrom_79 : decode cX5_copyFrom 79 = .ok (.iconst 0, 1) := by decide +kernel
theorem dX5_copyFrom_80 : decode cX5_copyFrom 80 = .ok (.aload_n 0, 1) := by decide +kernel
theorem dX5_copyFrom_81 : decode cX5_copyFrom 81 = .ok (.getfield 27, 3) := by decide +kernel
theorem dX5_copyFrom_84 : decode cX5_copyFrom 84 = .ok (.iconst 0, 1) := by decide +kernel
theorem dX5_copyFrom_85 : decode cX5_copyFrom 85 = .ok (.bipush 8, 2) := by decide +kernel
theorem dX5_copyFrom_87 : decode cX5_copyFrom 87 = .ok (.invokestatic 52, 3) := by decide +kernel
theorem dX5_copyFrom_90 : decode cX5_copyFrom 90 = .ok (.aload_n 1, 1) := by decide +kernel
theorem dX5_copyFrom_91 : decode cX5_copyFrom 91 = .ok (.getfield 30, 3) := by decide +kernel
theorem dX5_copyFrom_94 : decode cX5_copyFrom 94 = .ok (.iconst 0, 1) := by decide +kernel
theorem dX5_copyFrom_95 : decode cX5_copyFrom 95 = .ok (.aload_n 0, 1) := by decide +kernel
theorem dX5_copyFrom_96 : decode cX5_copyFrom 96 = .ok (.getfield 30, 3) := by decide +kernel
theorem dX5_copyFrom_99 : decode cX5_copyFrom 99 = .ok (.iconst 0, 1) := by decide +kernel
theorem dX5_copyFrom_100 : decode cX5_copyFrom 100 = .ok (.bipush 8, 2) := by decide +kernel
theorem dX5_copyFrom_102 : decode cX5_copyFrom 102 = .ok (.invokestatic 52, 3) := by decide +kernel
theorem dX5_copyFrom_105 : decode cX5_copyFrom 105 = .ok (.aload_n 0, 1) := by decide +kernel
theorem dX5_copyFrom_106 : decode cX5_copyFrom 106 = .ok (.aload_n 1, 1) := by decide +kernel
theorem dX5_copyFrom_107 : decode cX5_copyFrom 107 = .ok (.getfield 33, 3) := by decide +kernel
theorem dX5_copyFrom_110 : decode cX5_copyFrom 110 = .ok (.putfield 33, 3) := by decide +kernel
theorem dX5_copyFrom_113 : decode cX5_copyFrom 113 = .ok (.aload_n 0, 1) := by decide +kernel
theorem dX5_copyFrom_114 : decode cX5_copyFrom 114 = .ok (.aload_n 1, 1) := by decide +kernel
theorem dX5_copyFrom_115 : decode cX5_copyFrom 115 = .ok (.getfield 37, 3) := by decide +kernel
theorem dX5_copyFrom_118 : decode cX5_copyFrom 118 = .ok (.putfield 37, 3) := by decide +kernel
theorem dX5_copyFrom_121 : decode cX5_copyFrom 121 = .ok (.aload_n 0, 1) := by decide +kernel
theorem dX5_copyFrom_122 : decode cX5_copyFrom 122 = .ok (.aload_n 1, 1) := by decide +kernel
theorem dX5_copyFrom_123 : decode cX5_copyFrom 123 = .ok (.getfield 40, 3) := by decide +kernel
theorem dX5_copyFrom_126 : decode cX5_copyFrom 126 = .ok (.putfield 40, 3) := by decide +kernel
theorem dX5_copyFrom_129 : decode cX5_copyFrom 129 = .ok (.aload_n 0, 1) := by decide +kernel
theorem dX5_copyFrom_130 : decode cX5_copyFrom 130 = .ok (.aload_n 1, 1) := by decide +kernel
theorem dX5_copyFrom_131 : decode cX5_copyFrom 131 = .ok (.getfield 43, 3) := by decide +kernel
theorem dX5_copyFrom_134 : decode cX5_copyFrom 134 = .ok (.putfield 43, 3) := by decide +kernel
theorem dX5_copyFrom_137 : decode cX5_copyFrom 137 = .ok (.aload_n 0, 1) := by decide +kernel
theorem dX5_copyFrom_138 : decode cX5_copyFrom 138 = .ok (.aload_n 1, 1) := by decide +kernel
theorem dX5_copyFrom_139 : decode cX5_copyFrom 139 = .ok (.getfield 46, 3) := by decide +kernel
theorem dX5_copyFrom_142 : decode cX5_copyFrom 142 = .ok (.putfield 46, 3) := by decide +kernel
theorem dX5_copyFrom_145 : decode cX5_copyFrom 145 = .ok (.aload_n 0, 1) := by decide +kernel
theorem dX5_copyFrom_146 : decode cX5_copyFrom 146 = .ok (.aload_n 1, 1) := by decide +kernel
theorem dX5_copyFrom_147 : decode cX5_copyFrom 147 = .ok (.getfield 49, 3) := by decide +kernel
theorem dX5_copyFrom_150 : decode cX5_copyFrom 150 = .ok (.putfield 49, 3) := by decide +kernel
theorem dX5_copyFrom_153 : decode cX5_copyFrom 153 = .ok (.return_, 1) := by decide +kernel
theorem dX5_addLoad_0 : decode cX5_addLoad 0 = .ok (.aload_n 0, 1) := by decide +kernel
theorem dX5_addLoad_1 : decode cX5_addLoad 1 = .ok (.getfield 33, 3) := by decide +kernel
theorem dX5_addLoad_4 : decode cX5_addLoad 4 = .ok (.aload_n 0, 1) := by decide +kernel
theorem dX5_addLoad_5 : decode cX5_addLoad 5 = .ok (.getfield 37, 3) := by decide +kernel
theorem dX5_addLoad_8 : decode cX5_addLoad 8 = .ok (.iadd, 1) := by decide +kernel
theorem dX5_addLoad_9 : decode cX5_addLoad 9 = .ok (.bipush 7, 2) := by decide +kernel
theorem dX5_addLoad_11 : decode cX5_addLoad 11 = .ok (.iand, 1) := by decide +kernel
theorem dX5_addLoad_12 : decode cX5_addLoad 12 = .ok (.istore_n 3, 1) := by decide +kernel
theorem dX5_addLoad_13 : decode cX5_addLoad 13 = .ok (.aload_n 0, 1) := by decide +kernel
theorem dX5_addLoad_14 : decode cX5_addLoad 14 = .ok (.getfield 9, 3) := by decide +kernel
theorem dX5_addLoad_17 : decode cX5_addLoad 17 = .ok (.iload_n 3, 1) := by decide +kernel
theorem dX5_addLoad_18 : decode cX5_addLoad 18 = .ok (.iload_n 1, 1) := by decide +kernel
theorem dX5_addLoad_19 : decode cX5_addLoad 19 = .ok (.iastore, 1) := by decide +kernel
theorem dX5_addLoad_20 : decode cX5_addLoad 20 = .ok (.aload_n 0, 1) := by decide +kernel
theorem dX5_addLoad_21 : decode cX5_addLoad 21 = .ok (.getfield 15, 3) := by decide +kernel
theorem dX5_addLoad_24 : decode cX5_addLoad 24 = .ok (.iload_n 3, 1) := by decide +kernel
theorem dX5_addLoad_25 : decode cX5_addLoad 25 = .ok (.iload_n 2, 1) := by decide +kernel
theorem dX5_addLoad_26 : decode cX5_addLoad 26 = .ok (.iastore, 1) := by decide +kernel
theorem dX5_addLoad_27 : decode cX5_addLoad 27 = .ok (.aload_n 0, 1) := by decide +kernel
theorem dX5_addLoad_28 : decode cX5_addLoad 28 = .ok (.dup, 1) := by decide +kernel
theorem dX5_addLoad_29 : decode cX5_addLoad 29 = .ok (.getfield 37, 3) := by decide +kernel
theorem dX5_addLoad_32 : decode cX5_addLoad 32 = .ok (.iconst 1, 1) := by decide +kernel
theorem dX5_addLoad_33 : decode cX5_addLoad 33 = .ok (.iadd, 1) := by decide +kernel
theorem dX5_addLoad_34 : decode cX5_addLoad 34 = .ok (.putfield 37, 3) := by decide +kernel
theorem dX5_addLoad_37 : decode cX5_addLoad 37 = .ok (.return_, 1) := by decide +kernel
theorem dX5_firstLoadAddress_0 : decode cX5_firstLoadAddress 0 = .ok (.aload_n 0, 1) := by decide +kernel
theorem dX5_firstLoadAddress_1 : decode cX5_firstLoadAddress 1 = .ok (.getfield 9, 3) := by decide +kernel
theorem dX5_firstLoadAddress_4 : decode cX5_firstLoadAddress 4 = .ok (.aload_n 0, 1) := by decide +kernel
theorem dX5_firstLoadAddress_5 : decode cX5_firstLoadAddress 5 = .ok (.getfield 33, 3) := by decide +kernel
theorem dX5_firstLoadAddress_8 : decode cX5_firstLoadAddress 8 = .ok (.bipush 7, 2) := by decide +kernel
theorem dX5_firstLoadAddress_10 : decode cX5_firstLoadAddress 10 = .ok (.iand, 1) := by decide +kernel
theorem dX5_firstLoadAddress_11 : decode cX5_firstLoadAddress 11 = .ok (.iaload, 1) := by decide +kernel
theorem dX5_firstLoadAddress_12 : decode cX5_firstLoadAddress 12 = .ok (.ireturn, 1) := by decide +kernel
theorem dX5_removeLoad_0 : decode cX5_removeLoad 0 = .ok (.aload_n 0, 1) := by decide +kernel
theorem dX5_removeLoad_1 : decode cX5_removeLoad 1 = .ok (.getfield 15, 3) := by decide +kernel
theorem dX5_removeLoad_4 : decode cX5_removeLoad 4 = .ok (.aload_n 0, 1) := by decide +kernel
theorem dX5_removeLoad_5 : decode cX5_removeLoad 5 = .ok (.getfield 33, 3) := by decide +kernel
theorem dX5_removeLoad_8 : decode cX5_removeLoad 8 = .ok (.bipush 7, 2) := by decide +kernel
theorem dX5_removeLoad_10 : decode cX5_removeLoad 10 = .ok (.iand, 1) := by decide +kernel
theorem dX5_removeLoad_11 : decode cX5_removeLoad 11 = .ok (.iaload, 1) := by decide +kernel
theorem dX5_removeLoad_12 : decode cX5_removeLoad 12 = .ok (.istore_n 1, 1) := by decide +kernel
theorem dX5_removeLoad_13 : decode cX5_removeLoad 13 = .ok (.aload_n 0, 1) := by decide +kernel
theorem dX5_removeLoad_14 : decode cX5_removeLoad 14 = .ok (.aload_n 0, 1) := by decide +kernel
theorem dX5_removeLoad_15 : decode cX5_removeLoad 15 = .ok (.getfield 33, 3) := by decide +kernel
theorem dX5_removeLoad_18 : decode cX5_removeLoad 18 = .ok (.iconst 1, 1) := by decide +kernel
theorem dX5_removeLoad_19 : decode cX5_removeLoad 19 = .ok (.iadd, 1) := by decide +kernel
theorem dX5_removeLoad_20 : decode cX5_removeLoad 20 = .ok (.bipush 7, 2) := by decide +kernel
theorem dX5_removeLoad_22 : decode cX5_removeLoad 22 = .ok (.iand, 1) := by decide +kernel
theorem dX5_removeLoad_23 : decode cX5_removeLoad 23 = .ok (.putfield 33, 3) := by decide +kernel
theorem dX5_removeLoad_26 : decode cX5_removeLoad 26 = .ok (.aload_n 0, 1) := by decide +kernel
theorem dX5_removeLoad_27 : decode cX5_removeLoad 27 = .ok (.dup, 1) := by decide +kernel
theorem dX5_removeLoad_28 : decode cX5_removeLoad 28 = .ok (.getfield 37, 3) := by decide +kernel
theorem dX5_removeLoad_31 : decode cX5_removeLoad 31 = .ok (.iconst 1, 1) := by decide +kernel
theorem dX5_removeLoad_32 : decode cX5_removeLoad 32 = .ok (.isub, 1) := by decide +kernel
theorem dX5_removeLoad_33 : decode cX5_removeLoad 33 = .ok (.putfield 37, 3) := by decide +kernel
theorem dX5_removeLoad_36 : decode cX5_removeLoad 36 = .ok (.iload_n 1, 1) := by decide +kernel
theorem dX5_removeLoad_37 : decode cX5_removeLoad 37 = .ok (.ireturn, 1) := by decide +kernel
theorem dX5_addBranch_0 : decode cX5_addBranch 0 = .ok (.aload_n 0, 1) := by decide +kernel
theorem dX5_addBranch_1 : decode cX5_addBranch 1 = .ok (.getfield 18, 3) := by decide +kernel
theorem dX5_addBranch_4 : decode cX5_addBranch 4 = .ok (.aload_n 0, 1) := by decide +kernel
theorem dX5_addBranch_5 : decode cX5_addBranch 5 = .ok (.getfield 40, 3) := by decide +kernel
theorem dX5_addBranch_8 : decode cX5_addBranch 8 = .ok (.aload_n 0, 1) := by decide +kernel
theorem dX5_addBranch_9 : decode cX5_addBranch 9 = .ok (.getfield 43, 3) := by decide +kernel
theorem dX5_addBranch_12 : decode cX5_addBranch 12 = .ok (.iadd, 1) := by decide +kernel
theorem dX5_addBranch_13 : decode cX5_addBranch 13 = .ok (.bipush 7, 2) := by decide +kernel
theorem dX5_addBranch_15 : decode cX5_addBranch 15 = .ok (.iand, 1) := by decide +kernel
theorem dX5_addBranch_16 : decode cX5_addBranch 16 = .ok (.iload_n 1, 1) := by decide +kernel
theorem dX5_addBranch_17 : decode cX5_addBranch 17 = .ok (.ifCond .eq 7, 3) := by decide +kernel
theorem dX5_addBranch_20 : decode cX5_addBranch 20 = .ok (.iconst 1, 1) := by decide +kernel
theorem dX5_addBranch_21 : decode cX5_addBranch 21 = .ok (.goto 4, 3) := by decide +kernel
theorem dX5_addBranch_24 : decode cX5_addBranch 24 = .ok (.iconst 0, 1) := by decide +kernel
theorem dX5_addBranch_25 : decode cX5_addBranch 25 = .ok (.iastore, 1) := by decide +kernel
theorem dX5_addBranch_26 : decode cX5_addBranch 26 = .ok (.aload_n 0, 1) := by decide +kernel
theorem dX5_addBranch_27 : decode cX5_addBranch 27 = .ok (.dup, 1) := by decide +kernel
theorem dX5_addBranch_28 : decode cX5_addBranch 28 = .ok (.getfield 43, 3) := by decide +kernel
theorem dX5_addBranch_31 : decode cX5_addBranch 31 = .ok (.iconst 1, 1) := by decide +kernel
theorem dX5_addBranch_32 : decode cX5_addBranch 32 = .ok (.iadd, 1) := by decide +kernel
theorem dX5_addBranch_33 : decode cX5_addBranch 33 = .ok (.putfield 43, 3) := by decide +kernel
theorem dX5_addBranch_36 : decode cX5_addBranch 36 = .ok (.return_, 1) := by decide +kernel
theorem dX5_firstBranchGoes_0 : decode cX5_firstBranchGoes 0 = .ok (.aload_n 0, 1) := by decide +kernel
theorem dX5_firstBranchGoes_1 : decode cX5_firstBranchGoes 1 = .ok (.getfield 18, 3) := by decide +kernel
theorem dX5_firstBranchGoes_4 : decode cX5_firstBranchGoes 4 = .ok (.aload_n 0, 1) := by decide +kernel
theorem dX5_firstBranchGoes_5 : decode cX5_firstBranchGoes 5 = .ok (.getfield 40, 3) := by decide +kernel
theorem dX5_firstBranchGoes_8 : decode cX5_firstBranchGoes 8 = .ok (.bipush 7, 2) := by decide +kernel
theorem dX5_firstBranchGoes_10 : decode cX5_firstBranchGoes 10 = .ok (.iand, 1) := by decide +kernel
theorem dX5_firstBranchGoes_11 : decode cX5_firstBranchGoes 11 = .ok (.iaload, 1) := by decide +kernel
theorem dX5_firstBranchGoes_12 : decode cX5_firstBranchGoes 12 = .ok (.iconst 1, 1) := by decide +kernel
theorem dX5_firstBranchGoes_13 : decode cX5_firstBranchGoes 13 = .ok (.if_icmp .ne 7, 3) := by decide +kernel
theorem dX5_firstBranchGoes_16 : decode cX5_firstBranchGoes 16 = .ok (.iconst 1, 1) := by decide +kernel
theorem dX5_firstBranchGoes_17 : decode cX5_firstBranchGoes 17 = .ok (.goto 4, 3) := by decide +kernel
theorem dX5_firstBranchGoes_20 : decode cX5_firstBranchGoes 20 = .ok (.iconst 0, 1) := by decide +kernel
theorem dX5_firstBranchGoes_21 : decode cX5_firstBranchGoes 21 = .ok (.ireturn, 1) := by decide +kernel
theorem dX5_removeBranch_0 : decode cX5_removeBranch 0 = .ok (.aload_n 0, 1) := by decide +kernel
theorem dX5_removeBranch_1 : decode cX5_removeBranch 1 = .ok (.aload_n 0, 1) := by decide +kernel
theorem dX5_removeBranch_2 : decode cX5_removeBranch 2 = .ok (.getfield 40, 3) := by decide +kernel
theorem dX5_removeBranch_5 : decode cX5_removeBranch 5 = .ok (.iconst 1, 1) := by decide +kernel
theorem dX5_removeBranch_6 : decode cX5_removeBranch 6 = .ok (.iadd, 1) := by decide +kernel
theorem dX5_removeBranch_7 : decode cX5_removeBranch 7 = .ok (.bipush 7, 2) := by decide +kernel
theorem dX5_removeBranch_9 : decode cX5_removeBranch 9 = .ok (.iand, 1) := by decide +kernel
theorem dX5_removeBranch_10 : decode cX5_removeBranch 10 = .ok (.putfield 40, 3) := by decide +kernel
theorem dX5_removeBranch_13 : decode cX5_removeBranch 13 = .ok (.aload_n 0, 1) := by decide +kernel
theorem dX5_removeBranch_14 : decode cX5_removeBranch 14 = .ok (.dup, 1) := by decide +kernel
theorem dX5_removeBranch_15 : decode cX5_removeBranch 15 = .ok (.getfield 43, 3) := by decide +kernel
theorem dX5_removeBranch_18 : decode cX5_removeBranch 18 = .ok (.iconst 1, 1) := by decide +kernel
theorem dX5_removeBranch_19 : decode cX5_removeBranch 19 = .ok (.isub, 1) := by decide +kernel
theorem dX5_removeBranch_20 : decode cX5_removeBranch 20 = .ok (.putfield 43, 3) := by decide +kernel
theorem dX5_removeBranch_23 : decode cX5_removeBranch 23 = .ok (.return_, 1) := by decide +kernel
theorem dX5_hold_0 : decode cX5_hold 0 = .ok (.aload_n 0, 1) := by decide +kernel
theorem dX5_hold_1 : decode cX5_hold 1 = .ok (.getfield 21, 3) := by decide +kernel
theorem dX5_hold_4 : decode cX5_hold 4 = .ok (.aload_n 0, 1) := by decide +kernel
theorem dX5_hold_5 : decode cX5_hold 5 = .ok (.getfield 46, 3) := by decide +kernel
theorem dX5_hold_8 : decode cX5_hold 8 = .ok (.bipush 7, 2) := by decide +kernel
theorem dX5_hold_10 : decode cX5_hold 10 = .ok (.iand, 1) := by decide +kernel
theorem dX5_hold_11 : decode cX5_hold 11 = .ok (.iload_n 1, 1) := by decide +kernel
theorem dX5_hold_12 : decode cX5_hold 12 = .ok (.iastore, 1) := by decide +kernel
theorem dX5_hold_13 : decode cX5_hold 13 = .ok (.aload_n 0, 1) := by decide +kernel
theorem dX5_hold_14 : decode cX5_hold 14 = .ok (.getfield 24, 3) := by decide +kernel
theorem dX5_hold_17 : decode cX5_hold 17 = .ok (.aload_n 0, 1) := by decide +kernel
theorem dX5_hold_18 : decode cX5_hold 18 = .ok (.getfield 46, 3) := by decide +kernel
theorem dX5_hold_21 : decode cX5_hold 21 = .ok (.bipush 7, 2) := by decide +kernel
theorem dX5_hold_23 : decode cX5_hold 23 = .ok (.iand, 1) := by decide +kernel
theorem dX5_hold_24 : decode cX5_hold 24 = .ok (.iload_n 2, 1) := by decide +kernel
theorem dX5_hold_25 : decode cX5_hold 25 = .ok (.iastore, 1) := by decide +kernel
theorem dX5_hold_26 : decode cX5_hold 26 = .ok (.aload_n 0, 1) := by decide +kernel
theorem dX5_hold_27 : decode cX5_hold 27 = .ok (.dup, 1) := by decide +kernel
theorem dX5_hold_28 : decode cX5_hold 28 = .ok (.getfield 46, 3) := by decide +kernel
theorem dX5_hold_31 : decode cX5_hold 31 = .ok (.iconst 1, 1) := by decide +kernel
theorem dX5_hold_32 : decode cX5_hold 32 = .ok (.iadd, 1) := by decide +kernel
theorem dX5_hold_33 : decode cX5_hold 33 = .ok (.putfield 46, 3) := by decide +kernel
theorem dX5_hold_36 : decode cX5_hold 36 = .ok (.return_, 1) := by decide +kernel
theorem dX5_isHeld_0 : decode cX5_isHeld 0 = .ok (.aload_n 0, 1) := by decide +kernel
theorem dX5_isHeld_1 : decode cX5_isHeld 1 = .ok (.getfield 21, 3) := by decide +kernel
theorem dX5_isHeld_4 : decode cX5_isHeld 4 = .ok (.aload_n 0, 1) := by decide +kernel
theorem dX5_isHeld_5 : decode cX5_isHeld 5 = .ok (.getfield 49, 3) := by decide +kernel
theorem dX5_isHeld_8 : decode cX5_isHeld 8 = .ok (.bipush 7, 2) := by decide +kernel
theorem dX5_isHeld_10 : decode cX5_isHeld 10 = .ok (.iand, 1) := by decide +kernel
theorem dX5_isHeld_11 : decode cX5_isHeld 11 = .ok (.iaload, 1) := by decide +kernel
theorem dX5_isHeld_12 : decode cX5_isHeld 12 = .ok (.iload_n 1, 1) := by decide +kernel
theorem dX5_isHeld_13 : decode cX5_isHeld 13 = .ok (.if_icmp .ne 23, 3) := by decide +kernel
theorem dX5_isHeld_16 : decode cX5_isHeld 16 = .ok (.aload_n 0, 1) := by decide +kernel
theorem dX5_isHeld_17 : decode cX5_isHeld 17 = .ok (.getfield 24, 3) := by decide +kernel
theorem dX5_isHeld_20 : decode cX5_isHeld 20 = .ok (.aload_n 0, 1) := by decide +kernel
theorem dX5_isHeld_21 : decode cX5_isHeld 21 = .ok (.getfield 49, 3) := by decide +kernel
theorem dX5_isHeld_24 : decode cX5_isHeld 24 = .ok (.bipush 7, 2) := by decide +kernel
theorem dX5_isHeld_26 : decode cX5_isHeld 26 = .ok (.iand, 1) := by decide +kernel
theorem dX5_isHeld_27 : decode cX5_isHeld 27 = .ok (.iaload, 1) := by decide +kernel
theorem dX5_isHeld_28 : decode cX5_isHeld 28 = .ok (.iload_n 2, 1) := by decide +kernel
theorem dX5_isHeld_29 : decode cX5_isHeld 29 = .ok (.if_icmp .ne 7, 3) := by decide +kernel
theorem dX5_isHeld_32 : decode cX5_isHeld 32 = .ok (.iconst 1, 1) := by decide +kernel
theorem dX5_isHeld_33 : decode cX5_isHeld 33 = .ok (.goto 4, 3) := by decide +kernel
theorem dX5_isHeld_36 : decode cX5_isHeld 36 = .ok (.iconst 0, 1) := by decide +kernel
theorem dX5_isHeld_37 : decode cX5_isHeld 37 = .ok (.ireturn, 1) := by decide +kernel
theorem dX5_layBeside_0 : decode cX5_layBeside 0 = .ok (.aload_n 0, 1) := by decide +kernel
theorem dX5_layBeside_1 : decode cX5_layBeside 1 = .ok (.getfield 27, 3) := by decide +kernel
theorem dX5_layBeside_4 : decode cX5_layBeside 4 = .ok (.aload_n 0, 1) := by decide +kernel
theorem dX5_layBeside_5 : decode cX5_layBeside 5 = .ok (.getfield 49, 3) := by decide +kernel
theorem dX5_layBeside_8 : decode cX5_layBeside 8 = .ok (.bipush 7, 2) := by decide +kernel
theorem dX5_layBeside_10 : decode cX5_layBeside 10 = .ok (.iand, 1) := by decide +kernel
theorem dX5_layBeside_11 : decode cX5_layBeside 11 = .ok (.iload_n 1, 1) := by decide +kernel
theorem dX5_layBeside_12 : decode cX5_layBeside 12 = .ok (.iastore, 1) := by decide +kernel
theorem dX5_layBeside_13 : decode cX5_layBeside 13 = .ok (.aload_n 0, 1) := by decide +kernel
theorem dX5_layBeside_14 : decode cX5_layBeside 14 = .ok (.getfield 30, 3) := by decide +kernel
theorem dX5_layBeside_17 : decode cX5_layBeside 17 = .ok (.aload_n 0, 1) := by decide +kernel
theorem dX5_layBeside_18 : decode cX5_layBeside 18 = .ok (.getfield 49, 3) := by decide +kernel
theorem dX5_layBeside_21 : decode cX5_layBeside 21 = .ok (.bipush 7, 2) := by decide +kernel
theorem dX5_layBeside_23 : decode cX5_layBeside 23 = .ok (.iand, 1) := by decide +kernel
theorem dX5_layBeside_24 : decode cX5_layBeside 24 = .ok (.iload_n 2, 1) := by decide +kernel
theorem dX5_layBeside_25 : decode cX5_layBeside 25 = .ok (.iastore, 1) := by decide +kernel
theorem dX5_layBeside_26 : decode cX5_layBeside 26 = .ok (.aload_n 0, 1) := by decide +kernel
theorem dX5_layBeside_27 : decode cX5_layBeside 27 = .ok (.dup, 1) := by decide +kernel
theorem dX5_layBeside_28 : decode cX5_layBeside 28 = .ok (.getfield 49, 3) := by decide +kernel
theorem dX5_layBeside_31 : decode cX5_layBeside 31 = .ok (.iconst 1, 1) := by decide +kernel
theorem dX5_layBeside_32 : decode cX5_layBeside 32 = .ok (.iadd, 1) := by decide +kernel
theorem dX5_layBeside_33 : decode cX5_layBeside 33 = .ok (.putfield 49, 3) := by decide +kernel
theorem dX5_layBeside_36 : decode cX5_layBeside 36 = .ok (.return_, 1) := by decide +kernel
theorem dX5_lastHeld_0 : decode cX5_lastHeld 0 = .ok (.aload_n 0, 1) := by decide +kernel
theorem dX5_lastHeld_1 : decode cX5_lastHeld 1 = .ok (.getfield 46, 3) := by decide +kernel
theorem dX5_lastHeld_4 : decode cX5_lastHeld 4 = .ok (.bipush 8, 2) := by decide +kernel
theorem dX5_lastHeld_6 : decode cX5_lastHeld 6 = .ok (.invokestatic 58, 3) := by decide +kernel
theorem dX5_lastHeld_9 : decode cX5_lastHeld 9 = .ok (.iconst 1, 1) := by decide +kernel
theorem dX5_lastHeld_10 : decode cX5_lastHeld 10 = .ok (.isub, 1) := by decide +kernel
theorem dX5_lastHeld_11 : decode cX5_lastHeld 11 = .ok (.istore_n 2, 1) := by decide +kernel
theorem dX5_lastHeld_12 : decode cX5_lastHeld 12 = .ok (.iload_n 2, 1) := by decide +kernel
theorem dX5_lastHeld_13 : decode cX5_lastHeld 13 = .ok (.ifCond .lt 21, 3) := by decide +kernel
theorem dX5_lastHeld_16 : decode cX5_lastHeld 16 = .ok (.aload_n 0, 1) := by decide +kernel
theorem dX5_lastHeld_17 : decode cX5_lastHeld 17 = .ok (.getfield 21, 3) := by decide +kernel
theorem dX5_lastHeld_20 : decode cX5_lastHeld 20 = .ok (.iload_n 2, 1) := by decide +kernel
theorem dX5_lastHeld_21 : decode cX5_lastHeld 21 = .ok (.iaload, 1) := by decide +kernel
theorem dX5_lastHeld_22 : decode cX5_lastHeld 22 = .ok (.iload_n 1, 1) := by decide +kernel
theorem dX5_lastHeld_23 : decode cX5_lastHeld 23 = .ok (.if_icmp .ne 5, 3) := by decide +kernel
theorem dX5_lastHeld_26 : decode cX5_lastHeld 26 = .ok (.iload_n 2, 1) := by decide +kernel
theorem dX5_lastHeld_27 : decode cX5_lastHeld 27 = .ok (.ireturn, 1) := by decide +kernel
theorem dX5_lastHeld_28 : decode cX5_lastHeld 28 = .ok (.iinc 2 (-1), 3) := by decide +kernel
theorem dX5_lastHeld_31 : decode cX5_lastHeld 31 = .ok (.goto (-19), 3) := by decide +kernel
theorem dX5_lastHeld_34 : decode cX5_lastHeld 34 = .ok (.iconst (-1), 1) := by decide +kernel
theorem dX5_lastHeld_35 : decode cX5_lastHeld 35 = .ok (.ireturn, 1) := by decide +kernel
theorem dX5_allCompared_0 : decode cX5_allCompared 0 = .ok (.aload_n 0, 1) := by decide +kernel
theorem dX5_allCompared_1 : decode cX5_allCompared 1 = .ok (.getfield 37, 3) := by decide +kernel
theorem dX5_allCompared_4 : decode cX5_allCompared 4 = .ok (.ifCond .ne 25, 3) := by decide +kernel
theorem dX5_allCompared_7 : decode cX5_allCompared 7 = .ok (.aload_n 0, 1) := by decide +kernel
theorem dX5_allCompared_8 : decode cX5_allCompared 8 = .ok (.getfield 43, 3) := by decide +kernel
theorem dX5_allCompared_11 : decode cX5_allCompared 11 = .ok (.ifCond .ne 18, 3) := by decide +kernel
theorem dX5_allCompared_14 : decode cX5_allCompared 14 = .ok (.aload_n 0, 1) := by decide +kernel
theorem dX5_allCompared_15 : decode cX5_allCompared 15 = .ok (.getfield 49, 3) := by decide +kernel
theorem dX5_allCompared_18 : decode cX5_allCompared 18 = .ok (.aload_n 0, 1) := by decide +kernel
theorem dX5_allCompared_19 : decode cX5_allCompared 19 = .ok (.getfield 46, 3) := by decide +kernel
theorem dX5_allCompared_22 : decode cX5_allCompared 22 = .ok (.if_icmp .ne 7, 3) := by decide +kernel
theorem dX5_allCompared_25 : decode cX5_allCompared 25 = .ok (.iconst 1, 1) := by decide +kernel
theorem dX5_allCompared_26 : decode cX5_allCompared 26 = .ok (.goto 4, 3) := by decide +kernel
theorem dX5_allCompared_29 : decode cX5_allCompared 29 = .ok (.iconst 0, 1) := by decide +kernel
theorem dX5_allCompared_30 : decode cX5_allCompared 30 = .ok (.ireturn, 1) := by decide +kernel
theorem dX5_allSame_0 : decode cX5_allSame 0 = .ok (.iconst 0, 1) := by decide +kernel
theorem dX5_allSame_1 : decode cX5_allSame 1 = .ok (.istore_n 1, 1) := by decide +kernel
theorem dX5_allSame_2 : decode cX5_allSame 2 = .ok (.iload_n 1, 1) := by decide +kernel
theorem dX5_allSame_3 : decode cX5_allSame 3 = .ok (.aload_n 0, 1) := by decide +kernel
theorem dX5_allSame_4 : decode cX5_allSame 4 = .ok (.getfield 46, 3) := by decide +kernel
theorem dX5_allSame_7 : decode cX5_allSame 7 = .ok (.if_icmp .ge 47, 3) := by decide +kernel
theorem dX5_allSame_10 : decode cX5_allSame 10 = .ok (.iload_n 1, 1) := by decide +kernel
theorem dX5_allSame_11 : decode cX5_allSame 11 = .ok (.bipush 8, 2) := by decide +kernel
theorem dX5_allSame_13 : decode cX5_allSame 13 = .ok (.if_icmp .ge 41, 3) := by decide +kernel
theorem dX5_allSame_16 : decode cX5_allSame 16 = .ok (.aload_n 0, 1) := by decide +kernel
theorem dX5_allSame_17 : decode cX5_allSame 17 = .ok (.getfield 21, 3) := by decide +kernel
theorem dX5_allSame_20 : decode cX5_allSame 20 = .ok (.iload_n 1, 1) := by decide +kernel
theorem dX5_allSame_21 : decode cX5_allSame 21 = .ok (.iaload, 1) := by decide +kernel
theorem dX5_allSame_22 : decode cX5_allSame 22 = .ok (.aload_n 0, 1) := by decide +kernel
theorem dX5_allSame_23 : decode cX5_allSame 23 = .ok (.getfield 27, 3) := by decide +kernel
theorem dX5_allSame_26 : decode cX5_allSame 26 = .ok (.iload_n 1, 1) := by decide +kernel
theorem dX5_allSame_27 : decode cX5_allSame 27 = .ok (.iaload, 1) := by decide +kernel
theorem dX5_allSame_28 : decode cX5_allSame 28 = .ok (.if_icmp .ne 18, 3) := by decide +kernel
theorem dX5_allSame_31 : decode cX5_allSame 31 = .ok (.aload_n 0, 1) := by decide +kernel
theorem dX5_allSame_32 : decode cX5_allSame 32 = .ok (.getfield 24, 3) := by decide +kernel
theorem dX5_allSame_35 : decode cX5_allSame 35 = .ok (.iload_n 1, 1) := by decide +kernel
theorem dX5_allSame_36 : decode cX5_allSame 36 = .ok (.iaload, 1) := by decide +kernel
theorem dX5_allSame_37 : decode cX5_allSame 37 = .ok (.aload_n 0, 1) := by decide +kernel
theorem dX5_allSame_38 : decode cX5_allSame 38 = .ok (.getfield 30, 3) := by decide +kernel
theorem dX5_allSame_41 : decode cX5_allSame 41 = .ok (.iload_n 1, 1) := by decide +kernel
theorem dX5_allSame_42 : decode cX5_allSame 42 = .ok (.iaload, 1) := by decide +kernel
theorem dX5_allSame_43 : decode cX5_allSame 43 = .ok (.if_icmp .eq 5, 3) := by decide +kernel
theorem dX5_allSame_46 : decode cX5_allSame 46 = .ok (.iconst 0, 1) := by decide +kernel
theorem dX5_allSame_47 : decode cX5_allSame 47 = .ok (.ireturn, 1) := by decide +kernel
theorem dX5_allSame_48 : decode cX5_allSame 48 = .ok (.iinc 1 1, 3) := by decide +kernel
theorem dX5_allSame_51 : decode cX5_allSame 51 = .ok (.goto (-49), 3) := by decide +kernel
theorem dX5_allSame_54 : decode cX5_allSame 54 = .ok (.iconst 1, 1) := by decide +kernel
theorem dX5_allSame_55 : decode cX5_allSame 55 = .ok (.ireturn, 1) := by decide +kernel
theorem dX5_flipQueued_0 : decode cX5_flipQueued 0 = .ok (.iload_n 1, 1) := by decide +kernel
theorem dX5_flipQueued_1 : decode cX5_flipQueued 1 = .ok (.tableswitch 241 6 12 #[43, 76, 104, 137, 166, 189, 218], 43) := by decide +kernel
theorem dX5_flipQueued_44 : decode cX5_flipQueued 44 = .ok (.aload_n 0, 1) := by decide +kernel
theorem dX5_flipQueued_45 : decode cX5_flipQueued 45 = .ok (.getfield 9, 3) := by decide +kernel
theorem dX5_flipQueued_48 : decode cX5_flipQueued 48 = .ok (.aload_n 0, 1) := by decide +kernel
theorem dX5_flipQueued_49 : decode cX5_flipQueued 49 = .ok (.getfield 33, 3) := by decide +kernel
theorem dX5_flipQueued_52 : decode cX5_flipQueued 52 = .ok (.iload_n 2, 1) := by decide +kernel
theorem dX5_flipQueued_53 : decode cX5_flipQueued 53 = .ok (.iadd, 1) := by decide +kernel
theorem dX5_flipQueued_54 : decode cX5_flipQueued 54 = .ok (.iload_n 2, 1) := by decide +kernel
theorem dX5_flipQueued_55 : decode cX5_flipQueued 55 = .ok (.aload_n 0, 1) := by decide +kernel
theorem dX5_flipQueued_56 : decode cX5_flipQueued 56 = .ok (.getfield 37, 3) := by decide +kernel
theorem dX5_flipQueued_59 : decode cX5_flipQueued 59 = .ok (.if_icmp .ge 12, 3) := by decide +kernel
theorem dX5_flipQueued_62 : decode cX5_flipQueued 62 = .ok (.iload_n 3, 1) := by decide +kernel
theorem dX5_flipQueued_63 : decode cX5_flipQueued 63 = .ok (.iconst 5, 1) := by decide +kernel
theorem dX5_flipQueued_64 : decode cX5_flipQueued 64 = .ok (.if_icmp .ge 7, 3) := by decide +kernel
theorem dX5_flipQueued_67 : decode cX5_flipQueued 67 = .ok (.iconst 1, 1) := by decide +kernel
theorem dX5_flipQueued_68 : decode cX5_flipQueued 68 = .ok (.goto 4, 3) := by decide +kernel
theorem dX5_flipQueued_71 : decode cX5_flipQueued 71 = .ok (.iconst 0, 1) := by decide +kernel
theorem dX5_flipQueued_72 : decode cX5_flipQueued 72 = .ok (.iload_n 3, 1) := by decide +kernel
theorem dX5_flipQueued_73 : decode cX5_flipQueued 73 = .ok (.invokestatic 64, 3) := by decide +kernel
theorem dX5_flipQueued_76 : decode cX5_flipQueued 76 = .ok (.ireturn, 1) := by decide +kernel
theorem dX5_flipQueued_77 : decode cX5_flipQueued 77 = .ok (.aload_n 0, 1) := by decide +kernel
theorem dX5_flipQueued_78 : decode cX5_flipQueued 78 = .ok (.getfield 15, 3) := by decide +kernel
theorem dX5_flipQueued_81 : decode cX5_flipQueued 81 = .ok (.aload_n 0, 1) := by decide +kernel
theorem dX5_flipQueued_82 : decode cX5_flipQueued 82 = .ok (.getfield 33, 3) := by decide +kernel
theorem dX5_flipQueued_85 : decode cX5_flipQueued 85 = .ok (.iload_n 2, 1) := by decide +kernel
theorem dX5_flipQueued_86 : decode cX5_flipQueued 86 = .ok (.iadd, 1) := by decide +kernel
theorem dX5_flipQueued_87 : decode cX5_flipQueued 87 = .ok (.iload_n 2, 1) := by decide +kernel
theorem dX5_flipQueued_88 : decode cX5_flipQueued 88 = .ok (.aload_n 0, 1) := by decide +kernel
theorem dX5_flipQueued_89 : decode cX5_flipQueued 89 = .ok (.getfield 37, 3) := by decide +kernel
theorem dX5_flipQueued_92 : decode cX5_flipQueued 92 = .ok (.if_icmp .ge 7, 3) := by decide +kernel
theorem dX5_flipQueued_95 : decode cX5_flipQueued 95 = .ok (.iconst 1, 1) := by decide +kernel
theorem dX5_flipQueued_96 : decode cX5_flipQueued 96 = .ok (.goto 4, 3) := by decide +kernel
theorem dX5_flipQueued_99 : decode cX5_flipQueued 99 = .ok (.iconst 0, 1) := by decide +kernel
theorem dX5_flipQueued_100 : decode cX5_flipQueued 100 = .ok (.iload_n 3, 1) := by decide +kernel
theorem dX5_flipQueued_101 : decode cX5_flipQueued 101 = .ok (.invokestatic 64, 3) := by decide +kernel
theorem dX5_flipQueued_104 : decode cX5_flipQueued 104 = .ok (.ireturn, 1) := by decide +kernel
theorem dX5_flipQueued_105 : decode cX5_flipQueued 105 = .ok (.aload_n 0, 1) := by decide +kernel
theorem dX5_flipQueued_106 : decode cX5_flipQueued 106 = .ok (.getfield 18, 3) := by decide +kernel
theorem dX5_flipQueued_109 : decode cX5_flipQueued 109 = .ok (.aload_n 0, 1) := by decide +kernel
theorem dX5_flipQueued_110 : decode cX5_flipQueued 110 = .ok (.getfield 40, 3) := by decide +kernel
theorem dX5_flipQueued_113 : decode cX5_flipQueued 113 = .ok (.iload_n 2, 1) := by decide +kernel
theorem dX5_flipQueued_114 : decode cX5_flipQueued 114 = .ok (.iadd, 1) := by decide +kernel
theorem dX5_flipQueued_115 : decode cX5_flipQueued 115 = .ok (.iload_n 2, 1) := by decide +kernel
theorem dX5_flipQueued_116 : decode cX5_flipQueued 116 = .ok (.aload_n 0, 1) := by decide +kernel
theorem dX5_flipQueued_117 : decode cX5_flipQueued 117 = .ok (.getfield 43, 3) := by decide +kernel
theorem dX5_flipQueued_120 : decode cX5_flipQueued 120 = .ok (.if_icmp .ge 12, 3) := by decide +kernel
theorem dX5_flipQueued_123 : decode cX5_flipQueued 123 = .ok (.iload_n 3, 1) := by decide +kernel
theorem dX5_flipQueued_124 : decode cX5_flipQueued 124 = .ok (.iconst 1, 1) := by decide +kernel
theorem dX5_flipQueued_125 : decode cX5_flipQueued 125 = .ok (.if_icmp .ge 7, 3) := by decide +kernel
theorem dX5_flipQueued_128 : decode cX5_flipQueued 128 = .ok (.iconst 1, 1) := by decide +kernel
theorem dX5_flipQueued_129 : decode cX5_flipQueued 129 = .ok (.goto 4, 3) := by decide +kernel
theorem dX5_flipQueued_132 : decode cX5_flipQueued 132 = .ok (.iconst 0, 1) := by decide +kernel
theorem dX5_flipQueued_133 : decode cX5_flipQueued 133 = .ok (.iload_n 3, 1) := by decide +kernel
theorem dX5_flipQueued_134 : decode cX5_flipQueued 134 = .ok (.invokestatic 64, 3) := by decide +kernel
theorem dX5_flipQueued_137 : decode cX5_flipQueued 137 = .ok (.ireturn, 1) := by decide +kernel
theorem dX5_flipQueued_138 : decode cX5_flipQueued 138 = .ok (.aload_n 0, 1) := by decide +kernel
theorem dX5_flipQueued_139 : decode cX5_flipQueued 139 = .ok (.getfield 21, 3) := by decide +kernel
theorem dX5_flipQueued_142 : decode cX5_flipQueued 142 = .ok (.iload_n 2, 1) := by decide +kernel
theorem dX5_flipQueued_143 : decode cX5_flipQueued 143 = .ok (.iload_n 2, 1) := by decide +kernel
theorem dX5_flipQueued_144 : decode cX5_flipQueued 144 = .ok (.aload_n 0, 1) := by decide +kernel
theorem dX5_flipQueued_145 : decode cX5_flipQueued 145 = .ok (.getfield 46, 3) := by decide +kernel
theorem dX5_flipQueued_148 : decode cX5_flipQueued 148 = .ok (.if_icmp .ge 13, 3) := by decide +kernel
theorem dX5_flipQueued_151 : decode cX5_flipQueued 151 = .ok (.iload_n 3, 1) := by decide +kernel
theorem dX5_flipQueued_152 : decode cX5_flipQueued 152 = .ok (.bipush 6, 2) := by decide +kernel
theorem dX5_flipQueued_154 : decode cX5_flipQueued 154 = .ok (.if_icmp .ge 7, 3) := by decide +kernel
theorem dX5_flipQueued_157 : decode cX5_flipQueued 157 = .ok (.iconst 1, 1) := by decide +kernel
theorem dX5_flipQueued_158 : decode cX5_flipQueued 158 = .ok (.goto 4, 3) := by decide +kernel
theorem dX5_flipQueued_161 : decode cX5_flipQueued 161 = .ok (.iconst 0, 1) := by decide +kernel
theorem dX5_flipQueued_162 : decode cX5_flipQueued 162 = .ok (.iload_n 3, 1) := by decide +kernel
theorem dX5_flipQueued_163 : decode cX5_flipQueued 163 = .ok (.invokestatic 64, 3) := by decide +kernel
theorem dX5_flipQueued_166 : decode cX5_flipQueued 166 = .ok (.ireturn, 1) := by decide +kernel
theorem dX5_flipQueued_167 : decode cX5_flipQueued 167 = .ok (.aload_n 0, 1) := by decide +kernel
theorem dX5_flipQueued_168 : decode cX5_flipQueued 168 = .ok (.getfield 24, 3) := by decide +kernel
theorem dX5_flipQueued_171 : decode cX5_flipQueued 171 = .ok (.iload_n 2, 1) := by decide +kernel
theorem dX5_flipQueued_172 : decode cX5_flipQueued 172 = .ok (.iload_n 2, 1) := by decide +kernel
theorem dX5_flipQueued_173 : decode cX5_flipQueued 173 = .ok (.aload_n 0, 1) := by decide +kernel
theorem dX5_flipQueued_174 : decode cX5_flipQueued 174 = .ok (.getfield 46, 3) := by decide +kernel
theorem dX5_flipQueued_177 : decode cX5_flipQueued 177 = .ok (.if_icmp .ge 7, 3) := by decide +kernel
theorem dX5_flipQueued_180 : decode cX5_flipQueued 180 = .ok (.iconst 1, 1) := by decide +kernel
theorem dX5_flipQueued_181 : decode cX5_flipQueued 181 = .ok (.goto 4, 3) := by decide +kernel
theorem dX5_flipQueued_184 : decode cX5_flipQueued 184 = .ok (.iconst 0, 1) := by decide +kernel
theorem dX5_flipQueued_185 : decode cX5_flipQueued 185 = .ok (.iload_n 3, 1) := by decide +kernel
theorem dX5_flipQueued_186 : decode cX5_flipQueued 186 = .ok (.invokestatic 64, 3) := by decide +kernel
theorem dX5_flipQueued_189 : decode cX5_flipQueued 189 = .ok (.ireturn, 1) := by decide +kernel
theorem dX5_flipQueued_190 : decode cX5_flipQueued 190 = .ok (.aload_n 0, 1) := by decide +kernel
theorem dX5_flipQueued_191 : decode cX5_flipQueued 191 = .ok (.getfield 27, 3) := by decide +kernel
theorem dX5_flipQueued_194 : decode cX5_flipQueued 194 = .ok (.iload_n 2, 1) := by decide +kernel
theorem dX5_flipQueued_195 : decode cX5_flipQueued 195 = .ok (.iload_n 2, 1) := by decide +kernel
theorem dX5_flipQueued_196 : decode cX5_flipQueued 196 = .ok (.aload_n 0, 1) := by decide +kernel
theorem dX5_flipQueued_197 : decode cX5_flipQueued 197 = .ok (.getfield 49, 3) := by decide +kernel
theorem dX5_flipQueued_200 : decode cX5_flipQueued 200 = .ok (.if_icmp .ge 13, 3) := by decide +kernel
theorem dX5_flipQueued_203 : decode cX5_flipQueued 203 = .ok (.iload_n 3, 1) := by decide +kernel
theorem dX5_flipQueued_204 : decode cX5_flipQueued 204 = .ok (.bipush 6, 2) := by decide +kernel
theorem dX5_flipQueued_206 : decode cX5_flipQueued 206 = .ok (.if_icmp .ge 7, 3) := by decide +kernel
theorem dX5_flipQueued_209 : decode cX5_flipQueued 209 = .ok (.iconst 1, 1) := by decide +kernel
theorem dX5_flipQueued_210 : decode cX5_flipQueued 210 = .ok (.goto 4, 3) := by decide +kernel
theorem dX5_flipQueued_213 : decode cX5_flipQueued 213 = .ok (.iconst 0, 1) := by decide +kernel
theorem dX5_flipQueued_214 : decode cX5_flipQueued 214 = .ok (.iload_n 3, 1) := by decide +kernel
theorem dX5_flipQueued_215 : decode cX5_flipQueued 215 = .ok (.invokestatic 64, 3) := by decide +kernel
theorem dX5_flipQueued_218 : decode cX5_flipQueued 218 = .ok (.ireturn, 1) := by decide +kernel
theorem dX5_flipQueued_219 : decode cX5_flipQueued 219 = .ok (.aload_n 0, 1) := by decide +kernel
theorem dX5_flipQueued_220 : decode cX5_flipQueued 220 = .ok (.getfield 30, 3) := by decide +kernel
theorem dX5_flipQueued_223 : decode cX5_flipQueued 223 = .ok (.iload_n 2, 1) := by decide +kernel
theorem dX5_flipQueued_224 : decode cX5_flipQueued 224 = .ok (.iload_n 2, 1) := by decide +kernel
theorem dX5_flipQueued_225 : decode cX5_flipQueued 225 = .ok (.aload_n 0, 1) := by decide +kernel
theorem dX5_flipQueued_226 : decode cX5_flipQueued 226 = .ok (.getfield 49, 3) := by decide +kernel
theorem dX5_flipQueued_229 : decode cX5_flipQueued 229 = .ok (.if_icmp .ge 7, 3) := by decide +kernel
theorem dX5_flipQueued_232 : decode cX5_flipQueued 232 = .ok (.iconst 1, 1) := by decide +kernel
theorem dX5_flipQueued_233 : decode cX5_flipQueued 233 = .ok (.goto 4, 3) := by decide +kernel
theorem dX5_flipQueued_236 : decode cX5_flipQueued 236 = .ok (.iconst 0, 1) := by decide +kernel
theorem dX5_flipQueued_237 : decode cX5_flipQueued 237 = .ok (.iload_n 3, 1) := by decide +kernel
theorem dX5_flipQueued_238 : decode cX5_flipQueued 238 = .ok (.invokestatic 64, 3) := by decide +kernel
theorem dX5_flipQueued_241 : decode cX5_flipQueued 241 = .ok (.ireturn, 1) := by decide +kernel
theorem dX5_flipQueued_242 : decode cX5_flipQueued 242 = .ok (.iconst 0, 1) := by decide +kernel
theorem dX5_flipQueued_243 : decode cX5_flipQueued 243 = .ok (.ireturn, 1) := by decide +kernel
theorem dX5_flipIn_0 : decode cX5_flipIn 0 = .ok (.iload_n 2, 1) := by decide +kernel
theorem dX5_flipIn_1 : decode cX5_flipIn 1 = .ok (.ifCond .eq 15, 3) := by decide +kernel
theorem dX5_flipIn_4 : decode cX5_flipIn 4 = .ok (.aload_n 0, 1) := by decide +kernel
theorem dX5_flipIn_5 : decode cX5_flipIn 5 = .ok (.iload_n 1, 1) := by decide +kernel
theorem dX5_flipIn_6 : decode cX5_flipIn 6 = .ok (.bipush 7, 2) := by decide +kernel
theorem dX5_flipIn_8 : decode cX5_flipIn 8 = .ok (.iand, 1) := by decide +kernel
theorem dX5_flipIn_9 : decode cX5_flipIn 9 = .ok (.dup2, 1) := by decide +kernel
theorem dX5_flipIn_10 : decode cX5_flipIn 10 = .ok (.iaload, 1) := by decide +kernel
theorem dX5_flipIn_11 : decode cX5_flipIn 11 = .ok (.iconst 1, 1) := by decide +kernel
theorem dX5_flipIn_12 : decode cX5_flipIn 12 = .ok (.iload_n 3, 1) := by decide +kernel
theorem dX5_flipIn_13 : decode cX5_flipIn 13 = .ok (.ishl, 1) := by decide +kernel
theorem dX5_flipIn_14 : decode cX5_flipIn 14 = .ok (.ixor, 1) := by decide +kernel
theorem dX5_flipIn_15 : decode cX5_flipIn 15 = .ok (.iastore, 1) := by decide +kernel
theorem dX5_flipIn_16 : decode cX5_flipIn 16 = .ok (.iload_n 2, 1) := by decide +kernel
theorem dX5_flipIn_17 : decode cX5_flipIn 17 = .ok (.ireturn, 1) := by decide +kernel
theorem dX5_loadPart_0 : decode cX5_loadPart 0 = .ok (.iload_n 1, 1) := by decide +kernel
theorem dX5_loadPart_1 : decode cX5_loadPart 1 = .ok (.ifCond .lt 11, 3) := by decide +kernel
theorem dX5_loadPart_4 : decode cX5_loadPart 4 = .ok (.iload_n 1, 1) := by decide +kernel
theorem dX5_loadPart_5 : decode cX5_loadPart 5 = .ok (.aload_n 0, 1) := by decide +kernel
theorem dX5_loadPart_6 : decode cX5_loadPart 6 = .ok (.getfield 37, 3) := by decide +kernel
theorem dX5_loadPart_9 : decode cX5_loadPart 9 = .ok (.if_icmp .lt 5, 3) := by decide +kernel
theorem dX5_loadPart_12 : decode cX5_loadPart 12 = .ok (.iconst 0, 1) := by decide +kernel
theorem dX5_loadPart_13 : decode cX5_loadPart 13 = .ok (.ireturn, 1) := by decide +kernel
theorem dX5_loadPart_14 : decode cX5_loadPart 14 = .ok (.aload_n 0, 1) := by decide +kernel
theorem dX5_loadPart_15 : decode cX5_loadPart 15 = .ok (.getfield 33, 3) := by decide +kernel
theorem dX5_loadPart_18 : decode cX5_loadPart 18 = .ok (.iload_n 1, 1) := by decide +kernel
theorem dX5_loadPart_19 : decode cX5_loadPart 19 = .ok (.iadd, 1) := by decide +kernel
theorem dX5_loadPart_20 : decode cX5_loadPart 20 = .ok (.bipush 7, 2) := by decide +kernel
theorem dX5_loadPart_22 : decode cX5_loadPart 22 = .ok (.iand, 1) := by decide +kernel
theorem dX5_loadPart_23 : decode cX5_loadPart 23 = .ok (.istore_n 3, 1) := by decide +kernel
theorem dX5_loadPart_24 : decode cX5_loadPart 24 = .ok (.iload_n 2, 1) := by decide +kernel
theorem dX5_loadPart_25 : decode cX5_loadPart 25 = .ok (.ifCond .ne 10, 3) := by decide +kernel
theorem dX5_loadPart_28 : decode cX5_loadPart 28 = .ok (.aload_n 0, 1) := by decide +kernel
theorem dX5_loadPart_29 : decode cX5_loadPart 29 = .ok (.getfield 9, 3) := by decide +kernel
theorem dX5_loadPart_32 : decode cX5_loadPart 32 = .ok (.iload_n 3, 1) := by decide +kernel
theorem dX5_loadPart_33 : decode cX5_loadPart 33 = .ok (.iaload, 1) := by decide +kernel
theorem dX5_loadPart_34 : decode cX5_loadPart 34 = .ok (.ireturn, 1) := by decide +kernel
theorem dX5_loadPart_35 : decode cX5_loadPart 35 = .ok (.iload_n 2, 1) := by decide +kernel
theorem dX5_loadPart_36 : decode cX5_loadPart 36 = .ok (.iconst 1, 1) := by decide +kernel
theorem dX5_loadPart_37 : decode cX5_loadPart 37 = .ok (.if_icmp .ne 12, 3) := by decide +kernel
theorem dX5_loadPart_40 : decode cX5_loadPart 40 = .ok (.aload_n 0, 1) := by decide +kernel
theorem dX5_loadPart_41 : decode cX5_loadPart 41 = .ok (.getfield 15, 3) := by decide +kernel
theorem dX5_loadPart_44 : decode cX5_loadPart 44 = .ok (.iload_n 3, 1) := by decide +kernel
theorem dX5_loadPart_45 : decode cX5_loadPart 45 = .ok (.iaload, 1) := by decide +kernel
theorem dX5_loadPart_46 : decode cX5_loadPart 46 = .ok (.goto 4, 3) := by decide +kernel
theorem dX5_loadPart_49 : decode cX5_loadPart 49 = .ok (.iconst 0, 1) := by decide +kernel
theorem dX5_loadPart_50 : decode cX5_loadPart 50 = .ok (.ireturn, 1) := by decide +kernel
theorem dX5_branchPart_0 : decode cX5_branchPart 0 = .ok (.iload_n 1, 1) := by decide +kernel
theorem dX5_branchPart_1 : decode cX5_branchPart 1 = .ok (.ifCond .lt 15, 3) := by decide +kernel
theorem dX5_branchPart_4 : decode cX5_branchPart 4 = .ok (.iload_n 1, 1) := by decide +kernel
theorem dX5_branchPart_5 : decode cX5_branchPart 5 = .ok (.aload_n 0, 1) := by decide +kernel
theorem dX5_branchPart_6 : decode cX5_branchPart 6 = .ok (.getfield 43, 3) := by decide +kernel
theorem dX5_branchPart_9 : decode cX5_branchPart 9 = .ok (.if_icmp .ge 7, 3) := by decide +kernel
theorem dX5_branchPart_12 : decode cX5_branchPart 12 = .ok (.iload_n 2, 1) := by decide +kernel
theorem dX5_branchPart_13 : decode cX5_branchPart 13 = .ok (.ifCond .eq 7, 3) := by decide +kernel
theorem dX5_branchPart_16 : decode cX5_branchPart 16 = .ok (.iconst 0, 1) := by decide +kernel
theorem dX5_branchPart_17 : decode cX5_branchPart 17 = .ok (.goto 17, 3) := by decide +kernel
theorem dX5_branchPart_20 : decode cX5_branchPart 20 = .ok (.aload_n 0, 1) := by decide +kernel
theorem dX5_branchPart_21 : decode cX5_branchPart 21 = .ok (.getfield 18, 3) := by decide +kernel
theorem dX5_branchPart_24 : decode cX5_branchPart 24 = .ok (.aload_n 0, 1) := by decide +kernel
theorem dX5_branchPart_25 : decode cX5_branchPart 25 = .ok (.getfield 40, 3) := by decide +kernel
theorem dX5_branchPart_28 : decode cX5_branchPart 28 = .ok (.iload_n 1, 1) := by decide +kernel
theorem dX5_branchPart_29 : decode cX5_branchPart 29 = .ok (.iadd, 1) := by decide +kernel
theorem dX5_branchPart_30 : decode cX5_branchPart 30 = .ok (.bipush 7, 2) := by decide +kernel
theorem dX5_branchPart_32 : decode cX5_branchPart 32 = .ok (.iand, 1) := by decide +kernel
theorem dX5_branchPart_33 : decode cX5_branchPart 33 = .ok (.iaload, 1) := by decide +kernel
theorem dX5_branchPart_34 : decode cX5_branchPart 34 = .ok (.ireturn, 1) := by decide +kernel
theorem dX5_heldPart_0 : decode cX5_heldPart 0 = .ok (.iload_n 1, 1) := by decide +kernel
theorem dX5_heldPart_1 : decode cX5_heldPart 1 = .ok (.ifCond .lt 17, 3) := by decide +kernel
theorem dX5_heldPart_4 : decode cX5_heldPart 4 = .ok (.iload_n 1, 1) := by decide +kernel
theorem dX5_heldPart_5 : decode cX5_heldPart 5 = .ok (.aload_n 0, 1) := by decide +kernel
theorem dX5_heldPart_6 : decode cX5_heldPart 6 = .ok (.getfield 46, 3) := by decide +kernel
theorem dX5_heldPart_9 : decode cX5_heldPart 9 = .ok (.if_icmp .ge 9, 3) := by decide +kernel
theorem dX5_heldPart_12 : decode cX5_heldPart 12 = .ok (.iload_n 1, 1) := by decide +kernel
theorem dX5_heldPart_13 : decode cX5_heldPart 13 = .ok (.bipush 7, 2) := by decide +kernel
theorem dX5_heldPart_15 : decode cX5_heldPart 15 = .ok (.if_icmp .le 5, 3) := by decide +kernel
theorem dX5_heldPart_18 : decode cX5_heldPart 18 = .ok (.iconst 0, 1) := by decide +kernel
theorem dX5_heldPart_19 : decode cX5_heldPart 19 = .ok (.ireturn, 1) := by decide +kernel
theorem dX5_heldPart_20 : decode cX5_heldPart 20 = .ok (.iload_n 1, 1) := by decide +kernel
theorem dX5_heldPart_21 : decode cX5_heldPart 21 = .ok (.aload_n 0, 1) := by decide +kernel
theorem dX5_heldPart_22 : decode cX5_heldPart 22 = .ok (.getfield 49, 3) := by decide +kernel
theorem dX5_heldPart_25 : decode cX5_heldPart 25 = .ok (.if_icmp .ge 7, 3) := by decide +kernel
theorem dX5_heldPart_28 : decode cX5_heldPart 28 = .ok (.iconst 1, 1) := by decide +kernel
theorem dX5_heldPart_29 : decode cX5_heldPart 29 = .ok (.goto 4, 3) := by decide +kernel
theorem dX5_heldPart_32 : decode cX5_heldPart 32 = .ok (.iconst 0, 1) := by decide +kernel
theorem dX5_heldPart_33 : decode cX5_heldPart 33 = .ok (.istore_n 3, 1) := by decide +kernel
theorem dX5_heldPart_34 : decode cX5_heldPart 34 = .ok (.iload_n 2, 1) := by decide +kernel
theorem dX5_heldPart_35 : decode cX5_heldPart 35 = .ok (.tableswitch 87 0 4 #[33, 40, 47, 57, 72], 33) := by decide +kernel
theorem dX5_heldPart_68 : decode cX5_heldPart 68 = .ok (.aload_n 0, 1) := by decide +kernel
theorem dX5_heldPart_69 : decode cX5_heldPart 69 = .ok (.getfield 21, 3) := by decide +kernel
theorem dX5_heldPart_72 : decode cX5_heldPart 72 = .ok (.iload_n 1, 1) := by decide +kernel
theorem dX5_heldPart_73 : decode cX5_heldPart 73 = .ok (.iaload, 1) := by decide +kernel
theorem dX5_heldPart_74 : decode cX5_heldPart 74 = .ok (.ireturn, 1) := by decide +kernel
theorem dX5_heldPart_75 : decode cX5_heldPart 75 = .ok (.aload_n 0, 1) := by decide +kernel
theorem dX5_heldPart_76 : decode cX5_heldPart 76 = .ok (.getfield 24, 3) := by decide +kernel
theorem dX5_heldPart_79 : decode cX5_heldPart 79 = .ok (.iload_n 1, 1) := by decide +kernel
theorem dX5_heldPart_80 : decode cX5_heldPart 80 = .ok (.iaload, 1) := by decide +kernel
theorem dX5_heldPart_81 : decode cX5_heldPart 81 = .ok (.ireturn, 1) := by decide +kernel
theorem dX5_heldPart_82 : decode cX5_heldPart 82 = .ok (.iload_n 3, 1) := by decide +kernel
theorem dX5_heldPart_83 : decode cX5_heldPart 83 = .ok (.ifCond .eq 7, 3) := by decide +kernel
theorem dX5_heldPart_86 : decode cX5_heldPart 86 = .ok (.iconst 1, 1) := by decide +kernel
theorem dX5_heldPart_87 : decode cX5_heldPart 87 = .ok (.goto 4, 3) := by decide +kernel
theorem dX5_heldPart_90 : decode cX5_heldPart 90 = .ok (.iconst 0, 1) := by decide +kernel
theorem dX5_heldPart_91 : decode cX5_heldPart 91 = .ok (.ireturn, 1) := by decide +kernel
theorem dX5_heldPart_92 : decode cX5_heldPart 92 = .ok (.iload_n 3, 1) := by decide +kernel
theorem dX5_heldPart_93 : decode cX5_heldPart 93 = .ok (.ifCond .eq 12, 3) := by decide +kernel
theorem dX5_heldPart_96 : decode cX5_heldPart 96 = .ok (.aload_n 0, 1) := by decide +kernel
theorem dX5_heldPart_97 : decode cX5_heldPart 97 = .ok (.getfield 27, 3) := by decide +kernel
theorem dX5_heldPart_100 : decode cX5_heldPart 100 = .ok (.iload_n 1, 1) := by decide +kernel
theorem dX5_heldPart_101 : decode cX5_heldPart 101 = .ok (.iaload, 1) := by decide +kernel
theorem dX5_heldPart_102 : decode cX5_heldPart 102 = .ok (.goto 4, 3) := by decide +kernel
theorem dX5_heldPart_105 : decode cX5_heldPart 105 = .ok (.iconst 0, 1) := by decide +kernel
theorem dX5_heldPart_106 : decode cX5_heldPart 106 = .ok (.ireturn, 1) := by decide +kernel
theorem dX5_heldPart_107 : decode cX5_heldPart 107 = .ok (.iload_n 3, 1) := by decide +kernel
theorem dX5_heldPart_108 : decode cX5_heldPart 108 = .ok (.ifCond .eq 12, 3) := by decide +kernel
theorem dX5_heldPart_111 : decode cX5_heldPart 111 = .ok (.aload_n 0, 1) := by decide +kernel
theorem dX5_heldPart_112 : decode cX5_heldPart 112 = .ok (.getfield 30, 3) := by decide +kernel
theorem dX5_heldPart_115 : decode cX5_heldPart 115 = .ok (.iload_n 1, 1) := by decide +kernel
theorem dX5_heldPart_116 : decode cX5_heldPart 116 = .ok (.iaload, 1) := by decide +kernel
theorem dX5_heldPart_117 : decode cX5_heldPart 117 = .ok (.goto 4, 3) := by decide +kernel
theorem dX5_heldPart_120 : decode cX5_heldPart 120 = .ok (.iconst 0, 1) := by decide +kernel
theorem dX5_heldPart_121 : decode cX5_heldPart 121 = .ok (.ireturn, 1) := by decide +kernel
theorem dX5_heldPart_122 : decode cX5_heldPart 122 = .ok (.iconst 0, 1) := by decide +kernel
theorem dX5_heldPart_123 : decode cX5_heldPart 123 = .ok (.ireturn, 1) := by decide +kernel
theorem dX6_init_0 : decode cX6_init 0 = .ok (.aload_n 0, 1) := by decide +kernel
theorem dX6_init_1 : decode cX6_init 1 = .ok (.invokespecial 3, 3) := by decide +kernel
theorem dX6_init_4 : decode cX6_init 4 = .ok (.aload_n 0, 1) := by decide +kernel
theorem dX6_init_5 : decode cX6_init 5 = .ok (.sipush 700, 3) := by decide +kernel
theorem dX6_init_8 : decode cX6_init 8 = .ok (.newarray .byte, 2) := by decide +kernel
theorem dX6_init_10 : decode cX6_init 10 = .ok (.putfield 11, 3) := by decide +kernel
theorem dX6_init_13 : decode cX6_init 13 = .ok (.aload_n 0, 1) := by decide +kernel
theorem dX6_init_14 : decode cX6_init 14 = .ok (.iconst (-1), 1) := by decide +kernel
theorem dX6_init_15 : decode cX6_init 15 = .ok (.putfield 15, 3) := by decide +kernel
theorem dX6_init_18 : decode cX6_init 18 = .ok (.aload_n 0, 1) := by decide +kernel
theorem dX6_init_19 : decode cX6_init 19 = .ok (.bipush 25, 2) := by decide +kernel
theorem dX6_init_21 : decode cX6_init 21 = .ok (.newarray .int, 2) := by decide +kernel
theorem dX6_init_23 : decode cX6_init 23 = .ok (.putfield 19, 3) := by decide +kernel
theorem dX6_init_26 : decode cX6_init 26 = .ok (.aload_n 0, 1) := by decide +kernel
theorem dX6_init_27 : decode cX6_init 27 = .ok (.bipush 75, 2) := by decide +kernel
theorem dX6_init_29 : decode cX6_init 29 = .ok (.newarray .int, 2) := by decide +kernel
theorem dX6_init_31 : decode cX6_init 31 = .ok (.putfield 23, 3) := by decide +kernel
theorem dX6_init_34 : decode cX6_init 34 = .ok (.aload_n 0, 1) := by decide +kernel
theorem dX6_init_35 : decode cX6_init 35 = .ok (.iconst 3, 1) := by decide +kernel
theorem dX6_init_36 : decode cX6_init 36 = .ok (.newarray .int, 2) := by decide +kernel
theorem dX6_init_38 : decode cX6_init 38 = .ok (.putfield 26, 3) := by decide +kernel
theorem dX6_init_41 : decode cX6_init 41 = .ok (.aload_n 0, 1) := by decide +kernel
theorem dX6_init_42 : decode cX6_init 42 = .ok (.bipush 64, 2) := by decide +kernel
theorem dX6_init_44 : decode cX6_init 44 = .ok (.newarray .int, 2) := by decide +kernel
theorem dX6_init_46 : decode cX6_init 46 = .ok (.putfield 29, 3) := by decide +kernel
theorem dX6_init_49 : decode cX6_init 49 = .ok (.aload_n 0, 1) := by decide +kernel
theorem dX6_init_50 : decode cX6_init 50 = .ok (.ldc 32, 2) := by decide +kernel
theorem dX6_init_52 : decode cX6_init 52 = .ok (.iconst 0, 1) := by decide +kernel
theorem dX6_init_53 : decode cX6_init 53 = .ok (.invokevirtual 34, 3) := by decide +kernel
theorem dX6_init_56 : decode cX6_init 56 = .ok (.aload_n 0, 1) := by decide +kernel
theorem dX6_init_57 : decode cX6_init 57 = .ok (.ldc 38, 2) := by decide +kernel
theorem dX6_init_59 : decode cX6_init 59 = .ok (.bipush 7, 2) := by decide +kernel
theorem dX6_init_61 : decode cX6_init 61 = .ok (.invokevirtual 34, 3) := by decide +kernel
theorem dX6_init_64 : decode cX6_init 64 = .ok (.aload_n 0, 1) := by decide +kernel
theorem dX6_init_65 : decode cX6_init 65 = .ok (.ldc 40, 2) := by decide +kernel
theorem dX6_init_67 : decode cX6_init 67 = .ok (.bipush 16, 2) := by decide +kernel
theorem dX6_init_69 : decode cX6_init 69 = .ok (.invokevirtual 34, 3) := by decide +kernel
theorem dX6_init_72 : decode cX6_init 72 = .ok (.return_, 1) := by decide +kernel
theorem dX6_enter_0 : decode cX6_enter 0 = .ok (.iconst 0, 1) := by decide +kernel
theorem dX6_enter_1 : decode cX6_enter 1 = .ok (.istore_n 3, 1) := by decide +kernel
theorem dX6_enter_2 : decode cX6_enter 2 = .ok (.iload_n 3, 1) := by decide +kernel
theorem dX6_enter_3 : decode cX6_enter 3 = .ok (.aload_n 1, 1) := by decide +kernel
theorem dX6_enter_4 : decode cX6_enter 4 = .ok (.invokevirtual 42, 3) := by decide +kernel
theorem dX6_enter_7 : decode cX6_enter 7 = .ok (.if_icmp .ge 99, 3) := by decide +kernel
theorem dX6_enter_10 : decode cX6_enter 10 = .ok (.iload_n 2, 1) := by decide +kernel
theorem dX6_enter_11 : decode cX6_enter 11 = .ok (.iload_n 3, 1) := by decide +kernel
theorem dX6_enter_12 : decode cX6_enter 12 = .ok (.bipush 9, 2) := by decide +kernel
theorem dX6_enter_14 : decode cX6_enter 14 = .ok (.idiv, 1) := by decide +kernel
theorem dX6_enter_15 : decode cX6_enter 15 = .ok (.iadd, 1) := by decide +kernel
theorem dX6_enter_16 : decode cX6_enter 16 = .ok (.istore 4, 2) := by decide +kernel
theorem dX6_enter_18 : decode cX6_enter 18 = .ok (.iload_n 3, 1) := by decide +kernel
theorem dX6_enter_19 : decode cX6_enter 19 = .ok (.bipush 9, 2) := by decide +kernel
theorem dX6_enter_21 : decode cX6_enter 21 = .ok (.irem, 1) := by decide +kernel
theorem dX6_enter_22 : decode cX6_enter 22 = .ok (.istore 5, 2) := by decide +kernel
theorem dX6_enter_24 : decode cX6_enter 24 = .ok (.iload 4, 2) := by decide +kernel
theorem dX6_enter_26 : decode cX6_enter 26 = .ok (.iconst 3, 1) := by decide +kernel
theorem dX6_enter_27 : decode cX6_enter 27 = .ok (.imul, 1) := by decide +kernel
theorem dX6_enter_28 : decode cX6_enter 28 = .ok (.iload 5, 2) := by decide +kernel
theorem dX6_enter_30 : decode cX6_enter 30 = .ok (.iadd, 1) := by decide +kernel
theorem dX6_enter_31 : decode cX6_enter 31 = .ok (.bipush 6, 2) := by decide +kernel
theorem dX6_enter_33 : decode cX6_enter 33 = .ok (.isub, 1) := by decide +kernel
theorem dX6_enter_34 : decode cX6_enter 34 = .ok (.istore 6, 2) := by decide +kernel
theorem dX6_enter_36 : decode cX6_enter 36 = .ok (.iload 5, 2) := by decide +kernel
theorem dX6_enter_38 : decode cX6_enter 38 = .ok (.bipush 6, 2) := by decide +kernel
theorem dX6_enter_40 : decode cX6_enter 40 = .ok (.if_icmp .ge 33, 3) := by decide +kernel
theorem dX6_enter_43 : decode cX6_enter 43 = .ok (.iload 4, 2) := by decide +kernel
theorem dX6_enter_45 : decode cX6_enter 45 = .ok (.bipush 25, 2) := by decide +kernel
theorem dX6_enter_47 : decode cX6_enter 47 = .ok (.if_icmp .ge 26, 3) := by decide +kernel
theorem dX6_enter_50 : decode cX6_enter 50 = .ok (.aload_n 0, 1) := by decide +kernel
theorem dX6_enter_51 : decode cX6_enter 51 = .ok (.getfield 19, 3) := by decide +kernel
theorem dX6_enter_54 : decode cX6_enter 54 = .ok (.iload 4, 2) := by decide +kernel
theorem dX6_enter_56 : decode cX6_enter 56 = .ok (.dup2, 1) := by decide +kernel
theorem dX6_enter_57 : decode cX6_enter 57 = .ok (.iaload, 1) := by decide +kernel
theorem dX6_enter_58 : decode cX6_enter 58 = .ok (.aload_n 1, 1) := by decide +kernel
theorem dX6_enter_59 : decode cX6_enter 59 = .ok (.iload_n 3, 1) := by decide +kernel
theorem dX6_enter_60 : decode cX6_enter 60 = .ok (.invokevirtual 48, 3) := by decide +kernel
theorem dX6_enter_63 : decode cX6_enter 63 = .ok (.iload 5, 2) := by decide +kernel
theorem dX6_enter_65 : decode cX6_enter 65 = .ok (.invokestatic 52, 3) := by decide +kernel
theorem dX6_enter_68 : decode cX6_enter 68 = .ok (.ior, 1) := by decide +kernel
theorem dX6_enter_69 : decode cX6_enter 69 = .ok (.iastore, 1) := by decide +kernel
theorem dX6_enter_70 : decode cX6_enter 70 = .ok (.goto 30, 3) := by decide +kernel
theorem dX6_enter_73 : decode cX6_enter 73 = .ok (.iload 6, 2) := by decide +kernel
theorem dX6_enter_75 : decode cX6_enter 75 = .ok (.ifCond .lt 25, 3) := by decide +kernel
theorem dX6_enter_78 : decode cX6_enter 78 = .ok (.iload 6, 2) := by decide +kernel
theorem dX6_enter_80 : decode cX6_enter 80 = .ok (.aload_n 0, 1) := by decide +kernel
theorem dX6_enter_81 : decode cX6_enter 81 = .ok (.getfield 23, 3) := by decide +kernel
theorem dX6_enter_84 : decode cX6_enter 84 = .ok (.arraylength, 1) := by decide +kernel
theorem dX6_enter_85 : decode cX6_enter 85 = .ok (.if_icmp .ge 15, 3) := by decide +kernel
theorem dX6_enter_88 : decode cX6_enter 88 = .ok (.aload_n 0, 1) := by decide +kernel
theorem dX6_enter_89 : decode cX6_enter 89 = .ok (.getfield 23, 3) := by decide +kernel
theorem dX6_enter_92 : decode cX6_enter 92 = .ok (.iload 6, 2) := by decide +kernel
theorem dX6_enter_94 : decode cX6_enter 94 = .ok (.aload_n 1, 1) := by decide +kernel
theorem dX6_enter_95 : decode cX6_enter 95 = .ok (.iload_n 3, 1) := by decide +kernel
theorem dX6_enter_96 : decode cX6_enter 96 = .ok (.invokevirtual 48, 3) := by decide +kernel
theorem dX6_enter_99 : decode cX6_enter 99 = .ok (.iastore, 1) := by decide +kernel
theorem dX6_enter_100 : decode cX6_enter 100 = .ok (.iinc 3 1, 3) := by decide +kernel
theorem dX6_enter_103 : decode cX6_enter 103 = .ok (.goto (-101), 3) := by decide +kernel
theorem dX6_enter_106 : decode cX6_enter 106 = .ok (.return_, 1) := by decide +kernel
theorem dX6_letterBits_0 : decode cX6_letterBits 0 = .ok (.iload_n 0, 1) := by decide +kernel
theorem dX6_letterBits_1 : decode cX6_letterBits 1 = .ok (.bipush 97, 2) := by decide +kernel
theorem dX6_letterBits_3 : decode cX6_letterBits 3 = .ok (.if_icmp .lt 25, 3) := by decide +kernel
theorem dX6_letterBits_6 : decode cX6_letterBits 6 = .ok (.iload_n 0, 1) := by decide +kernel
theorem dX6_letterBits_7 : decode cX6_letterBits 7 = .ok (.bipush 122, 2) := by decide +kernel
theorem dX6_letterBits_9 : decode cX6_letterBits 9 = .ok (.if_icmp .gt 19, 3) := by decide +kernel
theorem dX6_letterBits_12 : decode cX6_letterBits 12 = .ok (.iload_n 0, 1) := by decide +kernel
theorem dX6_letterBits_13 : decode cX6_letterBits 13 = .ok (.bipush 97, 2) := by decide +kernel
theorem dX6_letterBits_15 : decode cX6_letterBits 15 = .ok (.isub, 1) := by decide +kernel
theorem dX6_letterBits_16 : decode cX6_letterBits 16 = .ok (.iconst 1, 1) := by decide +kernel
theorem dX6_letterBits_17 : decode cX6_letterBits 17 = .ok (.iadd, 1) := by decide +kernel
theorem dX6_letterBits_18 : decode cX6_letterBits 18 = .ok (.bipush 25, 2) := by decide +kernel
theorem dX6_letterBits_20 : decode cX6_letterBits 20 = .ok (.iconst 5, 1) := by decide +kernel
theorem dX6_letterBits_21 : decode cX6_letterBits 21 = .ok (.iload_n 1, 1) := by decide +kernel
theorem dX6_letterBits_22 : decode cX6_letterBits 22 = .ok (.imul, 1) := by decide +kernel
theorem dX6_letterBits_23 : decode cX6_letterBits 23 = .ok (.isub, 1) := by decide +kernel
theorem dX6_letterBits_24 : decode cX6_letterBits 24 = .ok (.ishl, 1) := by decide +kernel
theorem dX6_letterBits_25 : decode cX6_letterBits 25 = .ok (.goto 4, 3) := by decide +kernel
theorem dX6_letterBits_28 : decode cX6_letterBits 28 = .ok (.iconst 0, 1) := by decide +kernel
theorem dX6_letterBits_29 : decode cX6_letterBits 29 = .ok (.ireturn, 1) := by decide +kernel
theorem dX6_hasRoom_0 : decode cX6_hasRoom 0 = .ok (.aload_n 0, 1) := by decide +kernel
theorem dX6_hasRoom_1 : decode cX6_hasRoom 1 = .ok (.getfield 56, 3) := by decide +kernel
theorem dX6_hasRoom_4 : decode cX6_hasRoom 4 = .ok (.bipush 20, 2) := by decide +kernel
theorem dX6_hasRoom_6 : decode cX6_hasRoom 6 = .ok (.iadd, 1) := by decide +kernel
theorem dX6_hasRoom_7 : decode cX6_hasRoom 7 = .ok (.sipush 700, 3) := by decide +kernel
theorem dX6_hasRoom_10 : decode cX6_hasRoom 10 = .ok (.if_icmp .gt 7, 3) := by decide +kernel
theorem dX6_hasRoom_13 : decode cX6_hasRoom 13 = .ok (.iconst 1, 1) := by decide +kernel
theorem dX6_hasRoom_14 : decode cX6_hasRoom 14 = .ok (.goto 4, 3) := by decide +kernel
theorem dX6_hasRoom_17 : decode cX6_hasRoom 17 = .ok (.iconst 0, 1) := by decide +kernel
theorem dX6_hasRoom_18 : decode cX6_hasRoom 18 = .ok (.ireturn, 1) := by decide +kernel
theorem dX6_append_0 : decode cX6_append 0 = .ok (.bipush 24, 2) := by decide +kernel
theorem dX6_append_2 : decode cX6_append 2 = .ok (.istore_n 2, 1) := by decide +kernel
theorem dX6_append_3 : decode cX6_append 3 = .ok (.iload_n 2, 1) := by decide +kernel
theorem dX6_append_4 : decode cX6_append 4 = .ok (.ifCond .lt 49, 3) := by decide +kernel
theorem dX6_append_7 : decode cX6_append 7 = .ok (.aload_n 0, 1) := by decide +kernel
theorem dX6_append_8 : decode cX6_append 8 = .ok (.getfield 56, 3) := by decide +kernel
theorem dX6_append_11 : decode cX6_append 11 = .ok (.ifCond .lt 42, 3) := by decide +kernel
theorem dX6_append_14 : decode cX6_append 14 = .ok (.aload_n 0, 1) := by decide +kernel
theorem dX6_append_15 : decode cX6_append 15 = .ok (.getfield 56, 3) := by decide +kernel
theorem dX6_append_18 : decode cX6_append 18 = .ok (.sipush 700, 3) := by decide +kernel
theorem dX6_append_21 : decode cX6_append 21 = .ok (.if_icmp .ge 32, 3) := by decide +kernel
theorem dX6_append_24 : decode cX6_append 24 = .ok (.aload_n 0, 1) := by decide +kernel
theorem dX6_append_25 : decode cX6_append 25 = .ok (.getfield 11, 3) := by decide +kernel
theorem dX6_append_28 : decode cX6_append 28 = .ok (.aload_n 0, 1) := by decide +kernel
theorem dX6_append_29 : decode cX6_append 29 = .ok (.getfield 56, 3) := by decide +kernel
theorem dX6_append_32 : decode cX6_append 32 = .ok (.iload_n 1, 1) := by decide +kernel
theorem dX6_append_33 : decode cX6_append 33 = .ok (.iload_n 2, 1) := by decide +kernel
theorem dX6_append_34 : decode cX6_append 34 = .ok (.ishr, 1) := by decide +kernel
theorem dX6_append_35 : decode cX6_append 35 = .ok (.i2b, 1) := by decide +kernel
theorem dX6_append_36 : decode cX6_append 36 = .ok (.bastore, 1) := by decide +kernel
theorem dX6_append_37 : decode cX6_append 37 = .ok (.aload_n 0, 1) := by decide +kernel
theorem dX6_append_38 : decode cX6_append 38 = .ok (.dup, 1) := by decide +kernel
theorem dX6_append_39 : decode cX6_append 39 = .ok (.getfield 56, 3) := by decide +kernel
theorem dX6_append_42 : decode cX6_append 42 = .ok (.iconst 1, 1) := by decide +kernel
theorem dX6_append_43 : decode cX6_append 43 = .ok (.iadd, 1) := by decide +kernel
theorem dX6_append_44 : decode cX6_append 44 = .ok (.putfield 56, 3) := by decide +kernel
theorem dX6_append_47 : decode cX6_append 47 = .ok (.iinc 2 (-8), 3) := by decide +kernel
theorem dX6_append_50 : decode cX6_append 50 = .ok (.goto (-47), 3) := by decide +kernel
theorem dX6_append_53 : decode cX6_append 53 = .ok (.return_, 1) := by decide +kernel
theorem dX6_readText_0 : decode cX6_readText 0 = .ok (.aload_n 0, 1) := by decide +kernel
theorem dX6_readText_1 : decode cX6_readText 1 = .ok (.iload_n 2, 1) := by decide +kernel
theorem dX6_readText_2 : decode cX6_readText 2 = .ok (.putfield 59, 3) := by decide +kernel
theorem dX6_readText_5 : decode cX6_readText 5 = .ok (.aload_n 0, 1) := by decide +kernel
theorem dX6_readText_6 : decode cX6_readText 6 = .ok (.iconst 0, 1) := by decide +kernel
theorem dX6_readText_7 : decode cX6_readText 7 = .ok (.putfield 62, 3) := by decide +kernel
theorem dX6_readText_10 : decode cX6_readText 10 = .ok (.aload_n 0, 1) := by decide +kernel
theorem dX6_readText_11 : decode cX6_readText 11 = .ok (.iconst 0, 1) := by decide +kernel
theorem dX6_readText_12 : decode cX6_readText 12 = .ok (.putfield 65, 3) := by decide +kernel
theorem dX6_readText_15 : decode cX6_readText 15 = .ok (.aload_n 0, 1) := by decide +kernel
theorem dX6_readText_16 : decode cX6_readText 16 = .ok (.iconst (-1), 1) := by decide +kernel
theorem dX6_readText_17 : decode cX6_readText 17 = .ok (.putfield 15, 3) := by decide +kernel
theorem dX6_readText_20 : decode cX6_readText 20 = .ok (.aload_n 0, 1) := by decide +kernel
theorem dX6_readText_21 : decode cX6_readText 21 = .ok (.iconst 0, 1) := by decide +kernel
theorem dX6_readText_22 : decode cX6_readText 22 = .ok (.putfield 68, 3) := by decide +kernel
theorem dX6_readText_25 : decode cX6_readText 25 = .ok (.aload_n 0, 1) := by decide +kernel
theorem dX6_readText_26 : decode cX6_readText 26 = .ok (.iconst 0, 1) := by decide +kernel
theorem dX6_readText_27 : decode cX6_readText 27 = .ok (.putfield 71, 3) := by decide +kernel
theorem dX6_readText_30 : decode cX6_readText 30 = .ok (.aload_n 0, 1) := by decide +kernel
theorem dX6_readText_31 : decode cX6_readText 31 = .ok (.iconst 0, 1) := by decide +kernel
theorem dX6_readText_32 : decode cX6_readText 32 = .ok (.putfield 56, 3) := by decide +kernel
theorem dX6_readText_35 : decode cX6_readText 35 = .ok (.aload_n 1, 1) := by decide +kernel
theorem dX6_readText_36 : decode cX6_readText 36 = .ok (.invokevirtual 74, 3) := by decide +kernel
theorem dX6_readText_39 : decode cX6_readText 39 = .ok (.aload_n 0, 1) := by decide +kernel
theorem dX6_readText_40 : decode cX6_readText 40 = .ok (.invokevirtual 79, 3) := by decide +kernel
theorem dX6_readText_43 : decode cX6_readText 43 = .ok (.iconst 0, 1) := by decide +kernel
theorem dX6_readText_44 : decode cX6_readText 44 = .ok (.istore_n 3, 1) := by decide +kernel
theorem dX6_readText_45 : decode cX6_readText 45 = .ok (.iload_n 3, 1) := by decide +kernel
theorem dX6_readText_46 : decode cX6_readText 46 = .ok (.sipush 700, 3) := by decide +kernel
theorem dX6_readText_49 : decode cX6_readText 49 = .ok (.if_icmp .ge 32, 3) := by decide +kernel
theorem dX6_readText_52 : decode cX6_readText 52 = .ok (.aload_n 0, 1) := by decide +kernel
theorem dX6_readText_53 : decode cX6_readText 53 = .ok (.getfield 82, 3) := by decide +kernel
theorem dX6_readText_56 : decode cX6_readText 56 = .ok (.ifCond .eq 25, 3) := by decide +kernel
theorem dX6_readText_59 : decode cX6_readText 59 = .ok (.aload_n 0, 1) := by decide +kernel
theorem dX6_readText_60 : decode cX6_readText 60 = .ok (.getfield 65, 3) := by decide +kernel
theorem dX6_readText_63 : decode cX6_readText 63 = .ok (.ifCond .ne 18, 3) := by decide +kernel
theorem dX6_readText_66 : decode cX6_readText 66 = .ok (.aload_n 0, 1) := by decide +kernel
theorem dX6_readText_67 : decode cX6_readText 67 = .ok (.aload_n 1, 1) := by decide +kernel
theorem dX6_readText_68 : decode cX6_readText 68 = .ok (.invokevirtual 85, 3) := by decide +kernel
theorem dX6_readText_71 : decode cX6_readText 71 = .ok (.aload_n 0, 1) := by decide +kernel
theorem dX6_readText_72 : decode cX6_readText 72 = .ok (.invokevirtual 79, 3) := by decide +kernel
theorem dX6_readText_75 : decode cX6_readText 75 = .ok (.iinc 3 1, 3) := by decide +kernel
theorem dX6_readText_78 : decode cX6_readText 78 = .ok (.goto (-33), 3) := by decide +kernel
theorem dX6_readText_81 : decode cX6_readText 81 = .ok (.aload_n 0, 1) := by decide +kernel
theorem dX6_readText_82 : decode cX6_readText 82 = .ok (.aload_n 1, 1) := by decide +kernel
theorem dX6_readText_83 : decode cX6_readText 83 = .ok (.invokevirtual 89, 3) := by decide +kernel
theorem dX6_readText_86 : decode cX6_readText 86 = .ok (.return_, 1) := by decide +kernel
theorem dX6_findNames_0 : decode cX6_findNames 0 = .ok (.iconst 0, 1) := by decide +kernel
theorem dX6_findNames_1 : decode cX6_findNames 1 = .ok (.istore_n 2, 1) := by decide +kernel
theorem dX6_findNames_2 : decode cX6_findNames 2 = .ok (.iload_n 2, 1) := by decide +kernel
theorem dX6_findNames_3 : decode cX6_findNames 3 = .ok (.aload_n 1, 1) := by decide +kernel
theorem dX6_findNames_4 : decode cX6_findNames 4 = .ok (.getfield 92, 3) := by decide +kernel
theorem dX6_findNames_7 : decode cX6_findNames 7 = .ok (.if_icmp .ge 67, 3) := by decide +kernel
theorem dX6_findNames_10 : decode cX6_findNames 10 = .ok (.iload_n 2, 1) := by decide +kernel
theorem dX6_findNames_11 : decode cX6_findNames 11 = .ok (.bipush 40, 2) := by decide +kernel
theorem dX6_findNames_13 : decode cX6_findNames 13 = .ok (.if_icmp .ge 61, 3) := by decide +kernel
theorem dX6_findNames_16 : decode cX6_findNames 16 = .ok (.aload_n 0, 1) := by decide +kernel
theorem dX6_findNames_17 : decode cX6_findNames 17 = .ok (.getfield 65, 3) := by decide +kernel
theorem dX6_findNames_20 : decode cX6_findNames 20 = .ok (.ifCond .ne 54, 3) := by decide +kernel
theorem dX6_findNames_23 : decode cX6_findNames 23 = .ok (.aload_n 1, 1) := by decide +kernel
theorem dX6_findNames_24 : decode cX6_findNames 24 = .ok (.getfield 95, 3) := by decide +kernel
theorem dX6_findNames_27 : decode cX6_findNames 27 = .ok (.iload_n 2, 1) := by decide +kernel
theorem dX6_findNames_28 : decode cX6_findNames 28 = .ok (.iaload, 1) := by decide +kernel
theorem dX6_findNames_29 : decode cX6_findNames 29 = .ok (.bipush 14, 2) := by decide +kernel
theorem dX6_findNames_31 : decode cX6_findNames 31 = .ok (.if_icmp .lt 37, 3) := by decide +kernel
theorem dX6_findNames_34 : decode cX6_findNames 34 = .ok (.aload_n 1, 1) := by decide +kernel
theorem dX6_findNames_35 : decode cX6_findNames 35 = .ok (.aload_n 1, 1) := by decide +kernel
theorem dX6_findNames_36 : decode cX6_findNames 36 = .ok (.getfield 98, 3) := by decide +kernel
theorem dX6_findNames_39 : decode cX6_findNames 39 = .ok (.iload_n 2, 1) := by decide +kernel
theorem dX6_findNames_40 : decode cX6_findNames 40 = .ok (.iaload, 1) := by decide +kernel
theorem dX6_findNames_41 : decode cX6_findNames 41 = .ok (.invokevirtual 101, 3) := by decide +kernel
theorem dX6_findNames_44 : decode cX6_findNames 44 = .ok (.istore_n 3, 1) := by decide +kernel
theorem dX6_findNames_45 : decode cX6_findNames 45 = .ok (.iload_n 3, 1) := by decide +kernel
theorem dX6_findNames_46 : decode cX6_findNames 46 = .ok (.iconst (-1), 1) := by decide +kernel
theorem dX6_findNames_47 : decode cX6_findNames 47 = .ok (.if_icmp .ne 14, 3) := by decide +kernel
theorem dX6_findNames_50 : decode cX6_findNames 50 = .ok (.aload_n 0, 1) := by decide +kernel
theorem dX6_findNames_51 : decode cX6_findNames 51 = .ok (.iconst 4, 1) := by decide +kernel
theorem dX6_findNames_52 : decode cX6_findNames 52 = .ok (.aload_n 0, 1) := by decide +kernel
theorem dX6_findNames_53 : decode cX6_findNames 53 = .ok (.getfield 29, 3) := by decide +kernel
theorem dX6_findNames_56 : decode cX6_findNames 56 = .ok (.iload_n 2, 1) := by decide +kernel
theorem dX6_findNames_57 : decode cX6_findNames 57 = .ok (.iaload, 1) := by decide +kernel
theorem dX6_findNames_58 : decode cX6_findNames 58 = .ok (.invokevirtual 105, 3) := by decide +kernel
theorem dX6_findNames_61 : decode cX6_findNames 61 = .ok (.aload_n 1, 1) := by decide +kernel
theorem dX6_findNames_62 : decode cX6_findNames 62 = .ok (.getfield 98, 3) := by decide +kernel
theorem dX6_findNames_65 : decode cX6_findNames 65 = .ok (.iload_n 2, 1) := by decide +kernel
theorem dX6_findNames_66 : decode cX6_findNames 66 = .ok (.iload_n 3, 1) := by decide +kernel
theorem dX6_findNames_67 : decode cX6_findNames 67 = .ok (.iastore, 1) := by decide +kernel
theorem dX6_findNames_68 : decode cX6_findNames 68 = .ok (.iinc 2 1, 3) := by decide +kernel
theorem dX6_findNames_71 : decode cX6_findNames 71 = .ok (.goto (-69), 3) := by decide +kernel
theorem dX6_findNames_74 : decode cX6_findNames 74 = .ok (.return_, 1) := by decide +kernel
theorem dX6_readLine_0 : decode cX6_readLine 0 = .ok (.aload_n 0, 1) := by decide +kernel
theorem dX6_readLine_1 : decode cX6_readLine 1 = .ok (.getfield 82, 3) := by decide +kernel
theorem dX6_readLine_4 : decode cX6_readLine 4 = .ok (.iconst 1, 1) := by decide +kernel
theorem dX6_readLine_5 : decode cX6_readLine 5 = .ok (.if_icmp .ne 14, 3) := by decide +kernel
theorem dX6_readLine_8 : decode cX6_readLine 8 = .ok (.aload_n 0, 1) := by decide +kernel
theorem dX6_readLine_9 : decode cX6_readLine 9 = .ok (.aload_n 0, 1) := by decide +kernel
theorem dX6_readLine_10 : decode cX6_readLine 10 = .ok (.getfield 109, 3) := by decide +kernel
theorem dX6_readLine_13 : decode cX6_readLine 13 = .ok (.invokevirtual 112, 3) := by decide +kernel
theorem dX6_readLine_16 : decode cX6_readLine 16 = .ok (.goto 4, 3) := by decide +kernel
theorem dX6_readLine_19 : decode cX6_readLine 19 = .ok (.iconst (-1), 1) := by decide +kernel
theorem dX6_readLine_20 : decode cX6_readLine 20 = .ok (.istore_n 2, 1) := by decide +kernel
theorem dX6_readLine_21 : decode cX6_readLine 21 = .ok (.iload_n 2, 1) := by decide +kernel
theorem dX6_readLine_22 : decode cX6_readLine 22 = .ok (.iconst (-1), 1) := by decide +kernel
theorem dX6_readLine_23 : decode cX6_readLine 23 = .ok (.if_icmp .ne 15, 3) := by decide +kernel
theorem dX6_readLine_26 : decode cX6_readLine 26 = .ok (.aload_n 0, 1) := by decide +kernel
theorem dX6_readLine_27 : decode cX6_readLine 27 = .ok (.iconst 1, 1) := by decide +kernel
theorem dX6_readLine_28 : decode cX6_readLine 28 = .ok (.aload_n 0, 1) := by decide +kernel
theorem dX6_readLine_29 : decode cX6_readLine 29 = .ok (.getfield 115, 3) := by decide +kernel
theorem dX6_readLine_32 : decode cX6_readLine 32 = .ok (.invokevirtual 105, 3) := by decide +kernel
theorem dX6_readLine_35 : decode cX6_readLine 35 = .ok (.goto 51, 3) := by decide +kernel
theorem dX6_readLine_38 : decode cX6_readLine 38 = .ok (.iload_n 2, 1) := by decide +kernel
theorem dX6_readLine_39 : decode cX6_readLine 39 = .ok (.bipush 7, 2) := by decide +kernel
theorem dX6_readLine_41 : decode cX6_readLine 41 = .ok (.if_icmp .lt 24, 3) := by decide +kernel
theorem dX6_readLine_44 : decode cX6_readLine 44 = .ok (.aload_n 1, 1) := by decide +kernel
theorem dX6_readLine_45 : decode cX6_readLine 45 = .ok (.getfield 92, 3) := by decide +kernel
theorem dX6_readLine_48 : decode cX6_readLine 48 = .ok (.bipush 40, 2) := by decide +kernel
theorem dX6_readLine_50 : decode cX6_readLine 50 = .ok (.if_icmp .lt 15, 3) := by decide +kernel
theorem dX6_readLine_53 : decode cX6_readLine 53 = .ok (.aload_n 0, 1) := by decide +kernel
theorem dX6_readLine_54 : decode cX6_readLine 54 = .ok (.iconst 2, 1) := by decide +kernel
theorem dX6_readLine_55 : decode cX6_readLine 55 = .ok (.aload_n 0, 1) := by decide +kernel
theorem dX6_readLine_56 : decode cX6_readLine 56 = .ok (.getfield 115, 3) := by decide +kernel
theorem dX6_readLine_59 : decode cX6_readLine 59 = .ok (.invokevirtual 105, 3) := by decide +kernel
theorem dX6_readLine_62 : decode cX6_readLine 62 = .ok (.goto 24, 3) := by decide +kernel
theorem dX6_readLine_65 : decode cX6_readLine 65 = .ok (.aload_n 0, 1) := by decide +kernel
theorem dX6_readLine_66 : decode cX6_readLine 66 = .ok (.getfield 68, 3) := by decide +kernel
theorem dX6_readLine_69 : decode cX6_readLine 69 = .ok (.iload_n 2, 1) := by decide +kernel
theorem dX6_readLine_70 : decode cX6_readLine 70 = .ok (.ishr, 1) := by decide +kernel
theorem dX6_readLine_71 : decode cX6_readLine 71 = .ok (.iconst 1, 1) := by decide +kernel
theorem dX6_readLine_72 : decode cX6_readLine 72 = .ok (.iand, 1) := by decide +kernel
theorem dX6_readLine_73 : decode cX6_readLine 73 = .ok (.iconst 1, 1) := by decide +kernel
theorem dX6_readLine_74 : decode cX6_readLine 74 = .ok (.if_icmp .ne 12, 3) := by decide +kernel
theorem dX6_readLine_77 : decode cX6_readLine 77 = .ok (.aload_n 0, 1) := by decide +kernel
theorem dX6_readLine_78 : decode cX6_readLine 78 = .ok (.iconst 3, 1) := by decide +kernel
theorem dX6_readLine_79 : decode cX6_readLine 79 = .ok (.aload_n 0, 1) := by decide +kernel
theorem dX6_readLine_80 : decode cX6_readLine 80 = .ok (.getfield 115, 3) := by decide +kernel
theorem dX6_readLine_83 : decode cX6_readLine 83 = .ok (.invokevirtual 105, 3) := by decide +kernel
theorem dX6_readLine_86 : decode cX6_readLine 86 = .ok (.aload_n 0, 1) := by decide +kernel
theorem dX6_readLine_87 : decode cX6_readLine 87 = .ok (.getfield 26, 3) := by decide +kernel
theorem dX6_readLine_90 : decode cX6_readLine 90 = .ok (.iconst 0, 1) := by decide +kernel
theorem dX6_readLine_91 : decode cX6_readLine 91 = .ok (.iconst 0, 1) := by decide +kernel
theorem dX6_readLine_92 : decode cX6_readLine 92 = .ok (.iastore, 1) := by decide +kernel
theorem dX6_readLine_93 : decode cX6_readLine 93 = .ok (.aload_n 0, 1) := by decide +kernel
theorem dX6_readLine_94 : decode cX6_readLine 94 = .ok (.getfield 26, 3) := by decide +kernel
theorem dX6_readLine_97 : decode cX6_readLine 97 = .ok (.iconst 1, 1) := by decide +kernel
theorem dX6_readLine_98 : decode cX6_readLine 98 = .ok (.iconst 0, 1) := by decide +kernel
theorem dX6_readLine_99 : decode cX6_readLine 99 = .ok (.iastore, 1) := by decide +kernel
theorem dX6_readLine_100 : decode cX6_readLine 100 = .ok (.aload_n 0, 1) := by decide +kernel
theorem dX6_readLine_101 : decode cX6_readLine 101 = .ok (.getfield 26, 3) := by decide +kernel
theorem dX6_readLine_104 : decode cX6_readLine 104 = .ok (.iconst 2, 1) := by decide +kernel
theorem dX6_readLine_105 : decode cX6_readLine 105 = .ok (.iconst 0, 1) := by decide +kernel
theorem dX6_readLine_106 : decode cX6_readLine 106 = .ok (.iastore, 1) := by decide +kernel
theorem dX6_readLine_107 : decode cX6_readLine 107 = .ok (.iconst 0, 1) := by decide +kernel
theorem dX6_readLine_108 : decode cX6_readLine 108 = .ok (.istore_n 3, 1) := by decide +kernel
theorem dX6_readLine_109 : decode cX6_readLine 109 = .ok (.iload_n 3, 1) := by decide +kernel
theorem dX6_readLine_110 : decode cX6_readLine 110 = .ok (.iconst 3, 1) := by decide +kernel
theorem dX6_readLine_111 : decode cX6_readLine 111 = .ok (.if_icmp .ge 43, 3) := by decide +kernel
theorem dX6_readLine_114 : decode cX6_readLine 114 = .ok (.aload_n 0, 1) := by decide +kernel
theorem dX6_readLine_115 : decode cX6_readLine 115 = .ok (.getfield 65, 3) := by decide +kernel
theorem dX6_readLine_118 : decode cX6_readLine 118 = .ok (.ifCond .ne 36, 3) := by decide +kernel
theorem dX6_readLine_121 : decode cX6_readLine 121 = .ok (.aload_n 0, 1) := by decide +kernel
theorem dX6_readLine_122 : decode cX6_readLine 122 = .ok (.iload_n 2, 1) := by decide +kernel
theorem dX6_readLine_123 : decode cX6_readLine 123 = .ok (.iload_n 3, 1) := by decide +kernel
theorem dX6_readLine_124 : decode cX6_readLine 124 = .ok (.invokevirtual 118, 3) := by decide +kernel
theorem dX6_readLine_127 : decode cX6_readLine 127 = .ok (.istore 4, 2) := by decide +kernel
theorem dX6_readLine_129 : decode cX6_readLine 129 = .ok (.iload 4, 2) := by decide +kernel
theorem dX6_readLine_131 : decode cX6_readLine 131 = .ok (.bipush 32, 2) := by decide +kernel
theorem dX6_readLine_133 : decode cX6_readLine 133 = .ok (.if_icmp .eq 15, 3) := by decide +kernel
theorem dX6_readLine_136 : decode cX6_readLine 136 = .ok (.aload_n 0, 1) := by decide +kernel
theorem dX6_readLine_137 : decode cX6_readLine 137 = .ok (.invokevirtual 79, 3) := by decide +kernel
theorem dX6_readLine_140 : decode cX6_readLine 140 = .ok (.aload_n 0, 1) := by decide +kernel
theorem dX6_readLine_141 : decode cX6_readLine 141 = .ok (.aload_n 1, 1) := by decide +kernel
theorem dX6_readLine_142 : decode cX6_readLine 142 = .ok (.iload 4, 2) := by decide +kernel
theorem dX6_readLine_144 : decode cX6_readLine 144 = .ok (.iload_n 3, 1) := by decide +kernel
theorem dX6_readLine_145 : decode cX6_readLine 145 = .ok (.invokevirtual 121, 3) := by decide +kernel
theorem dX6_readLine_148 : decode cX6_readLine 148 = .ok (.iinc 3 1, 3) := by decide +kernel
theorem dX6_readLine_151 : decode cX6_readLine 151 = .ok (.goto (-42), 3) := by decide +kernel
theorem dX6_readLine_154 : decode cX6_readLine 154 = .ok (.aload_n 0, 1) := by decide +kernel
theorem dX6_readLine_155 : decode cX6_readLine 155 = .ok (.getfield 65, 3) := by decide +kernel
theorem dX6_readLine_158 : decode cX6_readLine 158 = .ok (.ifCond .ne 24, 3) := by decide +kernel
theorem dX6_readLine_161 : decode cX6_readLine 161 = .ok (.aload_n 0, 1) := by decide +kernel
theorem dX6_readLine_162 : decode cX6_readLine 162 = .ok (.invokevirtual 79, 3) := by decide +kernel
theorem dX6_readLine_165 : decode cX6_readLine 165 = .ok (.aload_n 0, 1) := by decide +kernel
theorem dX6_readLine_166 : decode cX6_readLine 166 = .ok (.getfield 82, 3) := by decide +kernel
theorem dX6_readLine_169 : decode cX6_readLine 169 = .ok (.iconst 3, 1) := by decide +kernel
theorem dX6_readLine_170 : decode cX6_readLine 170 = .ok (.if_icmp .eq 12, 3) := by decide +kernel
theorem dX6_readLine_173 : decode cX6_readLine 173 = .ok (.aload_n 0, 1) := by decide +kernel
theorem dX6_readLine_174 : decode cX6_readLine 174 = .ok (.iconst 1, 1) := by decide +kernel
theorem dX6_readLine_175 : decode cX6_readLine 175 = .ok (.aload_n 0, 1) := by decide +kernel
theorem dX6_readLine_176 : decode cX6_readLine 176 = .ok (.getfield 115, 3) := by decide +kernel
theorem dX6_readLine_179 : decode cX6_readLine 179 = .ok (.invokevirtual 105, 3) := by decide +kernel
theorem dX6_readLine_182 : decode cX6_readLine 182 = .ok (.aload_n 0, 1) := by decide +kernel
theorem dX6_readLine_183 : decode cX6_readLine 183 = .ok (.getfield 65, 3) := by decide +kernel
theorem dX6_readLine_186 : decode cX6_readLine 186 = .ok (.ifCond .ne 19, 3) := by decide +kernel
theorem dX6_readLine_189 : decode cX6_readLine 189 = .ok (.aload_n 1, 1) := by decide +kernel
theorem dX6_readLine_190 : decode cX6_readLine 190 = .ok (.dup, 1) := by decide +kernel
theorem dX6_readLine_191 : decode cX6_readLine 191 = .ok (.getfield 125, 3) := by decide +kernel
theorem dX6_readLine_194 : decode cX6_readLine 194 = .ok (.iconst 1, 1) := by decide +kernel
theorem dX6_readLine_195 : decode cX6_readLine 195 = .ok (.iadd, 1) := by decide +kernel
theorem dX6_readLine_196 : decode cX6_readLine 196 = .ok (.putfield 125, 3) := by decide +kernel
theorem dX6_readLine_199 : decode cX6_readLine 199 = .ok (.aload_n 0, 1) := by decide +kernel
theorem dX6_readLine_200 : decode cX6_readLine 200 = .ok (.aload_n 1, 1) := by decide +kernel
theorem dX6_readLine_201 : decode cX6_readLine 201 = .ok (.iload_n 2, 1) := by decide +kernel
theorem dX6_readLine_202 : decode cX6_readLine 202 = .ok (.invokevirtual 128, 3) := by decide +kernel
theorem dX6_readLine_205 : decode cX6_readLine 205 = .ok (.return_, 1) := by decide +kernel
theorem dX6_takeLine_0 : decode cX6_takeLine 0 = .ok (.iload_n 2, 1) := by decide +kernel
theorem dX6_takeLine_1 : decode cX6_takeLine 1 = .ok (.bipush 7, 2) := by decide +kernel
theorem dX6_takeLine_3 : decode cX6_takeLine 3 = .ok (.if_icmp .lt 32, 3) := by decide +kernel
theorem dX6_takeLine_6 : decode cX6_takeLine 6 = .ok (.aload_n 1, 1) := by decide +kernel
theorem dX6_takeLine_7 : decode cX6_takeLine 7 = .ok (.iload_n 2, 1) := by decide +kernel
theorem dX6_takeLine_8 : decode cX6_takeLine 8 = .ok (.bipush 7, 2) := by decide +kernel
theorem dX6_takeLine_10 : decode cX6_takeLine 10 = .ok (.isub, 1) := by decide +kernel
theorem dX6_takeLine_11 : decode cX6_takeLine 11 = .ok (.aload_n 0, 1) := by decide +kernel
theorem dX6_takeLine_12 : decode cX6_takeLine 12 = .ok (.getfield 26, 3) := by decide +kernel
theorem dX6_takeLine_15 : decode cX6_takeLine 15 = .ok (.iconst 0, 1) := by decide +kernel
theorem dX6_takeLine_16 : decode cX6_takeLine 16 = .ok (.iaload, 1) := by decide +kernel
theorem dX6_takeLine_17 : decode cX6_takeLine 17 = .ok (.aload_n 0, 1) := by decide +kernel
theorem dX6_takeLine_18 : decode cX6_takeLine 18 = .ok (.getfield 26, 3) := by decide +kernel
theorem dX6_takeLine_21 : decode cX6_takeLine 21 = .ok (.iconst 1, 1) := by decide +kernel
theorem dX6_takeLine_22 : decode cX6_takeLine 22 = .ok (.iaload, 1) := by decide +kernel
theorem dX6_takeLine_23 : decode cX6_takeLine 23 = .ok (.aload_n 0, 1) := by decide +kernel
theorem dX6_takeLine_24 : decode cX6_takeLine 24 = .ok (.getfield 26, 3) := by decide +kernel
theorem dX6_takeLine_27 : decode cX6_takeLine 27 = .ok (.iconst 2, 1) := by decide +kernel
theorem dX6_takeLine_28 : decode cX6_takeLine 28 = .ok (.iaload, 1) := by decide +kernel
theorem dX6_takeLine_29 : decode cX6_takeLine 29 = .ok (.invokevirtual 132, 3) := by decide +kernel
theorem dX6_takeLine_32 : decode cX6_takeLine 32 = .ok (.goto 106, 3) := by decide +kernel
theorem dX6_takeLine_35 : decode cX6_takeLine 35 = .ok (.iload_n 2, 1) := by decide +kernel
theorem dX6_takeLine_36 : decode cX6_takeLine 36 = .ok (.bipush 6, 2) := by decide +kernel
theorem dX6_takeLine_38 : decode cX6_takeLine 38 = .ok (.if_icmp .ne 16, 3) := by decide +kernel
theorem dX6_takeLine_41 : decode cX6_takeLine 41 = .ok (.aload_n 1, 1) := by decide +kernel
theorem dX6_takeLine_42 : decode cX6_takeLine 42 = .ok (.aload_n 0, 1) := by decide +kernel
theorem dX6_takeLine_43 : decode cX6_takeLine 43 = .ok (.getfield 26, 3) := by decide +kernel
theorem dX6_takeLine_46 : decode cX6_takeLine 46 = .ok (.iconst 0, 1) := by decide +kernel
theorem dX6_takeLine_47 : decode cX6_takeLine 47 = .ok (.iaload, 1) := by decide +kernel
theorem dX6_takeLine_48 : decode cX6_takeLine 48 = .ok (.invokevirtual 136, 3) := by decide +kernel
theorem dX6_takeLine_51 : decode cX6_takeLine 51 = .ok (.goto 87, 3) := by decide +kernel
theorem dX6_takeLine_54 : decode cX6_takeLine 54 = .ok (.iload_n 2, 1) := by decide +kernel
theorem dX6_takeLine_55 : decode cX6_takeLine 55 = .ok (.iconst 5, 1) := by decide +kernel
theorem dX6_takeLine_56 : decode cX6_takeLine 56 = .ok (.if_icmp .ne 26, 3) := by decide +kernel
theorem dX6_takeLine_59 : decode cX6_takeLine 59 = .ok (.aload_n 1, 1) := by decide +kernel
theorem dX6_takeLine_60 : decode cX6_takeLine 60 = .ok (.getfield 140, 3) := by decide +kernel
theorem dX6_takeLine_63 : decode cX6_takeLine 63 = .ok (.aload_n 0, 1) := by decide +kernel
theorem dX6_takeLine_64 : decode cX6_takeLine 64 = .ok (.getfield 26, 3) := by decide +kernel
theorem dX6_takeLine_67 : decode cX6_takeLine 67 = .ok (.iconst 0, 1) := by decide +kernel
theorem dX6_takeLine_68 : decode cX6_takeLine 68 = .ok (.iaload, 1) := by decide +kernel
theorem dX6_takeLine_69 : decode cX6_takeLine 69 = .ok (.bipush 31, 2) := by decide +kernel
theorem dX6_takeLine_71 : decode cX6_takeLine 71 = .ok (.iand, 1) := by decide +kernel
theorem dX6_takeLine_72 : decode cX6_takeLine 72 = .ok (.aload_n 0, 1) := by decide +kernel
theorem dX6_takeLine_73 : decode cX6_takeLine 73 = .ok (.getfield 26, 3) := by decide +kernel
theorem dX6_takeLine_76 : decode cX6_takeLine 76 = .ok (.iconst 1, 1) := by decide +kernel
theorem dX6_takeLine_77 : decode cX6_takeLine 77 = .ok (.iaload, 1) := by decide +kernel
theorem dX6_takeLine_78 : decode cX6_takeLine 78 = .ok (.iastore, 1) := by decide +kernel
theorem dX6_takeLine_79 : decode cX6_takeLine 79 = .ok (.goto 59, 3) := by decide +kernel
theorem dX6_takeLine_82 : decode cX6_takeLine 82 = .ok (.aload_n 0, 1) := by decide +kernel
theorem dX6_takeLine_83 : decode cX6_takeLine 83 = .ok (.dup, 1) := by decide +kernel
theorem dX6_takeLine_84 : decode cX6_takeLine 84 = .ok (.getfield 68, 3) := by decide +kernel
theorem dX6_takeLine_87 : decode cX6_takeLine 87 = .ok (.iconst 1, 1) := by decide +kernel
theorem dX6_takeLine_88 : decode cX6_takeLine 88 = .ok (.iload_n 2, 1) := by decide +kernel
theorem dX6_takeLine_89 : decode cX6_takeLine 89 = .ok (.ishl, 1) := by decide +kernel
theorem dX6_takeLine_90 : decode cX6_takeLine 90 = .ok (.ior, 1) := by decide +kernel
theorem dX6_takeLine_91 : decode cX6_takeLine 91 = .ok (.putfield 68, 3) := by decide +kernel
theorem dX6_takeLine_94 : decode cX6_takeLine 94 = .ok (.iconst 0, 1) := by decide +kernel
theorem dX6_takeLine_95 : decode cX6_takeLine 95 = .ok (.istore_n 3, 1) := by decide +kernel
theorem dX6_takeLine_96 : decode cX6_takeLine 96 = .ok (.iload_n 3, 1) := by decide +kernel
theorem dX6_takeLine_97 : decode cX6_takeLine 97 = .ok (.iconst 3, 1) := by decide +kernel
theorem dX6_takeLine_98 : decode cX6_takeLine 98 = .ok (.if_icmp .ge 40, 3) := by decide +kernel
theorem dX6_takeLine_101 : decode cX6_takeLine 101 = .ok (.aload_n 0, 1) := by decide +kernel
theorem dX6_takeLine_102 : decode cX6_takeLine 102 = .ok (.iload_n 2, 1) := by decide +kernel
theorem dX6_takeLine_103 : decode cX6_takeLine 103 = .ok (.iload_n 3, 1) := by decide +kernel
theorem dX6_takeLine_104 : decode cX6_takeLine 104 = .ok (.invokevirtual 118, 3) := by decide +kernel
theorem dX6_takeLine_107 : decode cX6_takeLine 107 = .ok (.bipush 32, 2) := by decide +kernel
theorem dX6_takeLine_109 : decode cX6_takeLine 109 = .ok (.if_icmp .eq 23, 3) := by decide +kernel
theorem dX6_takeLine_112 : decode cX6_takeLine 112 = .ok (.aload_n 1, 1) := by decide +kernel
theorem dX6_takeLine_113 : decode cX6_takeLine 113 = .ok (.getfield 143, 3) := by decide +kernel
theorem dX6_takeLine_116 : decode cX6_takeLine 116 = .ok (.iload_n 2, 1) := by decide +kernel
theorem dX6_takeLine_117 : decode cX6_takeLine 117 = .ok (.invokestatic 146, 3) := by decide +kernel
theorem dX6_takeLine_120 : decode cX6_takeLine 120 = .ok (.iload_n 3, 1) := by decide +kernel
theorem dX6_takeLine_121 : decode cX6_takeLine 121 = .ok (.iadd, 1) := by decide +kernel
theorem dX6_takeLine_122 : decode cX6_takeLine 122 = .ok (.bipush 7, 2) := by decide +kernel
theorem dX6_takeLine_124 : decode cX6_takeLine 124 = .ok (.iand, 1) := by decide +kernel
theorem dX6_takeLine_125 : decode cX6_takeLine 125 = .ok (.aload_n 0, 1) := by decide +kernel
theorem dX6_takeLine_126 : decode cX6_takeLine 126 = .ok (.getfield 26, 3) := by decide +kernel
theorem dX6_takeLine_129 : decode cX6_takeLine 129 = .ok (.iload_n 3, 1) := by decide +kernel
theorem dX6_takeLine_130 : decode cX6_takeLine 130 = .ok (.iaload, 1) := by decide +kernel
theorem dX6_takeLine_131 : decode cX6_takeLine 131 = .ok (.iastore, 1) := by decide +kernel
theorem dX6_takeLine_132 : decode cX6_takeLine 132 = .ok (.iinc 3 1, 3) := by decide +kernel
theorem dX6_takeLine_135 : decode cX6_takeLine 135 = .ok (.goto (-39), 3) := by decide +kernel
theorem dX6_takeLine_138 : decode cX6_takeLine 138 = .ok (.return_, 1) := by decide +kernel
theorem dX6_firstRule_0 : decode cX6_firstRule 0 = .ok (.iload_n 0, 1) := by decide +kernel
theorem dX6_firstRule_1 : decode cX6_firstRule 1 = .ok (.tableswitch 40 0 3 #[31, 33, 35, 37], 31) := by decide +kernel
theorem dX6_firstRule_32 : decode cX6_firstRule 32 = .ok (.iconst 0, 1) := by decide +kernel
theorem dX6_firstRule_33 : decode cX6_firstRule 33 = .ok (.ireturn, 1) := by decide +kernel
theorem dX6_firstRule_34 : decode cX6_firstRule 34 = .ok (.iconst 1, 1) := by decide +kernel
theorem dX6_firstRule_35 : decode cX6_firstRule 35 = .ok (.ireturn, 1) := by decide +kernel
theorem dX6_firstRule_36 : decode cX6_firstRule 36 = .ok (.iconst 3, 1) := by decide +kernel
theorem dX6_firstRule_37 : decode cX6_firstRule 37 = .ok (.ireturn, 1) := by decide +kernel
theorem dX6_firstRule_38 : decode cX6_firstRule 38 = .ok (.bipush 6, 2) := by decide +kernel
theorem dX6_firstRule_40 : decode cX6_firstRule 40 = .ok (.ireturn, 1) := by decide +kernel
theorem dX6_firstRule_41 : decode cX6_firstRule 41 = .ok (.bipush 7, 2) := by decide +kernel
theorem dX6_firstRule_43 : decode cX6_firstRule 43 = .ok (.ireturn, 1) := by decide +kernel
theorem dX6_readPart_0 : decode cX6_readPart 0 = .ok (.iload_n 2, 1) := by decide +kernel
theorem dX6_readPart_1 : decode cX6_readPart 1 = .ok (.bipush 110, 2) := by decide +kernel
theorem dX6_readPart_3 : decode cX6_readPart 3 = .ok (.if_icmp .eq 9, 3) := by decide +kernel
theorem dX6_readPart_6 : decode cX6_readPart 6 = .ok (.iload_n 2, 1) := by decide +kernel
theorem dX6_readPart_7 : decode cX6_readPart 7 = .ok (.bipush 119, 2) := by decide +kernel
theorem dX6_readPart_9 : decode cX6_readPart 9 = .ok (.if_icmp .ne 12, 3) := by decide +kernel
theorem dX6_readPart_12 : decode cX6_readPart 12 = .ok (.aload_n 0, 1) := by decide +kernel
theorem dX6_readPart_13 : decode cX6_readPart 13 = .ok (.aload_n 1, 1) := by decide +kernel
theorem dX6_readPart_14 : decode cX6_readPart 14 = .ok (.iload_n 2, 1) := by decide +kernel
theorem dX6_readPart_15 : decode cX6_readPart 15 = .ok (.invokevirtual 149, 3) := by decide +kernel
theorem dX6_readPart_18 : decode cX6_readPart 18 = .ok (.goto 135, 3) := by decide +kernel
theorem dX6_readPart_21 : decode cX6_readPart 21 = .ok (.aload_n 0, 1) := by decide +kernel
theorem dX6_readPart_22 : decode cX6_readPart 22 = .ok (.getfield 82, 3) := by decide +kernel
theorem dX6_readPart_25 : decode cX6_readPart 25 = .ok (.iconst 2, 1) := by decide +kernel
theorem dX6_readPart_26 : decode cX6_readPart 26 = .ok (.if_icmp .eq 15, 3) := by decide +kernel
theorem dX6_readPart_29 : decode cX6_readPart 29 = .ok (.aload_n 0, 1) := by decide +kernel
theorem dX6_readPart_30 : decode cX6_readPart 30 = .ok (.iconst 1, 1) := by decide +kernel
theorem dX6_readPart_31 : decode cX6_readPart 31 = .ok (.aload_n 0, 1) := by decide +kernel
theorem dX6_readPart_32 : decode cX6_readPart 32 = .ok (.getfield 115, 3) := by decide +kernel
theorem dX6_readPart_35 : decode cX6_readPart 35 = .ok (.invokevirtual 105, 3) := by decide +kernel
theorem dX6_readPart_38 : decode cX6_readPart 38 = .ok (.goto 115, 3) := by decide +kernel
theorem dX6_readPart_41 : decode cX6_readPart 41 = .ok (.aload_n 0, 1) := by decide +kernel
theorem dX6_readPart_42 : decode cX6_readPart 42 = .ok (.getfield 109, 3) := by decide +kernel
theorem dX6_readPart_45 : decode cX6_readPart 45 = .ok (.aload_n 0, 1) := by decide +kernel
theorem dX6_readPart_46 : decode cX6_readPart 46 = .ok (.iload_n 2, 1) := by decide +kernel
theorem dX6_readPart_47 : decode cX6_readPart 47 = .ok (.invokevirtual 152, 3) := by decide +kernel
theorem dX6_readPart_50 : decode cX6_readPart 50 = .ok (.if_icmp .lt 14, 3) := by decide +kernel
theorem dX6_readPart_53 : decode cX6_readPart 53 = .ok (.aload_n 0, 1) := by decide +kernel
theorem dX6_readPart_54 : decode cX6_readPart 54 = .ok (.getfield 109, 3) := by decide +kernel
theorem dX6_readPart_57 : decode cX6_readPart 57 = .ok (.iload_n 2, 1) := by decide +kernel
theorem dX6_readPart_58 : decode cX6_readPart 58 = .ok (.invokestatic 155, 3) := by decide +kernel
theorem dX6_readPart_61 : decode cX6_readPart 61 = .ok (.if_icmp .le 15, 3) := by decide +kernel
theorem dX6_readPart_64 : decode cX6_readPart 64 = .ok (.aload_n 0, 1) := by decide +kernel
theorem dX6_readPart_65 : decode cX6_readPart 65 = .ok (.iconst 2, 1) := by decide +kernel
theorem dX6_readPart_66 : decode cX6_readPart 66 = .ok (.aload_n 0, 1) := by decide +kernel
theorem dX6_readPart_67 : decode cX6_readPart 67 = .ok (.getfield 115, 3) := by decide +kernel
theorem dX6_readPart_70 : decode cX6_readPart 70 = .ok (.invokevirtual 105, 3) := by decide +kernel
theorem dX6_readPart_73 : decode cX6_readPart 73 = .ok (.goto 80, 3) := by decide +kernel
theorem dX6_readPart_76 : decode cX6_readPart 76 = .ok (.iload_n 2, 1) := by decide +kernel
theorem dX6_readPart_77 : decode cX6_readPart 77 = .ok (.bipush 100, 2) := by decide +kernel
theorem dX6_readPart_79 : decode cX6_readPart 79 = .ok (.if_icmp .ne 30, 3) := by decide +kernel
theorem dX6_readPart_82 : decode cX6_readPart 82 = .ok (.aload_n 0, 1) := by decide +kernel
theorem dX6_readPart_83 : decode cX6_readPart 83 = .ok (.getfield 71, 3) := by decide +kernel
theorem dX6_readPart_86 : decode cX6_readPart 86 = .ok (.aload_n 0, 1) := by decide +kernel
theorem dX6_readPart_87 : decode cX6_readPart 87 = .ok (.getfield 109, 3) := by decide +kernel
theorem dX6_readPart_90 : decode cX6_readPart 90 = .ok (.ishr, 1) := by decide +kernel
theorem dX6_readPart_91 : decode cX6_readPart 91 = .ok (.iconst 1, 1) := by decide +kernel
theorem dX6_readPart_92 : decode cX6_readPart 92 = .ok (.iand, 1) := by decide +kernel
theorem dX6_readPart_93 : decode cX6_readPart 93 = .ok (.iconst 1, 1) := by decide +kernel
theorem dX6_readPart_94 : decode cX6_readPart 94 = .ok (.if_icmp .ne 15, 3) := by decide +kernel
theorem dX6_readPart_97 : decode cX6_readPart 97 = .ok (.aload_n 0, 1) := by decide +kernel
theorem dX6_readPart_98 : decode cX6_readPart 98 = .ok (.iconst 3, 1) := by decide +kernel
theorem dX6_readPart_99 : decode cX6_readPart 99 = .ok (.aload_n 0, 1) := by decide +kernel
theorem dX6_readPart_100 : decode cX6_readPart 100 = .ok (.getfield 115, 3) := by decide +kernel
theorem dX6_readPart_103 : decode cX6_readPart 103 = .ok (.invokevirtual 105, 3) := by decide +kernel
theorem dX6_readPart_106 : decode cX6_readPart 106 = .ok (.goto 47, 3) := by decide +kernel
theorem dX6_readPart_109 : decode cX6_readPart 109 = .ok (.aload_n 0, 1) := by decide +kernel
theorem dX6_readPart_110 : decode cX6_readPart 110 = .ok (.dup, 1) := by decide +kernel
theorem dX6_readPart_111 : decode cX6_readPart 111 = .ok (.getfield 71, 3) := by decide +kernel
theorem dX6_readPart_114 : decode cX6_readPart 114 = .ok (.iload_n 2, 1) := by decide +kernel
theorem dX6_readPart_115 : decode cX6_readPart 115 = .ok (.bipush 100, 2) := by decide +kernel
theorem dX6_readPart_117 : decode cX6_readPart 117 = .ok (.if_icmp .ne 12, 3) := by decide +kernel
theorem dX6_readPart_120 : decode cX6_readPart 120 = .ok (.iconst 1, 1) := by decide +kernel
theorem dX6_readPart_121 : decode cX6_readPart 121 = .ok (.aload_n 0, 1) := by decide +kernel
theorem dX6_readPart_122 : decode cX6_readPart 122 = .ok (.getfield 109, 3) := by decide +kernel
theorem dX6_readPart_125 : decode cX6_readPart 125 = .ok (.ishl, 1) := by decide +kernel
theorem dX6_readPart_126 : decode cX6_readPart 126 = .ok (.goto 4, 3) := by decide +kernel
theorem dX6_readPart_129 : decode cX6_readPart 129 = .ok (.iconst 0, 1) := by decide +kernel
theorem dX6_readPart_130 : decode cX6_readPart 130 = .ok (.ior, 1) := by decide +kernel
theorem dX6_readPart_131 : decode cX6_readPart 131 = .ok (.putfield 71, 3) := by decide +kernel
theorem dX6_readPart_134 : decode cX6_readPart 134 = .ok (.iload_n 3, 1) := by decide +kernel
theorem dX6_readPart_135 : decode cX6_readPart 135 = .ok (.ifCond .lt 18, 3) := by decide +kernel
theorem dX6_readPart_138 : decode cX6_readPart 138 = .ok (.iload_n 3, 1) := by decide +kernel
theorem dX6_readPart_139 : decode cX6_readPart 139 = .ok (.iconst 3, 1) := by decide +kernel
theorem dX6_readPart_140 : decode cX6_readPart 140 = .ok (.if_icmp .ge 13, 3) := by decide +kernel
theorem dX6_readPart_143 : decode cX6_readPart 143 = .ok (.aload_n 0, 1) := by decide +kernel
theorem dX6_readPart_144 : decode cX6_readPart 144 = .ok (.getfield 26, 3) := by decide +kernel
theorem dX6_readPart_147 : decode cX6_readPart 147 = .ok (.iload_n 3, 1) := by decide +kernel
theorem dX6_readPart_148 : decode cX6_readPart 148 = .ok (.aload_n 0, 1) := by decide +kernel
theorem dX6_readPart_149 : decode cX6_readPart 149 = .ok (.getfield 109, 3) := by decide +kernel
theorem dX6_readPart_152 : decode cX6_readPart 152 = .ok (.iastore, 1) := by decide +kernel
theorem dX6_readPart_153 : decode cX6_readPart 153 = .ok (.return_, 1) := by decide +kernel
theorem dX6_readName_0 : decode cX6_readName 0 = .ok (.aload_n 0, 1) := by decide +kernel
theorem dX6_readName_1 : decode cX6_readName 1 = .ok (.getfield 82, 3) := by decide +kernel
theorem dX6_readName_4 : decode cX6_readName 4 = .ok (.iconst 1, 1) := by decide +kernel
theorem dX6_readName_5 : decode cX6_readName 5 = .ok (.if_icmp .ne 23, 3) := by decide +kernel
theorem dX6_readName_8 : decode cX6_readName 8 = .ok (.aload_n 0, 1) := by decide +kernel
theorem dX6_readName_9 : decode cX6_readName 9 = .ok (.getfield 109, 3) := by decide +kernel
theorem dX6_readName_12 : decode cX6_readName 12 = .ok (.iconst (-1), 1) := by decide +kernel
theorem dX6_readName_13 : decode cX6_readName 13 = .ok (.if_icmp .eq 15, 3) := by decide +kernel
theorem dX6_readName_16 : decode cX6_readName 16 = .ok (.aload_n 0, 1) := by decide +kernel
theorem dX6_readName_17 : decode cX6_readName 17 = .ok (.aload_n 0, 1) := by decide +kernel
theorem dX6_readName_18 : decode cX6_readName 18 = .ok (.getfield 109, 3) := by decide +kernel
theorem dX6_readName_21 : decode cX6_readName 21 = .ok (.invokevirtual 112, 3) := by decide +kernel
theorem dX6_readName_24 : decode cX6_readName 24 = .ok (.iconst (-1), 1) := by decide +kernel
theorem dX6_readName_25 : decode cX6_readName 25 = .ok (.if_icmp .eq 15, 3) := by decide +kernel
theorem dX6_readName_28 : decode cX6_readName 28 = .ok (.aload_n 0, 1) := by decide +kernel
theorem dX6_readName_29 : decode cX6_readName 29 = .ok (.iconst 1, 1) := by decide +kernel
theorem dX6_readName_30 : decode cX6_readName 30 = .ok (.aload_n 0, 1) := by decide +kernel
theorem dX6_readName_31 : decode cX6_readName 31 = .ok (.getfield 115, 3) := by decide +kernel
theorem dX6_readName_34 : decode cX6_readName 34 = .ok (.invokevirtual 105, 3) := by decide +kernel
theorem dX6_readName_37 : decode cX6_readName 37 = .ok (.goto 72, 3) := by decide +kernel
theorem dX6_readName_40 : decode cX6_readName 40 = .ok (.iload_n 2, 1) := by decide +kernel
theorem dX6_readName_41 : decode cX6_readName 41 = .ok (.bipush 119, 2) := by decide +kernel
theorem dX6_readName_43 : decode cX6_readName 43 = .ok (.if_icmp .ne 32, 3) := by decide +kernel
theorem dX6_readName_46 : decode cX6_readName 46 = .ok (.aload_n 0, 1) := by decide +kernel
theorem dX6_readName_47 : decode cX6_readName 47 = .ok (.getfield 29, 3) := by decide +kernel
theorem dX6_readName_50 : decode cX6_readName 50 = .ok (.aload_n 1, 1) := by decide +kernel
theorem dX6_readName_51 : decode cX6_readName 51 = .ok (.getfield 92, 3) := by decide +kernel
theorem dX6_readName_54 : decode cX6_readName 54 = .ok (.bipush 63, 2) := by decide +kernel
theorem dX6_readName_56 : decode cX6_readName 56 = .ok (.iand, 1) := by decide +kernel
theorem dX6_readName_57 : decode cX6_readName 57 = .ok (.aload_n 0, 1) := by decide +kernel
theorem dX6_readName_58 : decode cX6_readName 58 = .ok (.getfield 115, 3) := by decide +kernel
theorem dX6_readName_61 : decode cX6_readName 61 = .ok (.iastore, 1) := by decide +kernel
theorem dX6_readName_62 : decode cX6_readName 62 = .ok (.aload_n 0, 1) := by decide +kernel
theorem dX6_readName_63 : decode cX6_readName 63 = .ok (.getfield 26, 3) := by decide +kernel
theorem dX6_readName_66 : decode cX6_readName 66 = .ok (.iconst 2, 1) := by decide +kernel
theorem dX6_readName_67 : decode cX6_readName 67 = .ok (.aload_n 0, 1) := by decide +kernel
theorem dX6_readName_68 : decode cX6_readName 68 = .ok (.getfield 109, 3) := by decide +kernel
theorem dX6_readName_71 : decode cX6_readName 71 = .ok (.iastore, 1) := by decide +kernel
theorem dX6_readName_72 : decode cX6_readName 72 = .ok (.goto 37, 3) := by decide +kernel
theorem dX6_readName_75 : decode cX6_readName 75 = .ok (.aload_n 1, 1) := by decide +kernel
theorem dX6_readName_76 : decode cX6_readName 76 = .ok (.aload_n 0, 1) := by decide +kernel
theorem dX6_readName_77 : decode cX6_readName 77 = .ok (.getfield 109, 3) := by decide +kernel
theorem dX6_readName_80 : decode cX6_readName 80 = .ok (.invokevirtual 101, 3) := by decide +kernel
theorem dX6_readName_83 : decode cX6_readName 83 = .ok (.iconst (-1), 1) := by decide +kernel
theorem dX6_readName_84 : decode cX6_readName 84 = .ok (.if_icmp .eq 15, 3) := by decide +kernel
theorem dX6_readName_87 : decode cX6_readName 87 = .ok (.aload_n 0, 1) := by decide +kernel
theorem dX6_readName_88 : decode cX6_readName 88 = .ok (.iconst 3, 1) := by decide +kernel
theorem dX6_readName_89 : decode cX6_readName 89 = .ok (.aload_n 0, 1) := by decide +kernel
theorem dX6_readName_90 : decode cX6_readName 90 = .ok (.getfield 115, 3) := by decide +kernel
theorem dX6_readName_93 : decode cX6_readName 93 = .ok (.invokevirtual 105, 3) := by decide +kernel
theorem dX6_readName_96 : decode cX6_readName 96 = .ok (.goto 13, 3) := by decide +kernel
theorem dX6_readName_99 : decode cX6_readName 99 = .ok (.aload_n 0, 1) := by decide +kernel
theorem dX6_readName_100 : decode cX6_readName 100 = .ok (.getfield 26, 3) := by decide +kernel
theorem dX6_readName_103 : decode cX6_readName 103 = .ok (.iconst 0, 1) := by decide +kernel
theorem dX6_readName_104 : decode cX6_readName 104 = .ok (.aload_n 0, 1) := by decide +kernel
theorem dX6_readName_105 : decode cX6_readName 105 = .ok (.getfield 109, 3) := by decide +kernel
theorem dX6_readName_108 : decode cX6_readName 108 = .ok (.iastore, 1) := by decide +kernel
theorem dX6_readName_109 : decode cX6_readName 109 = .ok (.return_, 1) := by decide +kernel
theorem dX6_least_0 : decode cX6_least 0 = .ok (.iload_n 1, 1) := by decide +kernel
theorem dX6_least_1 : decode cX6_least 1 = .ok (.bipush 104, 2) := by decide +kernel
theorem dX6_least_3 : decode cX6_least 3 = .ok (.if_icmp .ne 12, 3) := by decide +kernel
theorem dX6_least_6 : decode cX6_least 6 = .ok (.aload_n 0, 1) := by decide +kernel
theorem dX6_least_7 : decode cX6_least 7 = .ok (.getfield 26, 3) := by decide +kernel
theorem dX6_least_10 : decode cX6_least 10 = .ok (.iconst 0, 1) := by decide +kernel
theorem dX6_least_11 : decode cX6_least 11 = .ok (.iaload, 1) := by decide +kernel
theorem dX6_least_12 : decode cX6_least 12 = .ok (.iconst 1, 1) := by decide +kernel
theorem dX6_least_13 : decode cX6_least 13 = .ok (.iadd, 1) := by decide +kernel
theorem dX6_least_14 : decode cX6_least 14 = .ok (.ireturn, 1) := by decide +kernel
theorem dX6_least_15 : decode cX6_least 15 = .ok (.iload_n 1, 1) := by decide +kernel
theorem dX6_least_16 : decode cX6_least 16 = .ok (.bipush 115, 2) := by decide +kernel
theorem dX6_least_18 : decode cX6_least 18 = .ok (.if_icmp .eq 15, 3) := by decide +kernel
theorem dX6_least_21 : decode cX6_least 21 = .ok (.iload_n 1, 1) := by decide +kernel
theorem dX6_least_22 : decode cX6_least 22 = .ok (.bipush 113, 2) := by decide +kernel
theorem dX6_least_24 : decode cX6_least 24 = .ok (.if_icmp .eq 9, 3) := by decide +kernel
theorem dX6_least_27 : decode cX6_least 27 = .ok (.iload_n 1, 1) := by decide +kernel
theorem dX6_least_28 : decode cX6_least 28 = .ok (.bipush 116, 2) := by decide +kernel
theorem dX6_least_30 : decode cX6_least 30 = .ok (.if_icmp .ne 7, 3) := by decide +kernel
theorem dX6_least_33 : decode cX6_least 33 = .ok (.iconst 1, 1) := by decide +kernel
theorem dX6_least_34 : decode cX6_least 34 = .ok (.goto 4, 3) := by decide +kernel
theorem dX6_least_37 : decode cX6_least 37 = .ok (.iconst 0, 1) := by decide +kernel
theorem dX6_least_38 : decode cX6_least 38 = .ok (.ireturn, 1) := by decide +kernel
theorem dX6_greatest_0 : decode cX6_greatest 0 = .ok (.iload_n 0, 1) := by decide +kernel
theorem dX6_greatest_1 : decode cX6_greatest 1 = .ok (.tableswitch 100 100 116 #[92, 100, 98, 100, 89, 100, 100, 100, 86, 92, 100, 100, 100, 86, 95, 83, 89], 83) := by decide +kernel
theorem dX6_greatest_84 : decode cX6_greatest 84 = .ok (.bipush 40, 2) := by decide +kernel
theorem dX6_greatest_86 : decode cX6_greatest 86 = .ok (.ireturn, 1) := by decide +kernel
theorem dX6_greatest_87 : decode cX6_greatest 87 = .ok (.bipush 8, 2) := by decide +kernel
theorem dX6_greatest_89 : decode cX6_greatest 89 = .ok (.ireturn, 1) := by decide +kernel
theorem dX6_greatest_90 : decode cX6_greatest 90 = .ok (.bipush 9, 2) := by decide +kernel
theorem dX6_greatest_92 : decode cX6_greatest 92 = .ok (.ireturn, 1) := by decide +kernel
theorem dX6_greatest_93 : decode cX6_greatest 93 = .ok (.bipush 31, 2) := by decide +kernel
theorem dX6_greatest_95 : decode cX6_greatest 95 = .ok (.ireturn, 1) := by decide +kernel
theorem dX6_greatest_96 : decode cX6_greatest 96 = .ok (.bipush 7, 2) := by decide +kernel
theorem dX6_greatest_98 : decode cX6_greatest 98 = .ok (.ireturn, 1) := by decide +kernel
theorem dX6_greatest_99 : decode cX6_greatest 99 = .ok (.iconst 3, 1) := by decide +kernel
theorem dX6_greatest_100 : decode cX6_greatest 100 = .ok (.ireturn, 1) := by decide +kernel
theorem dX6_greatest_101 : decode cX6_greatest 101 = .ok (.ldc 158, 2) := by decide +kernel
theorem dX6_greatest_103 : decode cX6_greatest 103 = .ok (.ireturn, 1) := by decide +kernel
theorem dX6_sortOf_0 : decode cX6_sortOf 0 = .ok (.iload_n 1, 1) := by decide +kernel
theorem dX6_sortOf_1 : decode cX6_sortOf 1 = .ok (.iconst 3, 1) := by decide +kernel
theorem dX6_sortOf_2 : decode cX6_sortOf 2 = .ok (.imul, 1) := by decide +kernel
theorem dX6_sortOf_3 : decode cX6_sortOf 3 = .ok (.iload_n 2, 1) := by decide +kernel
theorem dX6_sortOf_4 : decode cX6_sortOf 4 = .ok (.iadd, 1) := by decide +kernel
theorem dX6_sortOf_5 : decode cX6_sortOf 5 = .ok (.istore_n 3, 1) := by decide +kernel
theorem dX6_sortOf_6 : decode cX6_sortOf 6 = .ok (.iload_n 3, 1) := by decide +kernel
theorem dX6_sortOf_7 : decode cX6_sortOf 7 = .ok (.ifCond .lt 21, 3) := by decide +kernel
theorem dX6_sortOf_10 : decode cX6_sortOf 10 = .ok (.iload_n 3, 1) := by decide +kernel
theorem dX6_sortOf_11 : decode cX6_sortOf 11 = .ok (.aload_n 0, 1) := by decide +kernel
theorem dX6_sortOf_12 : decode cX6_sortOf 12 = .ok (.getfield 23, 3) := by decide +kernel
theorem dX6_sortOf_15 : decode cX6_sortOf 15 = .ok (.arraylength, 1) := by decide +kernel
theorem dX6_sortOf_16 : decode cX6_sortOf 16 = .ok (.if_icmp .ge 12, 3) := by decide +kernel
theorem dX6_sortOf_19 : decode cX6_sortOf 19 = .ok (.aload_n 0, 1) := by decide +kernel
theorem dX6_sortOf_20 : decode cX6_sortOf 20 = .ok (.getfield 23, 3) := by decide +kernel
theorem dX6_sortOf_23 : decode cX6_sortOf 23 = .ok (.iload_n 3, 1) := by decide +kernel
theorem dX6_sortOf_24 : decode cX6_sortOf 24 = .ok (.iaload, 1) := by decide +kernel
theorem dX6_sortOf_25 : decode cX6_sortOf 25 = .ok (.goto 5, 3) := by decide +kernel
theorem dX6_sortOf_28 : decode cX6_sortOf 28 = .ok (.bipush 32, 2) := by decide +kernel
theorem dX6_sortOf_30 : decode cX6_sortOf 30 = .ok (.ireturn, 1) := by decide +kernel
theorem dX6_wordNumber_0 : decode cX6_wordNumber 0 = .ok (.iconst 0, 1) := by decide +kernel
theorem dX6_wordNumber_1 : decode cX6_wordNumber 1 = .ok (.istore_n 2, 1) := by decide +kernel
theorem dX6_wordNumber_2 : decode cX6_wordNumber 2 = .ok (.iload_n 2, 1) := by decide +kernel
theorem dX6_wordNumber_3 : decode cX6_wordNumber 3 = .ok (.bipush 25, 2) := by decide +kernel
theorem dX6_wordNumber_5 : decode cX6_wordNumber 5 = .ok (.if_icmp .ge 21, 3) := by decide +kernel
theorem dX6_wordNumber_8 : decode cX6_wordNumber 8 = .ok (.aload_n 0, 1) := by decide +kernel
theorem dX6_wordNumber_9 : decode cX6_wordNumber 9 = .ok (.getfield 19, 3) := by decide +kernel
theorem dX6_wordNumber_12 : decode cX6_wordNumber 12 = .ok (.iload_n 2, 1) := by decide +kernel
theorem dX6_wordNumber_13 : decode cX6_wordNumber 13 = .ok (.iaload, 1) := by decide +kernel
theorem dX6_wordNumber_14 : decode cX6_wordNumber 14 = .ok (.iload_n 1, 1) := by decide +kernel
theorem dX6_wordNumber_15 : decode cX6_wordNumber 15 = .ok (.if_icmp .ne 5, 3) := by decide +kernel
theorem dX6_wordNumber_18 : decode cX6_wordNumber 18 = .ok (.iload_n 2, 1) := by decide +kernel
theorem dX6_wordNumber_19 : decode cX6_wordNumber 19 = .ok (.ireturn, 1) := by decide +kernel
theorem dX6_wordNumber_20 : decode cX6_wordNumber 20 = .ok (.iinc 2 1, 3) := by decide +kernel
theorem dX6_wordNumber_23 : decode cX6_wordNumber 23 = .ok (.goto (-21), 3) := by decide +kernel
theorem dX6_wordNumber_26 : decode cX6_wordNumber 26 = .ok (.iconst (-1), 1) := by decide +kernel
theorem dX6_wordNumber_27 : decode cX6_wordNumber 27 = .ok (.ireturn, 1) := by decide +kernel
theorem dX6_fail_0 : decode cX6_fail 0 = .ok (.aload_n 0, 1) := by decide +kernel
theorem dX6_fail_1 : decode cX6_fail 1 = .ok (.iload_n 1, 1) := by decide +kernel
theorem dX6_fail_2 : decode cX6_fail 2 = .ok (.putfield 65, 3) := by decide +kernel
theorem dX6_fail_5 : decode cX6_fail 5 = .ok (.aload_n 0, 1) := by decide +kernel
theorem dX6_fail_6 : decode cX6_fail 6 = .ok (.iload_n 2, 1) := by decide +kernel
theorem dX6_fail_7 : decode cX6_fail 7 = .ok (.putfield 15, 3) := by decide +kernel
theorem dX6_fail_10 : decode cX6_fail 10 = .ok (.return_, 1) := by decide +kernel
theorem dX6_advance_0 : decode cX6_advance 0 = .ok (.aload_n 0, 1) := by decide +kernel
theorem dX6_advance_1 : decode cX6_advance 1 = .ok (.getfield 62, 3) := by decide +kernel
theorem dX6_advance_4 : decode cX6_advance 4 = .ok (.aload_n 0, 1) := by decide +kernel
theorem dX6_advance_5 : decode cX6_advance 5 = .ok (.getfield 59, 3) := by decide +kernel
theorem dX6_advance_8 : decode cX6_advance 8 = .ok (.if_icmp .ge 42, 3) := by decide +kernel
theorem dX6_advance_11 : decode cX6_advance 11 = .ok (.aload_n 0, 1) := by decide +kernel
theorem dX6_advance_12 : decode cX6_advance 12 = .ok (.aload_n 0, 1) := by decide +kernel
theorem dX6_advance_13 : decode cX6_advance 13 = .ok (.getfield 62, 3) := by decide +kernel
theorem dX6_advance_16 : decode cX6_advance 16 = .ok (.invokevirtual 159, 3) := by decide +kernel
theorem dX6_advance_19 : decode cX6_advance 19 = .ok (.bipush 32, 2) := by decide +kernel
theorem dX6_advance_21 : decode cX6_advance 21 = .ok (.if_icmp .eq 16, 3) := by decide +kernel
theorem dX6_advance_24 : decode cX6_advance 24 = .ok (.aload_n 0, 1) := by decide +kernel
theorem dX6_advance_25 : decode cX6_advance 25 = .ok (.aload_n 0, 1) := by decide +kernel
theorem dX6_advance_26 : decode cX6_advance 26 = .ok (.getfield 62, 3) := by decide +kernel
theorem dX6_advance_29 : decode cX6_advance 29 = .ok (.invokevirtual 159, 3) := by decide +kernel
theorem dX6_advance_32 : decode cX6_advance 32 = .ok (.bipush 10, 2) := by decide +kernel
theorem dX6_advance_34 : decode cX6_advance 34 = .ok (.if_icmp .ne 16, 3) := by decide +kernel
theorem dX6_advance_37 : decode cX6_advance 37 = .ok (.aload_n 0, 1) := by decide +kernel
theorem dX6_advance_38 : decode cX6_advance 38 = .ok (.dup, 1) := by decide +kernel
theorem dX6_advance_39 : decode cX6_advance 39 = .ok (.getfield 62, 3) := by decide +kernel
theorem dX6_advance_42 : decode cX6_advance 42 = .ok (.iconst 1, 1) := by decide +kernel
theorem dX6_advance_43 : decode cX6_advance 43 = .ok (.iadd, 1) := by decide +kernel
theorem dX6_advance_44 : decode cX6_advance 44 = .ok (.putfield 62, 3) := by decide +kernel
theorem dX6_advance_47 : decode cX6_advance 47 = .ok (.goto (-47), 3) := by decide +kernel
theorem dX6_advance_50 : decode cX6_advance 50 = .ok (.aload_n 0, 1) := by decide +kernel
theorem dX6_advance_51 : decode cX6_advance 51 = .ok (.aload_n 0, 1) := by decide +kernel
theorem dX6_advance_52 : decode cX6_advance 52 = .ok (.getfield 62, 3) := by decide +kernel
theorem dX6_advance_55 : decode cX6_advance 55 = .ok (.putfield 115, 3) := by decide +kernel
theorem dX6_advance_58 : decode cX6_advance 58 = .ok (.aload_n 0, 1) := by decide +kernel
theorem dX6_advance_59 : decode cX6_advance 59 = .ok (.aload_n 0, 1) := by decide +kernel
theorem dX6_advance_60 : decode cX6_advance 60 = .ok (.getfield 62, 3) := by decide +kernel
theorem dX6_advance_63 : decode cX6_advance 63 = .ok (.invokevirtual 159, 3) := by decide +kernel
theorem dX6_advance_66 : decode cX6_advance 66 = .ok (.istore_n 1, 1) := by decide +kernel
theorem dX6_advance_67 : decode cX6_advance 67 = .ok (.iload_n 1, 1) := by decide +kernel
theorem dX6_advance_68 : decode cX6_advance 68 = .ok (.iconst (-1), 1) := by decide +kernel
theorem dX6_advance_69 : decode cX6_advance 69 = .ok (.if_icmp .ne 11, 3) := by decide +kernel
theorem dX6_advance_72 : decode cX6_advance 72 = .ok (.aload_n 0, 1) := by decide +kernel
theorem dX6_advance_73 : decode cX6_advance 73 = .ok (.iconst 0, 1) := by decide +kernel
theorem dX6_advance_74 : decode cX6_advance 74 = .ok (.putfield 82, 3) := by decide +kernel
theorem dX6_advance_77 : decode cX6_advance 77 = .ok (.goto 66, 3) := by decide +kernel
theorem dX6_advance_80 : decode cX6_advance 80 = .ok (.iload_n 1, 1) := by decide +kernel
theorem dX6_advance_81 : decode cX6_advance 81 = .ok (.bipush 97, 2) := by decide +kernel
theorem dX6_advance_83 : decode cX6_advance 83 = .ok (.if_icmp .lt 16, 3) := by decide +kernel
theorem dX6_advance_86 : decode cX6_advance 86 = .ok (.iload_n 1, 1) := by decide +kernel
theorem dX6_advance_87 : decode cX6_advance 87 = .ok (.bipush 122, 2) := by decide +kernel
theorem dX6_advance_89 : decode cX6_advance 89 = .ok (.if_icmp .gt 10, 3) := by decide +kernel
theorem dX6_advance_92 : decode cX6_advance 92 = .ok (.aload_n 0, 1) := by decide +kernel
theorem dX6_advance_93 : decode cX6_advance 93 = .ok (.invokevirtual 162, 3) := by decide +kernel
theorem dX6_advance_96 : decode cX6_advance 96 = .ok (.goto 47, 3) := by decide +kernel
theorem dX6_advance_99 : decode cX6_advance 99 = .ok (.iload_n 1, 1) := by decide +kernel
theorem dX6_advance_100 : decode cX6_advance 100 = .ok (.bipush 48, 2) := by decide +kernel
theorem dX6_advance_102 : decode cX6_advance 102 = .ok (.if_icmp .lt 16, 3) := by decide +kernel
theorem dX6_advance_105 : decode cX6_advance 105 = .ok (.iload_n 1, 1) := by decide +kernel
theorem dX6_advance_106 : decode cX6_advance 106 = .ok (.bipush 57, 2) := by decide +kernel
theorem dX6_advance_108 : decode cX6_advance 108 = .ok (.if_icmp .gt 10, 3) := by decide +kernel
theorem dX6_advance_111 : decode cX6_advance 111 = .ok (.aload_n 0, 1) := by decide +kernel
theorem dX6_advance_112 : decode cX6_advance 112 = .ok (.invokevirtual 165, 3) := by decide +kernel
theorem dX6_advance_115 : decode cX6_advance 115 = .ok (.goto 28, 3) := by decide +kernel
theorem dX6_advance_118 : decode cX6_advance 118 = .ok (.aload_n 0, 1) := by decide +kernel
theorem dX6_advance_119 : decode cX6_advance 119 = .ok (.iload_n 1, 1) := by decide +kernel
theorem dX6_advance_120 : decode cX6_advance 120 = .ok (.bipush 59, 2) := by decide +kernel
theorem dX6_advance_122 : decode cX6_advance 122 = .ok (.if_icmp .ne 7, 3) := by decide +kernel
theorem dX6_advance_125 : decode cX6_advance 125 = .ok (.iconst 3, 1) := by decide +kernel
theorem dX6_advance_126 : decode cX6_advance 126 = .ok (.goto 4, 3) := by decide +kernel
theorem dX6_advance_129 : decode cX6_advance 129 = .ok (.iconst 4, 1) := by decide +kernel
theorem dX6_advance_130 : decode cX6_advance 130 = .ok (.putfield 82, 3) := by decide +kernel
theorem dX6_advance_133 : decode cX6_advance 133 = .ok (.aload_n 0, 1) := by decide +kernel
theorem dX6_advance_134 : decode cX6_advance 134 = .ok (.dup, 1) := by decide +kernel
theorem dX6_advance_135 : decode cX6_advance 135 = .ok (.getfield 62, 3) := by decide +kernel
theorem dX6_advance_138 : decode cX6_advance 138 = .ok (.iconst 1, 1) := by decide +kernel
theorem dX6_advance_139 : decode cX6_advance 139 = .ok (.iadd, 1) := by decide +kernel
theorem dX6_advance_140 : decode cX6_advance 140 = .ok (.putfield 62, 3) := by decide +kernel
theorem dX6_advance_143 : decode cX6_advance 143 = .ok (.return_, 1) := by decide +kernel
theorem dX6_readWord_0 : decode cX6_readWord 0 = .ok (.aload_n 0, 1) := by decide +kernel
theorem dX6_readWord_1 : decode cX6_readWord 1 = .ok (.iconst 1, 1) := by decide +kernel
theorem dX6_readWord_2 : decode cX6_readWord 2 = .ok (.putfield 82, 3) := by decide +kernel
theorem dX6_readWord_5 : decode cX6_readWord 5 = .ok (.aload_n 0, 1) := by decide +kernel
theorem dX6_readWord_6 : decode cX6_readWord 6 = .ok (.iconst 0, 1) := by decide +kernel
theorem dX6_readWord_7 : decode cX6_readWord 7 = .ok (.putfield 109, 3) := by decide +kernel
theorem dX6_readWord_10 : decode cX6_readWord 10 = .ok (.iconst 0, 1) := by decide +kernel
theorem dX6_readWord_11 : decode cX6_readWord 11 = .ok (.istore_n 1, 1) := by decide +kernel
theorem dX6_readWord_12 : decode cX6_readWord 12 = .ok (.aload_n 0, 1) := by decide +kernel
theorem dX6_readWord_13 : decode cX6_readWord 13 = .ok (.getfield 62, 3) := by decide +kernel
theorem dX6_readWord_16 : decode cX6_readWord 16 = .ok (.aload_n 0, 1) := by decide +kernel
theorem dX6_readWord_17 : decode cX6_readWord 17 = .ok (.getfield 59, 3) := by decide +kernel
theorem dX6_readWord_20 : decode cX6_readWord 20 = .ok (.if_icmp .ge 76, 3) := by decide +kernel
theorem dX6_readWord_23 : decode cX6_readWord 23 = .ok (.aload_n 0, 1) := by decide +kernel
theorem dX6_readWord_24 : decode cX6_readWord 24 = .ok (.aload_n 0, 1) := by decide +kernel
theorem dX6_readWord_25 : decode cX6_readWord 25 = .ok (.getfield 62, 3) := by decide +kernel
theorem dX6_readWord_28 : decode cX6_readWord 28 = .ok (.invokevirtual 159, 3) := by decide +kernel
theorem dX6_readWord_31 : decode cX6_readWord 31 = .ok (.bipush 97, 2) := by decide +kernel
theorem dX6_readWord_33 : decode cX6_readWord 33 = .ok (.if_icmp .lt 63, 3) := by decide +kernel
theorem dX6_readWord_36 : decode cX6_readWord 36 = .ok (.aload_n 0, 1) := by decide +kernel
theorem dX6_readWord_37 : decode cX6_readWord 37 = .ok (.aload_n 0, 1) := by decide +kernel
theorem dX6_readWord_38 : decode cX6_readWord 38 = .ok (.getfield 62, 3) := by decide +kernel
theorem dX6_readWord_41 : decode cX6_readWord 41 = .ok (.invokevirtual 159, 3) := by decide +kernel
theorem dX6_readWord_44 : decode cX6_readWord 44 = .ok (.bipush 122, 2) := by decide +kernel
theorem dX6_readWord_46 : decode cX6_readWord 46 = .ok (.if_icmp .gt 50, 3) := by decide +kernel
theorem dX6_readWord_49 : decode cX6_readWord 49 = .ok (.aload_n 0, 1) := by decide +kernel
theorem dX6_readWord_50 : decode cX6_readWord 50 = .ok (.iload_n 1, 1) := by decide +kernel
theorem dX6_readWord_51 : decode cX6_readWord 51 = .ok (.bipush 6, 2) := by decide +kernel
theorem dX6_readWord_53 : decode cX6_readWord 53 = .ok (.if_icmp .ge 23, 3) := by decide +kernel
theorem dX6_readWord_56 : decode cX6_readWord 56 = .ok (.aload_n 0, 1) := by decide +kernel
theorem dX6_readWord_57 : decode cX6_readWord 57 = .ok (.getfield 109, 3) := by decide +kernel
theorem dX6_readWord_60 : decode cX6_readWord 60 = .ok (.aload_n 0, 1) := by decide +kernel
theorem dX6_readWord_61 : decode cX6_readWord 61 = .ok (.aload_n 0, 1) := by decide +kernel
theorem dX6_readWord_62 : decode cX6_readWord 62 = .ok (.getfield 62, 3) := by decide +kernel
theorem dX6_readWord_65 : decode cX6_readWord 65 = .ok (.invokevirtual 159, 3) := by decide +kernel
theorem dX6_readWord_68 : decode cX6_readWord 68 = .ok (.iload_n 1, 1) := by decide +kernel
theorem dX6_readWord_69 : decode cX6_readWord 69 = .ok (.invokestatic 52, 3) := by decide +kernel
theorem dX6_readWord_72 : decode cX6_readWord 72 = .ok (.ior, 1) := by decide +kernel
theorem dX6_readWord_73 : decode cX6_readWord 73 = .ok (.goto 4, 3) := by decide +kernel
theorem dX6_readWord_76 : decode cX6_readWord 76 = .ok (.iconst (-1), 1) := by decide +kernel
theorem dX6_readWord_77 : decode cX6_readWord 77 = .ok (.putfield 109, 3) := by decide +kernel
theorem dX6_readWord_80 : decode cX6_readWord 80 = .ok (.iinc 1 1, 3) := by decide +kernel
theorem dX6_readWord_83 : decode cX6_readWord 83 = .ok (.aload_n 0, 1) := by decide +kernel
theorem dX6_readWord_84 : decode cX6_readWord 84 = .ok (.dup, 1) := by decide +kernel
theorem dX6_readWord_85 : decode cX6_readWord 85 = .ok (.getfield 62, 3) := by decide +kernel
theorem dX6_readWord_88 : decode cX6_readWord 88 = .ok (.iconst 1, 1) := by decide +kernel
theorem dX6_readWord_89 : decode cX6_readWord 89 = .ok (.iadd, 1) := by decide +kernel
theorem dX6_readWord_90 : decode cX6_readWord 90 = .ok (.putfield 62, 3) := by decide +kernel
theorem dX6_readWord_93 : decode cX6_readWord 93 = .ok (.goto (-81), 3) := by decide +kernel
theorem dX6_readWord_96 : decode cX6_readWord 96 = .ok (.return_, 1) := by decide +kernel
theorem dX6_readNumber_0 : decode cX6_readNumber 0 = .ok (.aload_n 0, 1) := by decide +kernel
theorem dX6_readNumber_1 : decode cX6_readNumber 1 = .ok (.iconst 2, 1) := by decide +kernel
theorem dX6_readNumber_2 : decode cX6_readNumber 2 = .ok (.putfield 82, 3) := by decide +kernel
theorem dX6_readNumber_5 : decode cX6_readNumber 5 = .ok (.aload_n 0, 1) := by decide +kernel
theorem dX6_readNumber_6 : decode cX6_readNumber 6 = .ok (.iconst 0, 1) := by decide +kernel
theorem dX6_readNumber_7 : decode cX6_readNumber 7 = .ok (.putfield 109, 3) := by decide +kernel
theorem dX6_readNumber_10 : decode cX6_readNumber 10 = .ok (.aload_n 0, 1) := by decide +kernel
theorem dX6_readNumber_11 : decode cX6_readNumber 11 = .ok (.getfield 62, 3) := by decide +kernel
theorem dX6_readNumber_14 : decode cX6_readNumber 14 = .ok (.aload_n 0, 1) := by decide +kernel
theorem dX6_readNumber_15 : decode cX6_readNumber 15 = .ok (.getfield 59, 3) := by decide +kernel
theorem dX6_readNumber_18 : decode cX6_readNumber 18 = .ok (.if_icmp .ge 70, 3) := by decide +kernel
theorem dX6_readNumber_21 : decode cX6_readNumber 21 = .ok (.aload_n 0, 1) := by decide +kernel
theorem dX6_readNumber_22 : decode cX6_readNumber 22 = .ok (.aload_n 0, 1) := by decide +kernel
theorem dX6_readNumber_23 : decode cX6_readNumber 23 = .ok (.getfield 62, 3) := by decide +kernel
theorem dX6_readNumber_26 : decode cX6_readNumber 26 = .ok (.invokevirtual 159, 3) := by decide +kernel
theorem dX6_readNumber_29 : decode cX6_readNumber 29 = .ok (.bipush 48, 2) := by decide +kernel
theorem dX6_readNumber_31 : decode cX6_readNumber 31 = .ok (.if_icmp .lt 57, 3) := by decide +kernel
theorem dX6_readNumber_34 : decode cX6_readNumber 34 = .ok (.aload_n 0, 1) := by decide +kernel
theorem dX6_readNumber_35 : decode cX6_readNumber 35 = .ok (.aload_n 0, 1) := by decide +kernel
theorem dX6_readNumber_36 : decode cX6_readNumber 36 = .ok (.getfield 62, 3) := by decide +kernel
theorem dX6_readNumber_39 : decode cX6_readNumber 39 = .ok (.invokevirtual 159, 3) := by decide +kernel
theorem dX6_readNumber_42 : decode cX6_readNumber 42 = .ok (.bipush 57, 2) := by decide +kernel
theorem dX6_readNumber_44 : decode cX6_readNumber 44 = .ok (.if_icmp .gt 44, 3) := by decide +kernel
theorem dX6_readNumber_47 : decode cX6_readNumber 47 = .ok (.aload_n 0, 1) := by decide +kernel
theorem dX6_readNumber_48 : decode cX6_readNumber 48 = .ok (.aload_n 0, 1) := by decide +kernel
theorem dX6_readNumber_49 : decode cX6_readNumber 49 = .ok (.getfield 109, 3) := by decide +kernel
theorem dX6_readNumber_52 : decode cX6_readNumber 52 = .ok (.bipush 10, 2) := by decide +kernel
theorem dX6_readNumber_54 : decode cX6_readNumber 54 = .ok (.imul, 1) := by decide +kernel
theorem dX6_readNumber_55 : decode cX6_readNumber 55 = .ok (.aload_n 0, 1) := by decide +kernel
theorem dX6_readNumber_56 : decode cX6_readNumber 56 = .ok (.aload_n 0, 1) := by decide +kernel
theorem dX6_readNumber_57 : decode cX6_readNumber 57 = .ok (.getfield 62, 3) := by decide +kernel
theorem dX6_readNumber_60 : decode cX6_readNumber 60 = .ok (.invokevirtual 159, 3) := by decide +kernel
theorem dX6_readNumber_63 : decode cX6_readNumber 63 = .ok (.iadd, 1) := by decide +kernel
theorem dX6_readNumber_64 : decode cX6_readNumber 64 = .ok (.bipush 48, 2) := by decide +kernel
theorem dX6_readNumber_66 : decode cX6_readNumber 66 = .ok (.isub, 1) := by decide +kernel
theorem dX6_readNumber_67 : decode cX6_readNumber 67 = .ok (.ldc 168, 2) := by decide +kernel
theorem dX6_readNumber_69 : decode cX6_readNumber 69 = .ok (.invokestatic 169, 3) := by decide +kernel
theorem dX6_readNumber_72 : decode cX6_readNumber 72 = .ok (.putfield 109, 3) := by decide +kernel
theorem dX6_readNumber_75 : decode cX6_readNumber 75 = .ok (.aload_n 0, 1) := by decide +kernel
theorem dX6_readNumber_76 : decode cX6_readNumber 76 = .ok (.dup, 1) := by decide +kernel
theorem dX6_readNumber_77 : decode cX6_readNumber 77 = .ok (.getfield 62, 3) := by decide +kernel
theorem dX6_readNumber_80 : decode cX6_readNumber 80 = .ok (.iconst 1, 1) := by decide +kernel
theorem dX6_readNumber_81 : decode cX6_readNumber 81 = .ok (.iadd, 1) := by decide +kernel
theorem dX6_readNumber_82 : decode cX6_readNumber 82 = .ok (.putfield 62, 3) := by decide +kernel
theorem dX6_readNumber_85 : decode cX6_readNumber 85 = .ok (.goto (-75), 3) := by decide +kernel
theorem dX6_readNumber_88 : decode cX6_readNumber 88 = .ok (.return_, 1) := by decide +kernel
theorem dX6_signAt_0 : decode cX6_signAt 0 = .ok (.iload_n 1, 1) := by decide +kernel
theorem dX6_signAt_1 : decode cX6_signAt 1 = .ok (.ifCond .lt 31, 3) := by decide +kernel
theorem dX6_signAt_4 : decode cX6_signAt 4 = .ok (.iload_n 1, 1) := by decide +kernel
theorem dX6_signAt_5 : decode cX6_signAt 5 = .ok (.aload_n 0, 1) := by decide +kernel
theorem dX6_signAt_6 : decode cX6_signAt 6 = .ok (.getfield 59, 3) := by decide +kernel
theorem dX6_signAt_9 : decode cX6_signAt 9 = .ok (.if_icmp .ge 23, 3) := by decide +kernel
theorem dX6_signAt_12 : decode cX6_signAt 12 = .ok (.iload_n 1, 1) := by decide +kernel
theorem dX6_signAt_13 : decode cX6_signAt 13 = .ok (.sipush 700, 3) := by decide +kernel
theorem dX6_signAt_16 : decode cX6_signAt 16 = .ok (.if_icmp .ge 16, 3) := by decide +kernel
theorem dX6_signAt_19 : decode cX6_signAt 19 = .ok (.aload_n 0, 1) := by decide +kernel
theorem dX6_signAt_20 : decode cX6_signAt 20 = .ok (.getfield 11, 3) := by decide +kernel
theorem dX6_signAt_23 : decode cX6_signAt 23 = .ok (.iload_n 1, 1) := by decide +kernel
theorem dX6_signAt_24 : decode cX6_signAt 24 = .ok (.baload, 1) := by decide +kernel
theorem dX6_signAt_25 : decode cX6_signAt 25 = .ok (.sipush 255, 3) := by decide +kernel
theorem dX6_signAt_28 : decode cX6_signAt 28 = .ok (.iand, 1) := by decide +kernel
theorem dX6_signAt_29 : decode cX6_signAt 29 = .ok (.goto 4, 3) := by decide +kernel
theorem dX6_signAt_32 : decode cX6_signAt 32 = .ok (.iconst (-1), 1) := by decide +kernel
theorem dX6_signAt_33 : decode cX6_signAt 33 = .ok (.ireturn, 1) := by decide +kernel
theorem dX7_init_0 : decode cX7_init 0 = .ok (.aload_n 0, 1) := by decide +kernel
theorem dX7_init_1 : decode cX7_init 1 = .ok (.invokespecial 3, 3) := by decide +kernel
theorem dX7_init_4 : decode cX7_init 4 = .ok (.aload_n 0, 1) := by decide +kernel
theorem dX7_init_5 : decode cX7_init 5 = .ok (.bipush 8, 2) := by decide +kernel
theorem dX7_init_7 : decode cX7_init 7 = .ok (.newarray .int, 2) := by decide +kernel
theorem dX7_init_9 : decode cX7_init 9 = .ok (.putfield 9, 3) := by decide +kernel
theorem dX7_init_12 : decode cX7_init 12 = .ok (.aload_n 0, 1) := by decide +kernel
theorem dX7_init_13 : decode cX7_init 13 = .ok (.iconst 4, 1) := by decide +kernel
theorem dX7_init_14 : decode cX7_init 14 = .ok (.newarray .int, 2) := by decide +kernel
theorem dX7_init_16 : decode cX7_init 16 = .ok (.putfield 15, 3) := by decide +kernel
theorem dX7_init_19 : decode cX7_init 19 = .ok (.aload_n 0, 1) := by decide +kernel
theorem dX7_init_20 : decode cX7_init 20 = .ok (.bipush 8, 2) := by decide +kernel
theorem dX7_init_22 : decode cX7_init 22 = .ok (.newarray .int, 2) := by decide +kernel
theorem dX7_init_24 : decode cX7_init 24 = .ok (.putfield 18, 3) := by decide +kernel
theorem dX7_init_27 : decode cX7_init 27 = .ok (.aload_n 0, 1) := by decide +kernel
theorem dX7_init_28 : decode cX7_init 28 = .ok (.bipush 8, 2) := by decide +kernel
theorem dX7_init_30 : decode cX7_init 30 = .ok (.newarray .int, 2) := by decide +kernel
theorem dX7_init_32 : decode cX7_init 32 = .ok (.putfield 21, 3) := by decide +kernel
theorem dX7_init_35 : decode cX7_init 35 = .ok (.return_, 1) := by decide +kernel
theorem dX7_clear_0 : decode cX7_clear 0 = .ok (.iconst 0, 1) := by decide +kernel
theorem dX7_clear_1 : decode cX7_clear 1 = .ok (.istore_n 1, 1) := by decide +kernel
theorem dX7_clear_2 : decode cX7_clear 2 = .ok (.iload_n 1, 1) := by decide +kernel
theorem dX7_clear_3 : decode cX7_clear 3 = .ok (.bipush 8, 2) := by decide +kernel
theorem dX7_clear_5 : decode cX7_clear 5 = .ok (.if_icmp .ge 25, 3) := by decide +kernel
theorem dX7_clear_8 : decode cX7_clear 8 = .ok (.aload_n 0, 1) := by decide +kernel
theorem dX7_clear_9 : decode cX7_clear 9 = .ok (.getfield 9, 3) := by decide +kernel
theorem dX7_clear_12 : decode cX7_clear 12 = .ok (.iload_n 1, 1) := by decide +kernel
theorem dX7_clear_13 : decode cX7_clear 13 = .ok (.iconst 0, 1) := by decide +kernel
theorem dX7_clear_14 : decode cX7_clear 14 = .ok (.iastore, 1) := by decide +kernel
theorem dX7_clear_15 : decode cX7_clear 15 = .ok (.aload_n 0, 1) := by decide +kernel
theorem dX7_clear_16 : decode cX7_clear 16 = .ok (.getfield 15, 3) := by decide +kernel
theorem dX7_clear_19 : decode cX7_clear 19 = .ok (.iload_n 1, 1) := by decide +kernel
theorem dX7_clear_20 : decode cX7_clear 20 = .ok (.iconst 3, 1) := by decide +kernel
theorem dX7_clear_21 : decode cX7_clear 21 = .ok (.iand, 1) := by decide +kernel
theorem dX7_clear_22 : decode cX7_clear 22 = .ok (.iconst 0, 1) := by decide +kernel
theorem dX7_clear_23 : decode cX7_clear 23 = .ok (.iastore, 1) := by decide +kernel
theorem dX7_clear_24 : decode cX7_clear 24 = .ok (.iinc 1 1, 3) := by decide +kernel
theorem dX7_clear_27 : decode cX7_clear 27 = .ok (.goto (-25), 3) := by decide +kernel
theorem dX7_clear_30 : decode cX7_clear 30 = .ok (.aload_n 0, 1) := by decide +kernel
theorem dX7_clear_31 : decode cX7_clear 31 = .ok (.invokevirtual 24, 3) := by decide +kernel
theorem dX7_clear_34 : decode cX7_clear 34 = .ok (.aload_n 0, 1) := by decide +kernel
theorem dX7_clear_35 : decode cX7_clear 35 = .ok (.iconst 0, 1) := by decide +kernel
theorem dX7_clear_36 : decode cX7_clear 36 = .ok (.putfield 27, 3) := by decide +kernel
theorem dX7_clear_39 : decode cX7_clear 39 = .ok (.aload_n 0, 1) := by decide +kernel
theorem dX7_clear_40 : decode cX7_clear 40 = .ok (.iconst 0, 1) := by decide +kernel
theorem dX7_clear_41 : decode cX7_clear 41 = .ok (.putfield 31, 3) := by decide +kernel
theorem dX7_clear_44 : decode cX7_clear 44 = .ok (.return_, 1) := by decide +kernel
theorem dX7_loosen_0 : decode cX7_loosen 0 = .ok (.iconst 0, 1) := by decide +kernel
theorem dX7_loosen_1 : decode cX7_loosen 1 = .ok (.istore_n 1, 1) := by decide +kernel
theorem dX7_loosen_2 : decode cX7_loosen 2 = .ok (.iload_n 1, 1) := by decide +kernel
theorem dX7_loosen_3 : decode cX7_loosen 3 = .ok (.bipush 8, 2) := by decide +kernel
theorem dX7_loosen_5 : decode cX7_loosen 5 = .ok (.if_icmp .ge 23, 3) := by decide +kernel
theorem dX7_loosen_8 : decode cX7_loosen 8 = .ok (.aload_n 0, 1) := by decide +kernel
theorem dX7_loosen_9 : decode cX7_loosen 9 = .ok (.getfield 18, 3) := by decide +kernel
theorem dX7_loosen_12 : decode cX7_loosen 12 = .ok (.iload_n 1, 1) := by decide +kernel
theorem dX7_loosen_13 : decode cX7_loosen 13 = .ok (.iconst 0, 1) := by decide +kernel
theorem dX7_loosen_14 : decode cX7_loosen 14 = .ok (.iastore, 1) := by decide +kernel
theorem dX7_loosen_15 : decode cX7_loosen 15 = .ok (.aload_n 0, 1) := by decide +kernel
theorem dX7_loosen_16 : decode cX7_loosen 16 = .ok (.getfield 21, 3) := by decide +kernel
theorem dX7_loosen_19 : decode cX7_loosen 19 = .ok (.iload_n 1, 1) := by decide +kernel
theorem dX7_loosen_20 : decode cX7_loosen 20 = .ok (.iconst 0, 1) := by decide +kernel
theorem dX7_loosen_21 : decode cX7_loosen 21 = .ok (.iastore, 1) := by decide +kernel
theorem dX7_loosen_22 : decode cX7_loosen 22 = .ok (.iinc 1 1, 3) := by decide +kernel
theorem dX7_loosen_25 : decode cX7_loosen 25 = .ok (.goto (-23), 3) := by decide +kernel
theorem dX7_loosen_28 : decode cX7_loosen 28 = .ok (.return_, 1) := by decide +kernel
theorem dX7_copyFrom_0 : decode cX7_copyFrom 0 = .ok (.aload_n 1, 1) := by decide +kernel
theorem dX7_copyFrom_1 : decode cX7_copyFrom 1 = .ok (.getfield 18, 3) := by decide +kernel
theorem dX7_copyFrom_4 : decode cX7_copyFrom 4 = .ok (.iconst 0, 1) := by decide +kernel
theorem dX7_copyFrom_5 : decode cX7_copyFrom 5 = .ok (.aload_n 0, 1) := by decide +kernel
theorem dX7_copyFrom_6 : decode cX7_copyFrom 6 = .ok (.getfield 18, 3) := by decide +kernel
theorem dX7_copyFrom_9 : decode cX7_copyFrom 9 = .ok (.iconst 0, 1) := by decide +kernel
theorem dX7_copyFrom_10 : decode cX7_copyFrom 10 = .ok (.bipush 8, 2) := by decide +kernel
theorem dX7_copyFrom_12 : decode cX7_copyFrom 12 = .ok (.invokestatic 34, 3) := by decide +kernel
theorem dX7_copyFrom_15 : decode cX7_copyFrom 15 = .ok (.aload_n 1, 1) := by decide +kernel
theorem dX7_copyFrom_16 : decode cX7_copyFrom 16 = .ok (.getfield 21, 3) := by decide +kernel
theorem dX7_copyFrom_19 : decode cX7_copyFrom 19 = .ok (.iconst 0, 1) := by decide +kernel
theorem dX7_copyFrom_20 : decode cX7_copyFrom 20 = .ok (.aload_n 0, 1) := by decide +kernel
theorem dX7_copyFrom_21 : decode cX7_copyFrom 21 = .ok (.getfield 21, 3) := by decide +kernel
theorem dX7_copyFrom_24 : decode cX7_copyFrom 24 = .ok (.iconst 0, 1) := by decide +kernel
theorem dX7_copyFrom_25 : decode cX7_copyFrom 25 = .ok (.bipush 8, 2) := by decide +kernel
theorem dX7_copyFrom_27 : decode cX7_copyFrom 27 = .ok (.invokestatic 34, 3) := by decide +kernel
theorem dX7_copyFrom_30 : decode cX7_copyFrom 30 = .ok (.aload_n 0, 1) := by decide +kernel
theorem dX7_copyFrom_31 : decode cX7_copyFrom 31 = .ok (.aload_n 1, 1) := by decide +kernel
theorem dX7_copyFrom_32 : decode cX7_copyFrom 32 = .ok (.invokevirtual 40, 3) := by decide +kernel
theorem dX7_copyFrom_35 : decode cX7_copyFrom 35 = .ok (.aload_n 0, 1) := by decide +kernel
theorem dX7_copyFrom_36 : decode cX7_copyFrom 36 = .ok (.aload_n 1, 1) := by decide +kernel
theorem dX7_copyFrom_37 : decode cX7_copyFrom 37 = .ok (.getfield 31, 3) := by decide +kernel
theorem dX7_copyFrom_40 : decode cX7_copyFrom 40 = .ok (.putfield 31, 3) := by decide +kernel
theorem dX7_copyFrom_43 : decode cX7_copyFrom 43 = .ok (.return_, 1) := by decide +kernel
theorem dX7_standAs_0 : decode cX7_standAs 0 = .ok (.iconst 0, 1) := by decide +kernel
theorem dX7_standAs_1 : decode cX7_standAs 1 = .ok (.istore_n 2, 1) := by decide +kernel
theorem dX7_standAs_2 : decode cX7_standAs 2 = .ok (.iload_n 2, 1) := by decide +kernel
theorem dX7_standAs_3 : decode cX7_standAs 3 = .ok (.bipush 8, 2) := by decide +kernel
theorem dX7_standAs_5 : decode cX7_standAs 5 = .ok (.if_icmp .ge 36, 3) := by decide +kernel
theorem dX7_standAs_8 : decode cX7_standAs 8 = .ok (.aload_n 0, 1) := by decide +kernel
theorem dX7_standAs_9 : decode cX7_standAs 9 = .ok (.iload_n 2, 1) := by decide +kernel
theorem dX7_standAs_10 : decode cX7_standAs 10 = .ok (.aload_n 1, 1) := by decide +kernel
theorem dX7_standAs_11 : decode cX7_standAs 11 = .ok (.getfield 9, 3) := by decide +kernel
theorem dX7_standAs_14 : decode cX7_standAs 14 = .ok (.iload_n 2, 1) := by decide +kernel
theorem dX7_standAs_15 : decode cX7_standAs 15 = .ok (.iaload, 1) := by decide +kernel
theorem dX7_standAs_16 : decode cX7_standAs 16 = .ok (.invokevirtual 44, 3) := by decide +kernel
theorem dX7_standAs_19 : decode cX7_standAs 19 = .ok (.aload_n 0, 1) := by decide +kernel
theorem dX7_standAs_20 : decode cX7_standAs 20 = .ok (.getfield 15, 3) := by decide +kernel
theorem dX7_standAs_23 : decode cX7_standAs 23 = .ok (.iload_n 2, 1) := by decide +kernel
theorem dX7_standAs_24 : decode cX7_standAs 24 = .ok (.iconst 3, 1) := by decide +kernel
theorem dX7_standAs_25 : decode cX7_standAs 25 = .ok (.iand, 1) := by decide +kernel
theorem dX7_standAs_26 : decode cX7_standAs 26 = .ok (.aload_n 1, 1) := by decide +kernel
theorem dX7_standAs_27 : decode cX7_standAs 27 = .ok (.getfield 15, 3) := by decide +kernel
theorem dX7_standAs_30 : decode cX7_standAs 30 = .ok (.iload_n 2, 1) := by decide +kernel
theorem dX7_standAs_31 : decode cX7_standAs 31 = .ok (.iconst 3, 1) := by decide +kernel
theorem dX7_standAs_32 : decode cX7_standAs 32 = .ok (.iand, 1) := by decide +kernel
theorem dX7_standAs_33 : decode cX7_standAs 33 = .ok (.iaload, 1) := by decide +kernel
theorem dX7_standAs_34 : decode cX7_standAs 34 = .ok (.iastore, 1) := by decide +kernel
theorem dX7_standAs_35 : decode cX7_standAs 35 = .ok (.iinc 2 1, 3) := by decide +kernel
theorem dX7_standAs_38 : decode cX7_standAs 38 = .ok (.goto (-36), 3) := by decide +kernel
theorem dX7_standAs_41 : decode cX7_standAs 41 = .ok (.aload_n 0, 1) := by decide +kernel
theorem dX7_standAs_42 : decode cX7_standAs 42 = .ok (.aload_n 1, 1) := by decide +kernel
theorem dX7_standAs_43 : decode cX7_standAs 43 = .ok (.getfield 27, 3) := by decide +kernel
theorem dX7_standAs_46 : decode cX7_standAs 46 = .ok (.putfield 27, 3) := by decide +kernel
theorem dX7_standAs_49 : decode cX7_standAs 49 = .ok (.aload_n 0, 1) := by decide +kernel
theorem dX7_standAs_50 : decode cX7_standAs 50 = .ok (.iconst 0, 1) := by decide +kernel
theorem dX7_standAs_51 : decode cX7_standAs 51 = .ok (.putfield 31, 3) := by decide +kernel
theorem dX7_standAs_54 : decode cX7_standAs 54 = .ok (.return_, 1) := by decide +kernel
theorem dX7_lay_0 : decode cX7_lay 0 = .ok (.iload_n 1, 1) := by decide +kernel
theorem dX7_lay_1 : decode cX7_lay 1 = .ok (.bipush 7, 2) := by decide +kernel
theorem dX7_lay_3 : decode cX7_lay 3 = .ok (.iand, 1) := by decide +kernel
theorem dX7_lay_4 : decode cX7_lay 4 = .ok (.istore_n 3, 1) := by decide +kernel
theorem dX7_lay_5 : decode cX7_lay 5 = .ok (.aload_n 0, 1) := by decide +kernel
theorem dX7_lay_6 : decode cX7_lay 6 = .ok (.getfield 9, 3) := by decide +kernel
theorem dX7_lay_9 : decode cX7_lay 9 = .ok (.iload_n 3, 1) := by decide +kernel
theorem dX7_lay_10 : decode cX7_lay 10 = .ok (.iload_n 2, 1) := by decide +kernel
theorem dX7_lay_11 : decode cX7_lay 11 = .ok (.aload_n 0, 1) := by decide +kernel
theorem dX7_lay_12 : decode cX7_lay 12 = .ok (.getfield 18, 3) := by decide +kernel
theorem dX7_lay_15 : decode cX7_lay 15 = .ok (.iload_n 3, 1) := by decide +kernel
theorem dX7_lay_16 : decode cX7_lay 16 = .ok (.iaload, 1) := by decide +kernel
theorem dX7_lay_17 : decode cX7_lay 17 = .ok (.iconst (-1), 1) := by decide +kernel
theorem dX7_lay_18 : decode cX7_lay 18 = .ok (.ixor, 1) := by decide +kernel
theorem dX7_lay_19 : decode cX7_lay 19 = .ok (.iand, 1) := by decide +kernel
theorem dX7_lay_20 : decode cX7_lay 20 = .ok (.aload_n 0, 1) := by decide +kernel
theorem dX7_lay_21 : decode cX7_lay 21 = .ok (.getfield 21, 3) := by decide +kernel
theorem dX7_lay_24 : decode cX7_lay 24 = .ok (.iload_n 3, 1) := by decide +kernel
theorem dX7_lay_25 : decode cX7_lay 25 = .ok (.iaload, 1) := by decide +kernel
theorem dX7_lay_26 : decode cX7_lay 26 = .ok (.ior, 1) := by decide +kernel
theorem dX7_lay_27 : decode cX7_lay 27 = .ok (.iastore, 1) := by decide +kernel
theorem dX7_lay_28 : decode cX7_lay 28 = .ok (.return_, 1) := by decide +kernel
theorem dX7_stickBit_0 : decode cX7_stickBit 0 = .ok (.iload_n 1, 1) := by decide +kernel
theorem dX7_stickBit_1 : decode cX7_stickBit 1 = .ok (.bipush 7, 2) := by decide +kernel
theorem dX7_stickBit_3 : decode cX7_stickBit 3 = .ok (.iand, 1) := by decide +kernel
theorem dX7_stickBit_4 : decode cX7_stickBit 4 = .ok (.istore 4, 2) := by decide +kernel
theorem dX7_stickBit_6 : decode cX7_stickBit 6 = .ok (.iconst 1, 1) := by decide +kernel
theorem dX7_stickBit_7 : decode cX7_stickBit 7 = .ok (.iload_n 2, 1) := by decide +kernel
theorem dX7_stickBit_8 : decode cX7_stickBit 8 = .ok (.ishl, 1) := by decide +kernel
theorem dX7_stickBit_9 : decode cX7_stickBit 9 = .ok (.istore 5, 2) := by decide +kernel
theorem dX7_stickBit_11 : decode cX7_stickBit 11 = .ok (.aload_n 0, 1) := by decide +kernel
theorem dX7_stickBit_12 : decode cX7_stickBit 12 = .ok (.getfield 18, 3) := by decide +kernel
theorem dX7_stickBit_15 : decode cX7_stickBit 15 = .ok (.iload 4, 2) := by decide +kernel
theorem dX7_stickBit_17 : decode cX7_stickBit 17 = .ok (.dup2, 1) := by decide +kernel
theorem dX7_stickBit_18 : decode cX7_stickBit 18 = .ok (.iaload, 1) := by decide +kernel
theorem dX7_stickBit_19 : decode cX7_stickBit 19 = .ok (.iload 5, 2) := by decide +kernel
theorem dX7_stickBit_21 : decode cX7_stickBit 21 = .ok (.ior, 1) := by decide +kernel
theorem dX7_stickBit_22 : decode cX7_stickBit 22 = .ok (.iastore, 1) := by decide +kernel
theorem dX7_stickBit_23 : decode cX7_stickBit 23 = .ok (.aload_n 0, 1) := by decide +kernel
theorem dX7_stickBit_24 : decode cX7_stickBit 24 = .ok (.getfield 21, 3) := by decide +kernel
theorem dX7_stickBit_27 : decode cX7_stickBit 27 = .ok (.iload 4, 2) := by decide +kernel
theorem dX7_stickBit_29 : decode cX7_stickBit 29 = .ok (.iload_n 3, 1) := by decide +kernel
theorem dX7_stickBit_30 : decode cX7_stickBit 30 = .ok (.ifCond .eq 16, 3) := by decide +kernel
theorem dX7_stickBit_33 : decode cX7_stickBit 33 = .ok (.aload_n 0, 1) := by decide +kernel
theorem dX7_stickBit_34 : decode cX7_stickBit 34 = .ok (.getfield 21, 3) := by decide +kernel
theorem dX7_stickBit_37 : decode cX7_stickBit 37 = .ok (.iload 4, 2) := by decide +kernel
theorem dX7_stickBit_39 : decode cX7_stickBit 39 = .ok (.iaload, 1) := by decide +kernel
theorem dX7_stickBit_40 : decode cX7_stickBit 40 = .ok (.iload 5, 2) := by decide +kernel
theorem dX7_stickBit_42 : decode cX7_stickBit 42 = .ok (.ior, 1) := by decide +kernel
theorem dX7_stickBit_43 : decode cX7_stickBit 43 = .ok (.goto 15, 3) := by decide +kernel
theorem dX7_stickBit_46 : decode cX7_stickBit 46 = .ok (.aload_n 0, 1) := by decide +kernel
theorem dX7_stickBit_47 : decode cX7_stickBit 47 = .ok (.getfield 21, 3) := by decide +kernel
theorem dX7_stickBit_50 : decode cX7_stickBit 50 = .ok (.iload 4, 2) := by decide +kernel
theorem dX7_stickBit_52 : decode cX7_stickBit 52 = .ok (.iaload, 1) := by decide +kernel
theorem dX7_stickBit_53 : decode cX7_stickBit 53 = .ok (.iload 5, 2) := by decide +kernel
theorem dX7_stickBit_55 : decode cX7_stickBit 55 = .ok (.iconst (-1), 1) := by decide +kernel
theorem dX7_stickBit_56 : decode cX7_stickBit 56 = .ok (.ixor, 1) := by decide +kernel
theorem dX7_stickBit_57 : decode cX7_stickBit 57 = .ok (.iand, 1) := by decide +kernel
theorem dX7_stickBit_58 : decode cX7_stickBit 58 = .ok (.iastore, 1) := by decide +kernel
theorem dX7_stickBit_59 : decode cX7_stickBit 59 = .ok (.aload_n 0, 1) := by decide +kernel
theorem dX7_stickBit_60 : decode cX7_stickBit 60 = .ok (.iload 4, 2) := by decide +kernel
theorem dX7_stickBit_62 : decode cX7_stickBit 62 = .ok (.aload_n 0, 1) := by decide +kernel
theorem dX7_stickBit_63 : decode cX7_stickBit 63 = .ok (.getfield 9, 3) := by decide +kernel
theorem dX7_stickBit_66 : decode cX7_stickBit 66 = .ok (.iload 4, 2) := by decide +kernel
theorem dX7_stickBit_68 : decode cX7_stickBit 68 = .ok (.iaload, 1) := by decide +kernel
theorem dX7_stickBit_69 : decode cX7_stickBit 69 = .ok (.invokevirtual 44, 3) := by decide +kernel
theorem dX7_stickBit_72 : decode cX7_stickBit 72 = .ok (.return_, 1) := by decide +kernel
theorem dX7_stuckBits_0 : decode cX7_stuckBits 0 = .ok (.iconst 0, 1) := by decide +kernel
theorem dX7_stuckBits_1 : decode cX7_stuckBits 1 = .ok (.istore_n 1, 1) := by decide +kernel
theorem dX7_stuckBits_2 : decode cX7_stuckBits 2 = .ok (.iconst 0, 1) := by decide +kernel
theorem dX7_stuckBits_3 : decode cX7_stuckBits 3 = .ok (.istore_n 2, 1) := by decide +kernel
theorem dX7_stuckBits_4 : decode cX7_stuckBits 4 = .ok (.iload_n 2, 1) := by decide +kernel
theorem dX7_stuckBits_5 : decode cX7_stuckBits 5 = .ok (.bipush 8, 2) := by decide +kernel
theorem dX7_stuckBits_7 : decode cX7_stuckBits 7 = .ok (.if_icmp .ge 21, 3) := by decide +kernel
theorem dX7_stuckBits_10 : decode cX7_stuckBits 10 = .ok (.iload_n 1, 1) := by decide +kernel
theorem dX7_stuckBits_11 : decode cX7_stuckBits 11 = .ok (.aload_n 0, 1) := by decide +kernel
theorem dX7_stuckBits_12 : decode cX7_stuckBits 12 = .ok (.getfield 18, 3) := by decide +kernel
theorem dX7_stuckBits_15 : decode cX7_stuckBits 15 = .ok (.iload_n 2, 1) := by decide +kernel
theorem dX7_stuckBits_16 : decode cX7_stuckBits 16 = .ok (.iaload, 1) := by decide +kernel
theorem dX7_stuckBits_17 : decode cX7_stuckBits 17 = .ok (.invokestatic 48, 3) := by decide +kernel
theorem dX7_stuckBits_20 : decode cX7_stuckBits 20 = .ok (.iadd, 1) := by decide +kernel
theorem dX7_stuckBits_21 : decode cX7_stuckBits 21 = .ok (.istore_n 1, 1) := by decide +kernel
theorem dX7_stuckBits_22 : decode cX7_stuckBits 22 = .ok (.iinc 2 1, 3) := by decide +kernel
theorem dX7_stuckBits_25 : decode cX7_stuckBits 25 = .ok (.goto (-21), 3) := by decide +kernel
theorem dX7_stuckBits_28 : decode cX7_stuckBits 28 = .ok (.iload_n 1, 1) := by decide +kernel
theorem dX7_stuckBits_29 : decode cX7_stuckBits 29 = .ok (.ireturn, 1) := by decide +kernel
theorem dX7_flipRegister_0 : decode cX7_flipRegister 0 = .ok (.iload_n 1, 1) := by decide +kernel
theorem dX7_flipRegister_1 : decode cX7_flipRegister 1 = .ok (.ifCond .lt 19, 3) := by decide +kernel
theorem dX7_flipRegister_4 : decode cX7_flipRegister 4 = .ok (.iload_n 1, 1) := by decide +kernel
theorem dX7_flipRegister_5 : decode cX7_flipRegister 5 = .ok (.bipush 7, 2) := by decide +kernel
theorem dX7_flipRegister_7 : decode cX7_flipRegister 7 = .ok (.if_icmp .gt 13, 3) := by decide +kernel
theorem dX7_flipRegister_10 : decode cX7_flipRegister 10 = .ok (.iload_n 2, 1) := by decide +kernel
theorem dX7_flipRegister_11 : decode cX7_flipRegister 11 = .ok (.ifCond .lt 9, 3) := by decide +kernel
theorem dX7_flipRegister_14 : decode cX7_flipRegister 14 = .ok (.iload_n 2, 1) := by decide +kernel
theorem dX7_flipRegister_15 : decode cX7_flipRegister 15 = .ok (.bipush 31, 2) := by decide +kernel
theorem dX7_flipRegister_17 : decode cX7_flipRegister 17 = .ok (.if_icmp .le 5, 3) := by decide +kernel
theorem dX7_flipRegister_20 : decode cX7_flipRegister 20 = .ok (.iconst 0, 1) := by decide +kernel
theorem dX7_flipRegister_21 : decode cX7_flipRegister 21 = .ok (.ireturn, 1) := by decide +kernel
theorem dX7_flipRegister_22 : decode cX7_flipRegister 22 = .ok (.aload_n 0, 1) := by decide +kernel
theorem dX7_flipRegister_23 : decode cX7_flipRegister 23 = .ok (.iload_n 1, 1) := by decide +kernel
theorem dX7_flipRegister_24 : decode cX7_flipRegister 24 = .ok (.aload_n 0, 1) := by decide +kernel
theorem dX7_flipRegister_25 : decode cX7_flipRegister 25 = .ok (.getfield 9, 3) := by decide +kernel
theorem dX7_flipRegister_28 : decode cX7_flipRegister 28 = .ok (.iload_n 1, 1) := by decide +kernel
theorem dX7_flipRegister_29 : decode cX7_flipRegister 29 = .ok (.iaload, 1) := by decide +kernel
theorem dX7_flipRegister_30 : decode cX7_flipRegister 30 = .ok (.iconst 1, 1) := by decide +kernel
theorem dX7_flipRegister_31 : decode cX7_flipRegister 31 = .ok (.iload_n 2, 1) := by decide +kernel
theorem dX7_flipRegister_32 : decode cX7_flipRegister 32 = .ok (.ishl, 1) := by decide +kernel
theorem dX7_flipRegister_33 : decode cX7_flipRegister 33 = .ok (.ixor, 1) := by decide +kernel
theorem dX7_flipRegister_34 : decode cX7_flipRegister 34 = .ok (.invokevirtual 44, 3) := by decide +kernel
theorem dX7_flipRegister_37 : decode cX7_flipRegister 37 = .ok (.iconst 1, 1) := by decide +kernel
theorem dX7_flipRegister_38 : decode cX7_flipRegister 38 = .ok (.ireturn, 1) := by decide +kernel
theorem dX7_flipFloat_0 : decode cX7_flipFloat 0 = .ok (.iload_n 1, 1) := by decide +kernel
theorem dX7_flipFloat_1 : decode cX7_flipFloat 1 = .ok (.ifCond .lt 18, 3) := by decide +kernel
theorem dX7_flipFloat_4 : decode cX7_flipFloat 4 = .ok (.iload_n 1, 1) := by decide +kernel
theorem dX7_flipFloat_5 : decode cX7_flipFloat 5 = .ok (.iconst 3, 1) := by decide +kernel
theorem dX7_flipFloat_6 : decode cX7_flipFloat 6 = .ok (.if_icmp .gt 13, 3) := by decide +kernel
theorem dX7_flipFloat_9 : decode cX7_flipFloat 9 = .ok (.iload_n 2, 1) := by decide +kernel
theorem dX7_flipFloat_10 : decode cX7_flipFloat 10 = .ok (.ifCond .lt 9, 3) := by decide +kernel
theorem dX7_flipFloat_13 : decode cX7_flipFloat 13 = .ok (.iload_n 2, 1) := by decide +kernel
theorem dX7_flipFloat_14 : decode cX7_flipFloat 14 = .ok (.bipush 31, 2) := by decide +kernel
theorem dX7_flipFloat_16 : decode cX7_flipFloat 16 = .ok (.if_icmp .le 5, 3) := by decide +kernel
theorem dX7_flipFloat_19 : decode cX7_flipFloat 19 = .ok (.iconst 0, 1) := by decide +kernel
theorem dX7_flipFloat_20 : decode cX7_flipFloat 20 = .ok (.ireturn, 1) := by decide +kernel
theorem dX7_flipFloat_21 : decode cX7_flipFloat 21 = .ok (.aload_n 0, 1) := by decide +kernel
theorem dX7_flipFloat_22 : decode cX7_flipFloat 22 = .ok (.getfield 15, 3) := by decide +kernel
theorem dX7_flipFloat_25 : decode cX7_flipFloat 25 = .ok (.iload_n 1, 1) := by decide +kernel
theorem dX7_flipFloat_26 : decode cX7_flipFloat 26 = .ok (.dup2, 1) := by decide +kernel
theorem dX7_flipFloat_27 : decode cX7_flipFloat 27 = .ok (.iaload, 1) := by decide +kernel
theorem dX7_flipFloat_28 : decode cX7_flipFloat 28 = .ok (.iconst 1, 1) := by decide +kernel
theorem dX7_flipFloat_29 : decode cX7_flipFloat 29 = .ok (.iload_n 2, 1) := by decide +kernel
theorem dX7_flipFloat_30 : decode cX7_flipFloat 30 = .ok (.ishl, 1) := by decide +kernel
theorem dX7_flipFloat_31 : decode cX7_flipFloat 31 = .ok (.ixor, 1) := by decide +kernel
theorem dX7_flipFloat_32 : decode cX7_flipFloat 32 = .ok (.iastore, 1) := by decide +kernel
theorem dX7_flipFloat_33 : decode cX7_flipFloat 33 = .ok (.iconst 1, 1) := by decide +kernel
theorem dX7_flipFloat_34 : decode cX7_flipFloat 34 = .ok (.ireturn, 1) := by decide +kernel
theorem dX7_flipPlace_0 : decode cX7_flipPlace 0 = .ok (.iload_n 1, 1) := by decide +kernel
theorem dX7_flipPlace_1 : decode cX7_flipPlace 1 = .ok (.ifCond .ne 12, 3) := by decide +kernel
theorem dX7_flipPlace_4 : decode cX7_flipPlace 4 = .ok (.iload_n 2, 1) := by decide +kernel
theorem dX7_flipPlace_5 : decode cX7_flipPlace 5 = .ok (.ifCond .lt 8, 3) := by decide +kernel
theorem dX7_flipPlace_8 : decode cX7_flipPlace 8 = .ok (.iload_n 2, 1) := by decide +kernel
theorem dX7_flipPlace_9 : decode cX7_flipPlace 9 = .ok (.iconst 5, 1) := by decide +kernel
theorem dX7_flipPlace_10 : decode cX7_flipPlace 10 = .ok (.if_icmp .le 5, 3) := by decide +kernel
theorem dX7_flipPlace_13 : decode cX7_flipPlace 13 = .ok (.iconst 0, 1) := by decide +kernel
theorem dX7_flipPlace_14 : decode cX7_flipPlace 14 = .ok (.ireturn, 1) := by decide +kernel
theorem dX7_flipPlace_15 : decode cX7_flipPlace 15 = .ok (.aload_n 0, 1) := by decide +kernel
theorem dX7_flipPlace_16 : decode cX7_flipPlace 16 = .ok (.dup, 1) := by decide +kernel
theorem dX7_flipPlace_17 : decode cX7_flipPlace 17 = .ok (.getfield 27, 3) := by decide +kernel
theorem dX7_flipPlace_20 : decode cX7_flipPlace 20 = .ok (.iconst 1, 1) := by decide +kernel
theorem dX7_flipPlace_21 : decode cX7_flipPlace 21 = .ok (.iload_n 2, 1) := by decide +kernel
theorem dX7_flipPlace_22 : decode cX7_flipPlace 22 = .ok (.ishl, 1) := by decide +kernel
theorem dX7_flipPlace_23 : decode cX7_flipPlace 23 = .ok (.ixor, 1) := by decide +kernel
theorem dX7_flipPlace_24 : decode cX7_flipPlace 24 = .ok (.putfield 27, 3) := by decide +kernel
theorem dX7_flipPlace_27 : decode cX7_flipPlace 27 = .ok (.iconst 1, 1) := by decide +kernel
theorem dX7_flipPlace_28 : decode cX7_flipPlace 28 = .ok (.ireturn, 1) := by decide +kernel
theorem dX7_differences_0 : decode cX7_differences 0 = .ok (.aload_n 0, 1) := by decide +kernel
theorem dX7_differences_1 : decode cX7_differences 1 = .ok (.getfield 27, 3) := by decide +kernel
theorem dX7_differences_4 : decode cX7_differences 4 = .ok (.aload_n 1, 1) := by decide +kernel
theorem dX7_differences_5 : decode cX7_differences 5 = .ok (.getfield 27, 3) := by decide +kernel
theorem dX7_differences_8 : decode cX7_differences 8 = .ok (.if_icmp .ne 7, 3) := by decide +kernel
theorem dX7_differences_11 : decode cX7_differences 11 = .ok (.iconst 0, 1) := by decide +kernel
theorem dX7_differences_12 : decode cX7_differences 12 = .ok (.goto 4, 3) := by decide +kernel
theorem dX7_differences_15 : decode cX7_differences 15 = .ok (.iconst 1, 1) := by decide +kernel
theorem dX7_differences_16 : decode cX7_differences 16 = .ok (.istore_n 2, 1) := by decide +kernel
theorem dX7_differences_17 : decode cX7_differences 17 = .ok (.iconst 0, 1) := by decide +kernel
theorem dX7_differences_18 : decode cX7_differences 18 = .ok (.istore_n 3, 1) := by decide +kernel
theorem dX7_differences_19 : decode cX7_differences 19 = .ok (.iload_n 3, 1) := by decide +kernel
theorem dX7_differences_20 : decode cX7_differences 20 = .ok (.bipush 8, 2) := by decide +kernel
theorem dX7_differences_22 : decode cX7_differences 22 = .ok (.if_icmp .ge 32, 3) := by decide +kernel
theorem dX7_differences_25 : decode cX7_differences 25 = .ok (.iload_n 2, 1) := by decide +kernel
theorem dX7_differences_26 : decode cX7_differences 26 = .ok (.aload_n 0, 1) := by decide +kernel
theorem dX7_differences_27 : decode cX7_differences 27 = .ok (.getfield 9, 3) := by decide +kernel
theorem dX7_differences_30 : decode cX7_differences 30 = .ok (.iload_n 3, 1) := by decide +kernel
theorem dX7_differences_31 : decode cX7_differences 31 = .ok (.iaload, 1) := by decide +kernel
theorem dX7_differences_32 : decode cX7_differences 32 = .ok (.aload_n 1, 1) := by decide +kernel
theorem dX7_differences_33 : decode cX7_differences 33 = .ok (.getfield 9, 3) := by decide +kernel
theorem dX7_differences_36 : decode cX7_differences 36 = .ok (.iload_n 3, 1) := by decide +kernel
theorem dX7_differences_37 : decode cX7_differences 37 = .ok (.iaload, 1) := by decide +kernel
theorem dX7_differences_38 : decode cX7_differences 38 = .ok (.if_icmp .ne 7, 3) := by decide +kernel
theorem dX7_differences_41 : decode cX7_differences 41 = .ok (.iconst 0, 1) := by decide +kernel
theorem dX7_differences_42 : decode cX7_differences 42 = .ok (.goto 4, 3) := by decide +kernel
theorem dX7_differences_45 : decode cX7_differences 45 = .ok (.iconst 1, 1) := by decide +kernel
theorem dX7_differences_46 : decode cX7_differences 46 = .ok (.iadd, 1) := by decide +kernel
theorem dX7_differences_47 : decode cX7_differences 47 = .ok (.istore_n 2, 1) := by decide +kernel
theorem dX7_differences_48 : decode cX7_differences 48 = .ok (.iinc 3 1, 3) := by decide +kernel
theorem dX7_differences_51 : decode cX7_differences 51 = .ok (.goto (-32), 3) := by decide +kernel
theorem dX7_differences_54 : decode cX7_differences 54 = .ok (.iconst 0, 1) := by decide +kernel
theorem dX7_differences_55 : decode cX7_differences 55 = .ok (.istore_n 3, 1) := by decide +kernel
theorem dX7_differences_56 : decode cX7_differences 56 = .ok (.iload_n 3, 1) := by decide +kernel
theorem dX7_differences_57 : decode cX7_differences 57 = .ok (.iconst 4, 1) := by decide +kernel
theorem dX7_differences_58 : decode cX7_differences 58 = .ok (.if_icmp .ge 32, 3) := by decide +kernel
theorem dX7_differences_61 : decode cX7_differences 61 = .ok (.iload_n 2, 1) := by decide +kernel
theorem dX7_differences_62 : decode cX7_differences 62 = .ok (.aload_n 0, 1) := by decide +kernel
theorem dX7_differences_63 : decode cX7_differences 63 = .ok (.getfield 15, 3) := by decide +kernel
theorem dX7_differences_66 : decode cX7_differences 66 = .ok (.iload_n 3, 1) := by decide +kernel
theorem dX7_differences_67 : decode cX7_differences 67 = .ok (.iaload, 1) := by decide +kernel
theorem dX7_differences_68 : decode cX7_differences 68 = .ok (.aload_n 1, 1) := by decide +kernel
theorem dX7_differences_69 : decode cX7_differences 69 = .ok (.getfield 15, 3) := by decide +kernel
theorem dX7_differences_72 : decode cX7_differences 72 = .ok (.iload_n 3, 1) := by decide +kernel
theorem dX7_differences_73 : decode cX7_differences 73 = .ok (.iaload, 1) := by decide +kernel
theorem dX7_differences_74 : decode cX7_differences 74 = .ok (.if_icmp .ne 7, 3) := by decide +kernel
theorem dX7_differences_77 : decode cX7_differences 77 = .ok (.iconst 0, 1) := by decide +kernel
theorem dX7_differences_78 : decode cX7_differences 78 = .ok (.goto 4, 3) := by decide +kernel
theorem dX7_differences_81 : decode cX7_differences 81 = .ok (.iconst 1, 1) := by decide +kernel
theorem dX7_differences_82 : decode cX7_differences 82 = .ok (.iadd, 1) := by decide +kernel
theorem dX7_differences_83 : decode cX7_differences 83 = .ok (.istore_n 2, 1) := by decide +kernel
theorem dX7_differences_84 : decode cX7_differences 84 = .ok (.iinc 3 1, 3) := by decide +kernel
theorem dX7_differences_87 : decode cX7_differences 87 = .ok (.goto (-31), 3) := by decide +kernel
theorem dX7_differences_90 : decode cX7_differences 90 = .ok (.iload_n 2, 1) := by decide +kernel
theorem dX7_differences_91 : decode cX7_differences 91 = .ok (.ireturn, 1) := by decide +kernel
theorem dX7_isHalted_0 : decode cX7_isHalted 0 = .ok (.aload_n 1, 1) := by decide +kernel
theorem dX7_isHalted_1 : decode cX7_isHalted 1 = .ok (.getfield 54, 3) := by decide +kernel
theorem dX7_isHalted_4 : decode cX7_isHalted 4 = .ok (.aload_n 0, 1) := by decide +kernel
theorem dX7_isHalted_5 : decode cX7_isHalted 5 = .ok (.getfield 27, 3) := by decide +kernel
theorem dX7_isHalted_8 : decode cX7_isHalted 8 = .ok (.bipush 63, 2) := by decide +kernel
theorem dX7_isHalted_10 : decode cX7_isHalted 10 = .ok (.iand, 1) := by decide +kernel
theorem dX7_isHalted_11 : decode cX7_isHalted 11 = .ok (.iaload, 1) := by decide +kernel
theorem dX7_isHalted_12 : decode cX7_isHalted 12 = .ok (.ifCond .ne 7, 3) := by decide +kernel
theorem dX7_isHalted_15 : decode cX7_isHalted 15 = .ok (.iconst 1, 1) := by decide +kernel
theorem dX7_isHalted_16 : decode cX7_isHalted 16 = .ok (.goto 4, 3) := by decide +kernel
theorem dX7_isHalted_19 : decode cX7_isHalted 19 = .ok (.iconst 0, 1) := by decide +kernel
theorem dX7_isHalted_20 : decode cX7_isHalted 20 = .ok (.ireturn, 1) := by decide +kernel
theorem dX7_address_0 : decode cX7_address 0 = .ok (.aload_n 0, 1) := by decide +kernel
theorem dX7_address_1 : decode cX7_address 1 = .ok (.getfield 27, 3) := by decide +kernel
theorem dX7_address_4 : decode cX7_address 4 = .ok (.bipush 63, 2) := by decide +kernel
theorem dX7_address_6 : decode cX7_address 6 = .ok (.iand, 1) := by decide +kernel
theorem dX7_address_7 : decode cX7_address 7 = .ok (.istore_n 2, 1) := by decide +kernel
theorem dX7_address_8 : decode cX7_address 8 = .ok (.aload_n 1, 1) := by decide +kernel
theorem dX7_address_9 : decode cX7_address 9 = .ok (.getfield 54, 3) := by decide +kernel
theorem dX7_address_12 : decode cX7_address 12 = .ok (.iload_n 2, 1) := by decide +kernel
theorem dX7_address_13 : decode cX7_address 13 = .ok (.iaload, 1) := by decide +kernel
theorem dX7_address_14 : decode cX7_address 14 = .ok (.bipush 8, 2) := by decide +kernel
theorem dX7_address_16 : decode cX7_address 16 = .ok (.if_icmp .ne 6, 3) := by decide +kernel
theorem dX7_address_19 : decode cX7_address 19 = .ok (.bipush 32, 2) := by decide +kernel
theorem dX7_address_21 : decode cX7_address 21 = .ok (.ireturn, 1) := by decide +kernel
theorem dX7_address_22 : decode cX7_address 22 = .ok (.aload_n 0, 1) := by decide +kernel
theorem dX7_address_23 : decode cX7_address 23 = .ok (.getfield 9, 3) := by decide +kernel
theorem dX7_address_26 : decode cX7_address 26 = .ok (.aload_n 1, 1) := by decide +kernel
theorem dX7_address_27 : decode cX7_address 27 = .ok (.getfield 59, 3) := by decide +kernel
theorem dX7_address_30 : decode cX7_address 30 = .ok (.iload_n 2, 1) := by decide +kernel
theorem dX7_address_31 : decode cX7_address 31 = .ok (.iaload, 1) := by decide +kernel
theorem dX7_address_32 : decode cX7_address 32 = .ok (.bipush 7, 2) := by decide +kernel
theorem dX7_address_34 : decode cX7_address 34 = .ok (.iand, 1) := by decide +kernel
theorem dX7_address_35 : decode cX7_address 35 = .ok (.iaload, 1) := by decide +kernel
theorem dX7_address_36 : decode cX7_address 36 = .ok (.aload_n 1, 1) := by decide +kernel
theorem dX7_address_37 : decode cX7_address 37 = .ok (.getfield 62, 3) := by decide +kernel
theorem dX7_address_40 : decode cX7_address 40 = .ok (.iload_n 2, 1) := by decide +kernel
theorem dX7_address_41 : decode cX7_address 41 = .ok (.iaload, 1) := by decide +kernel
theorem dX7_address_42 : decode cX7_address 42 = .ok (.iadd, 1) := by decide +kernel
theorem dX7_address_43 : decode cX7_address 43 = .ok (.bipush 31, 2) := by decide +kernel
theorem dX7_address_45 : decode cX7_address 45 = .ok (.iand, 1) := by decide +kernel
theorem dX7_address_46 : decode cX7_address 46 = .ok (.ireturn, 1) := by decide +kernel
theorem dX7_word_0 : decode cX7_word 0 = .ok (.aload_n 0, 1) := by decide +kernel
theorem dX7_word_1 : decode cX7_word 1 = .ok (.getfield 9, 3) := by decide +kernel
theorem dX7_word_4 : decode cX7_word 4 = .ok (.aload_n 1, 1) := by decide +kernel
theorem dX7_word_5 : decode cX7_word 5 = .ok (.getfield 65, 3) := by decide +kernel
theorem dX7_word_8 : decode cX7_word 8 = .ok (.aload_n 0, 1) := by decide +kernel
theorem dX7_word_9 : decode cX7_word 9 = .ok (.getfield 27, 3) := by decide +kernel
theorem dX7_word_12 : decode cX7_word 12 = .ok (.bipush 63, 2) := by decide +kernel
theorem dX7_word_14 : decode cX7_word 14 = .ok (.iand, 1) := by decide +kernel
theorem dX7_word_15 : decode cX7_word 15 = .ok (.iaload, 1) := by decide +kernel
theorem dX7_word_16 : decode cX7_word 16 = .ok (.bipush 7, 2) := by decide +kernel
theorem dX7_word_18 : decode cX7_word 18 = .ok (.iand, 1) := by decide +kernel
theorem dX7_word_19 : decode cX7_word 19 = .ok (.iaload, 1) := by decide +kernel
theorem dX7_word_20 : decode cX7_word 20 = .ok (.ireturn, 1) := by decide +kernel
theorem dX7_goesElsewhere_0 : decode cX7_goesElsewhere 0 = .ok (.aload_n 0, 1) := by decide +kernel
theorem dX7_goesElsewhere_1 : decode cX7_goesElsewhere 1 = .ok (.getfield 27, 3) := by decide +kernel
theorem dX7_goesElsewhere_4 : decode cX7_goesElsewhere 4 = .ok (.bipush 63, 2) := by decide +kernel
theorem dX7_goesElsewhere_6 : decode cX7_goesElsewhere 6 = .ok (.iand, 1) := by decide +kernel
theorem dX7_goesElsewhere_7 : decode cX7_goesElsewhere 7 = .ok (.istore_n 2, 1) := by decide +kernel
theorem dX7_goesElsewhere_8 : decode cX7_goesElsewhere 8 = .ok (.aload_n 1, 1) := by decide +kernel
theorem dX7_goesElsewhere_9 : decode cX7_goesElsewhere 9 = .ok (.getfield 65, 3) := by decide +kernel
theorem dX7_goesElsewhere_12 : decode cX7_goesElsewhere 12 = .ok (.iload_n 2, 1) := by decide +kernel
theorem dX7_goesElsewhere_13 : decode cX7_goesElsewhere 13 = .ok (.iaload, 1) := by decide +kernel
theorem dX7_goesElsewhere_14 : decode cX7_goesElsewhere 14 = .ok (.istore_n 3, 1) := by decide +kernel
theorem dX7_goesElsewhere_15 : decode cX7_goesElsewhere 15 = .ok (.aload_n 1, 1) := by decide +kernel
theorem dX7_goesElsewhere_16 : decode cX7_goesElsewhere 16 = .ok (.getfield 59, 3) := by decide +kernel
theorem dX7_goesElsewhere_19 : decode cX7_goesElsewhere 19 = .ok (.iload_n 2, 1) := by decide +kernel
theorem dX7_goesElsewhere_20 : decode cX7_goesElsewhere 20 = .ok (.iaload, 1) := by decide +kernel
theorem dX7_goesElsewhere_21 : decode cX7_goesElsewhere 21 = .ok (.istore 4, 2) := by decide +kernel
theorem dX7_goesElsewhere_23 : decode cX7_goesElsewhere 23 = .ok (.aload_n 1, 1) := by decide +kernel
theorem dX7_goesElsewhere_24 : decode cX7_goesElsewhere 24 = .ok (.getfield 54, 3) := by decide +kernel
theorem dX7_goesElsewhere_27 : decode cX7_goesElsewhere 27 = .ok (.iload_n 2, 1) := by decide +kernel
theorem dX7_goesElsewhere_28 : decode cX7_goesElsewhere 28 = .ok (.iaload, 1) := by decide +kernel
theorem dX7_goesElsewhere_29 : decode cX7_goesElsewhere 29 = .ok (.tableswitch 94 15 17 #[27, 45, 73], 27) := by decide +kernel
theorem dX7_goesElsewhere_56 : decode cX7_goesElsewhere 56 = .ok (.aload_n 0, 1) := by decide +kernel
theorem dX7_goesElsewhere_57 : decode cX7_goesElsewhere 57 = .ok (.getfield 9, 3) := by decide +kernel
theorem dX7_goesElsewhere_60 : decode cX7_goesElsewhere 60 = .ok (.iload_n 3, 1) := by decide +kernel
theorem dX7_goesElsewhere_61 : decode cX7_goesElsewhere 61 = .ok (.bipush 7, 2) := by decide +kernel
theorem dX7_goesElsewhere_63 : decode cX7_goesElsewhere 63 = .ok (.iand, 1) := by decide +kernel
theorem dX7_goesElsewhere_64 : decode cX7_goesElsewhere 64 = .ok (.iaload, 1) := by decide +kernel
theorem dX7_goesElsewhere_65 : decode cX7_goesElsewhere 65 = .ok (.ifCond .ne 7, 3) := by decide +kernel
theorem dX7_goesElsewhere_68 : decode cX7_goesElsewhere 68 = .ok (.iconst 1, 1) := by decide +kernel
theorem dX7_goesElsewhere_69 : decode cX7_goesElsewhere 69 = .ok (.goto 4, 3) := by decide +kernel
theorem dX7_goesElsewhere_72 : decode cX7_goesElsewhere 72 = .ok (.iconst 0, 1) := by decide +kernel
theorem dX7_goesElsewhere_73 : decode cX7_goesElsewhere 73 = .ok (.ireturn, 1) := by decide +kernel
theorem dX7_goesElsewhere_74 : decode cX7_goesElsewhere 74 = .ok (.aload_n 0, 1) := by decide +kernel
theorem dX7_goesElsewhere_75 : decode cX7_goesElsewhere 75 = .ok (.getfield 9, 3) := by decide +kernel
theorem dX7_goesElsewhere_78 : decode cX7_goesElsewhere 78 = .ok (.iload_n 3, 1) := by decide +kernel
theorem dX7_goesElsewhere_79 : decode cX7_goesElsewhere 79 = .ok (.bipush 7, 2) := by decide +kernel
theorem dX7_goesElsewhere_81 : decode cX7_goesElsewhere 81 = .ok (.iand, 1) := by decide +kernel
theorem dX7_goesElsewhere_82 : decode cX7_goesElsewhere 82 = .ok (.iaload, 1) := by decide +kernel
theorem dX7_goesElsewhere_83 : decode cX7_goesElsewhere 83 = .ok (.aload_n 0, 1) := by decide +kernel
theorem dX7_goesElsewhere_84 : decode cX7_goesElsewhere 84 = .ok (.getfield 9, 3) := by decide +kernel
theorem dX7_goesElsewhere_87 : decode cX7_goesElsewhere 87 = .ok (.iload 4, 2) := by decide +kernel
theorem dX7_goesElsewhere_89 : decode cX7_goesElsewhere 89 = .ok (.bipush 7, 2) := by decide +kernel
theorem dX7_goesElsewhere_91 : decode cX7_goesElsewhere 91 = .ok (.iand, 1) := by decide +kernel
theorem dX7_goesElsewhere_92 : decode cX7_goesElsewhere 92 = .ok (.iaload, 1) := by decide +kernel
theorem dX7_goesElsewhere_93 : decode cX7_goesElsewhere 93 = .ok (.if_icmp .ge 7, 3) := by decide +kernel
theorem dX7_goesElsewhere_96 : decode cX7_goesElsewhere 96 = .ok (.iconst 1, 1) := by decide +kernel
theorem dX7_goesElsewhere_97 : decode cX7_goesElsewhere 97 = .ok (.goto 4, 3) := by decide +kernel
theorem dX7_goesElsewhere_100 : decode cX7_goesElsewhere 100 = .ok (.iconst 0, 1) := by decide +kernel
theorem dX7_goesElsewhere_101 : decode cX7_goesElsewhere 101 = .ok (.ireturn, 1) := by decide +kernel
theorem dX7_goesElsewhere_102 : decode cX7_goesElsewhere 102 = .ok (.aload_n 0, 1) := by decide +kernel
theorem dX7_goesElsewhere_103 : decode cX7_goesElsewhere 103 = .ok (.getfield 15, 3) := by decide +kernel
theorem dX7_goesElsewhere_106 : decode cX7_goesElsewhere 106 = .ok (.iload_n 3, 1) := by decide +kernel
theorem dX7_goesElsewhere_107 : decode cX7_goesElsewhere 107 = .ok (.iconst 3, 1) := by decide +kernel
theorem dX7_goesElsewhere_108 : decode cX7_goesElsewhere 108 = .ok (.iand, 1) := by decide +kernel
theorem dX7_goesElsewhere_109 : decode cX7_goesElsewhere 109 = .ok (.iaload, 1) := by decide +kernel
theorem dX7_goesElsewhere_110 : decode cX7_goesElsewhere 110 = .ok (.aload_n 0, 1) := by decide +kernel
theorem dX7_goesElsewhere_111 : decode cX7_goesElsewhere 111 = .ok (.getfield 15, 3) := by decide +kernel
theorem dX7_goesElsewhere_114 : decode cX7_goesElsewhere 114 = .ok (.iload 4, 2) := by decide +kernel
theorem dX7_goesElsewhere_116 : decode cX7_goesElsewhere 116 = .ok (.iconst 3, 1) := by decide +kernel
theorem dX7_goesElsewhere_117 : decode cX7_goesElsewhere 117 = .ok (.iand, 1) := by decide +kernel
theorem dX7_goesElsewhere_118 : decode cX7_goesElsewhere 118 = .ok (.iaload, 1) := by decide +kernel
theorem dX7_goesElsewhere_119 : decode cX7_goesElsewhere 119 = .ok (.invokestatic 68, 3) := by decide +kernel
theorem dX7_goesElsewhere_122 : decode cX7_goesElsewhere 122 = .ok (.ireturn, 1) := by decide +kernel
theorem dX7_goesElsewhere_123 : decode cX7_goesElsewhere 123 = .ok (.iconst 0, 1) := by decide +kernel
theorem dX7_goesElsewhere_124 : decode cX7_goesElsewhere 124 = .ok (.ireturn, 1) := by decide +kernel
theorem dX7_stepOn_0 : decode cX7_stepOn 0 = .ok (.aload_n 0, 1) := by decide +kernel
theorem dX7_stepOn_1 : decode cX7_stepOn 1 = .ok (.aload_n 0, 1) := by decide +kernel
theorem dX7_stepOn_2 : decode cX7_stepOn 2 = .ok (.getfield 27, 3) := by decide +kernel
theorem dX7_stepOn_5 : decode cX7_stepOn 5 = .ok (.iconst 1, 1) := by decide +kernel
theorem dX7_stepOn_6 : decode cX7_stepOn 6 = .ok (.iadd, 1) := by decide +kernel
theorem dX7_stepOn_7 : decode cX7_stepOn 7 = .ok (.bipush 63, 2) := by decide +kernel
theorem dX7_stepOn_9 : decode cX7_stepOn 9 = .ok (.iand, 1) := by decide +kernel
theorem dX7_stepOn_10 : decode cX7_stepOn 10 = .ok (.putfield 27, 3) := by decide +kernel
theorem dX7_stepOn_13 : decode cX7_stepOn 13 = .ok (.aload_n 0, 1) := by decide +kernel
theorem dX7_stepOn_14 : decode cX7_stepOn 14 = .ok (.dup, 1) := by decide +kernel
theorem dX7_stepOn_15 : decode cX7_stepOn 15 = .ok (.getfield 31, 3) := by decide +kernel
theorem dX7_stepOn_18 : decode cX7_stepOn 18 = .ok (.iconst 1, 1) := by decide +kernel
theorem dX7_stepOn_19 : decode cX7_stepOn 19 = .ok (.iadd, 1) := by decide +kernel
theorem dX7_stepOn_20 : decode cX7_stepOn 20 = .ok (.putfield 31, 3) := by decide +kernel
theorem dX7_stepOn_23 : decode cX7_stepOn 23 = .ok (.return_, 1) := by decide +kernel
theorem dX7_stepTo_0 : decode cX7_stepTo 0 = .ok (.aload_n 0, 1) := by decide +kernel
theorem dX7_stepTo_1 : decode cX7_stepTo 1 = .ok (.iload_n 2, 1) := by decide +kernel
theorem dX7_stepTo_2 : decode cX7_stepTo 2 = .ok (.ifCond .eq 18, 3) := by decide +kernel
theorem dX7_stepTo_5 : decode cX7_stepTo 5 = .ok (.aload_n 1, 1) := by decide +kernel
theorem dX7_stepTo_6 : decode cX7_stepTo 6 = .ok (.getfield 62, 3) := by decide +kernel
theorem dX7_stepTo_9 : decode cX7_stepTo 9 = .ok (.aload_n 0, 1) := by decide +kernel
theorem dX7_stepTo_10 : decode cX7_stepTo 10 = .ok (.getfield 27, 3) := by decide +kernel
theorem dX7_stepTo_13 : decode cX7_stepTo 13 = .ok (.bipush 63, 2) := by decide +kernel
theorem dX7_stepTo_15 : decode cX7_stepTo 15 = .ok (.iand, 1) := by decide +kernel
theorem dX7_stepTo_16 : decode cX7_stepTo 16 = .ok (.iaload, 1) := by decide +kernel
theorem dX7_stepTo_17 : decode cX7_stepTo 17 = .ok (.goto 9, 3) := by decide +kernel
theorem dX7_stepTo_20 : decode cX7_stepTo 20 = .ok (.aload_n 0, 1) := by decide +kernel
theorem dX7_stepTo_21 : decode cX7_stepTo 21 = .ok (.getfield 27, 3) := by decide +kernel
theorem dX7_stepTo_24 : decode cX7_stepTo 24 = .ok (.iconst 1, 1) := by decide +kernel
theorem dX7_stepTo_25 : decode cX7_stepTo 25 = .ok (.iadd, 1) := by decide +kernel
theorem dX7_stepTo_26 : decode cX7_stepTo 26 = .ok (.bipush 63, 2) := by decide +kernel
theorem dX7_stepTo_28 : decode cX7_stepTo 28 = .ok (.iand, 1) := by decide +kernel
theorem dX7_stepTo_29 : decode cX7_stepTo 29 = .ok (.putfield 27, 3) := by decide +kernel
theorem dX7_stepTo_32 : decode cX7_stepTo 32 = .ok (.aload_n 0, 1) := by decide +kernel
theorem dX7_stepTo_33 : decode cX7_stepTo 33 = .ok (.dup, 1) := by decide +kernel
theorem dX7_stepTo_34 : decode cX7_stepTo 34 = .ok (.getfield 31, 3) := by decide +kernel
theorem dX7_stepTo_37 : decode cX7_stepTo 37 = .ok (.iconst 1, 1) := by decide +kernel
theorem dX7_stepTo_38 : decode cX7_stepTo 38 = .ok (.iadd, 1) := by decide +kernel
theorem dX7_stepTo_39 : decode cX7_stepTo 39 = .ok (.putfield 31, 3) := by decide +kernel
theorem dX7_stepTo_42 : decode cX7_stepTo 42 = .ok (.return_, 1) := by decide +kernel
theorem dX7_stepLoading_0 : decode cX7_stepLoading 0 = .ok (.aload_n 0, 1) := by decide +kernel
theorem dX7_stepLoading_1 : decode cX7_stepLoading 1 = .ok (.aload_n 1, 1) := by decide +kernel
theorem dX7_stepLoading_2 : decode cX7_stepLoading 2 = .ok (.getfield 65, 3) := by decide +kernel
theorem dX7_stepLoading_5 : decode cX7_stepLoading 5 = .ok (.aload_n 0, 1) := by decide +kernel
theorem dX7_stepLoading_6 : decode cX7_stepLoading 6 = .ok (.getfield 27, 3) := by decide +kernel
theorem dX7_stepLoading_9 : decode cX7_stepLoading 9 = .ok (.bipush 63, 2) := by decide +kernel
theorem dX7_stepLoading_11 : decode cX7_stepLoading 11 = .ok (.iand, 1) := by decide +kernel
theorem dX7_stepLoading_12 : decode cX7_stepLoading 12 = .ok (.iaload, 1) := by decide +kernel
theorem dX7_stepLoading_13 : decode cX7_stepLoading 13 = .ok (.iload_n 2, 1) := by decide +kernel
theorem dX7_stepLoading_14 : decode cX7_stepLoading 14 = .ok (.invokevirtual 44, 3) := by decide +kernel
theorem dX7_stepLoading_17 : decode cX7_stepLoading 17 = .ok (.aload_n 0, 1) := by decide +kernel
theorem dX7_stepLoading_18 : decode cX7_stepLoading 18 = .ok (.invokevirtual 74, 3) := by decide +kernel
theorem dX7_stepLoading_21 : decode cX7_stepLoading 21 = .ok (.return_, 1) := by decide +kernel
theorem dX7_stepWithin_0 : decode cX7_stepWithin 0 = .ok (.aload_n 0, 1) := by decide +kernel
theorem dX7_stepWithin_1 : decode cX7_stepWithin 1 = .ok (.getfield 27, 3) := by decide +kernel
theorem dX7_stepWithin_4 : decode cX7_stepWithin 4 = .ok (.bipush 63, 2) := by decide +kernel
theorem dX7_stepWithin_6 : decode cX7_stepWithin 6 = .ok (.iand, 1) := by decide +kernel
theorem dX7_stepWithin_7 : decode cX7_stepWithin 7 = .ok (.istore_n 2, 1) := by decide +kernel
theorem dX7_stepWithin_8 : decode cX7_stepWithin 8 = .ok (.aload_n 1, 1) := by decide +kernel
theorem dX7_stepWithin_9 : decode cX7_stepWithin 9 = .ok (.getfield 65, 3) := by decide +kernel
theorem dX7_stepWithin_12 : decode cX7_stepWithin 12 = .ok (.iload_n 2, 1) := by decide +kernel
theorem dX7_stepWithin_13 : decode cX7_stepWithin 13 = .ok (.iaload, 1) := by decide +kernel
theorem dX7_stepWithin_14 : decode cX7_stepWithin 14 = .ok (.istore_n 3, 1) := by decide +kernel
theorem dX7_stepWithin_15 : decode cX7_stepWithin 15 = .ok (.aload_n 1, 1) := by decide +kernel
theorem dX7_stepWithin_16 : decode cX7_stepWithin 16 = .ok (.getfield 59, 3) := by decide +kernel
theorem dX7_stepWithin_19 : decode cX7_stepWithin 19 = .ok (.iload_n 2, 1) := by decide +kernel
theorem dX7_stepWithin_20 : decode cX7_stepWithin 20 = .ok (.iaload, 1) := by decide +kernel
theorem dX7_stepWithin_21 : decode cX7_stepWithin 21 = .ok (.istore 4, 2) := by decide +kernel
theorem dX7_stepWithin_23 : decode cX7_stepWithin 23 = .ok (.aload_n 1, 1) := by decide +kernel
theorem dX7_stepWithin_24 : decode cX7_stepWithin 24 = .ok (.getfield 62, 3) := by decide +kernel
theorem dX7_stepWithin_27 : decode cX7_stepWithin 27 = .ok (.iload_n 2, 1) := by decide +kernel
theorem dX7_stepWithin_28 : decode cX7_stepWithin 28 = .ok (.iaload, 1) := by decide +kernel
theorem dX7_stepWithin_29 : decode cX7_stepWithin 29 = .ok (.istore 5, 2) := by decide +kernel
theorem dX7_stepWithin_31 : decode cX7_stepWithin 31 = .ok (.aload_n 1, 1) := by decide +kernel
theorem dX7_stepWithin_32 : decode cX7_stepWithin 32 = .ok (.getfield 54, 3) := by decide +kernel
theorem dX7_stepWithin_35 : decode cX7_stepWithin 35 = .ok (.iload_n 2, 1) := by decide +kernel
theorem dX7_stepWithin_36 : decode cX7_stepWithin 36 = .ok (.iaload, 1) := by decide +kernel
theorem dX7_stepWithin_37 : decode cX7_stepWithin 37 = .ok (.tableswitch 318 1 13 #[67, 77, 106, 135, 164, 318, 318, 318, 193, 217, 237, 254, 286], 67) := by decide +kernel
theorem dX7_stepWithin_104 : decode cX7_stepWithin 104 = .ok (.aload_n 0, 1) := by decide +kernel
theorem dX7_stepWithin_105 : decode cX7_stepWithin 105 = .ok (.iload_n 3, 1) := by decide +kernel
theorem dX7_stepWithin_106 : decode cX7_stepWithin 106 = .ok (.iload 4, 2) := by decide +kernel
theorem dX7_stepWithin_108 : decode cX7_stepWithin 108 = .ok (.invokevirtual 44, 3) := by decide +kernel
theorem dX7_stepWithin_111 : decode cX7_stepWithin 111 = .ok (.goto 244, 3) := by decide +kernel
theorem dX7_stepWithin_114 : decode cX7_stepWithin 114 = .ok (.aload_n 0, 1) := by decide +kernel
theorem dX7_stepWithin_115 : decode cX7_stepWithin 115 = .ok (.iload_n 3, 1) := by decide +kernel
theorem dX7_stepWithin_116 : decode cX7_stepWithin 116 = .ok (.aload_n 0, 1) := by decide +kernel
theorem dX7_stepWithin_117 : decode cX7_stepWithin 117 = .ok (.getfield 9, 3) := by decide +kernel
theorem dX7_stepWithin_120 : decode cX7_stepWithin 120 = .ok (.iload 4, 2) := by decide +kernel
theorem dX7_stepWithin_122 : decode cX7_stepWithin 122 = .ok (.bipush 7, 2) := by decide +kernel
theorem dX7_stepWithin_124 : decode cX7_stepWithin 124 = .ok (.iand, 1) := by decide +kernel
theorem dX7_stepWithin_125 : decode cX7_stepWithin 125 = .ok (.iaload, 1) := by decide +kernel
theorem dX7_stepWithin_126 : decode cX7_stepWithin 126 = .ok (.aload_n 0, 1) := by decide +kernel
theorem dX7_stepWithin_127 : decode cX7_stepWithin 127 = .ok (.getfield 9, 3) := by decide +kernel
theorem dX7_stepWithin_130 : decode cX7_stepWithin 130 = .ok (.iload 5, 2) := by decide +kernel
theorem dX7_stepWithin_132 : decode cX7_stepWithin 132 = .ok (.bipush 7, 2) := by decide +kernel
theorem dX7_stepWithin_134 : decode cX7_stepWithin 134 = .ok (.iand, 1) := by decide +kernel
theorem dX7_stepWithin_135 : decode cX7_stepWithin 135 = .ok (.iaload, 1) := by decide +kernel
theorem dX7_stepWithin_136 : decode cX7_stepWithin 136 = .ok (.iadd, 1) := by decide +kernel
theorem dX7_stepWithin_137 : decode cX7_stepWithin 137 = .ok (.invokevirtual 44, 3) := by decide +kernel
theorem dX7_stepWithin_140 : decode cX7_stepWithin 140 = .ok (.goto 215, 3) := by decide +kernel
theorem dX7_stepWithin_143 : decode cX7_stepWithin 143 = .ok (.aload_n 0, 1) := by decide +kernel
theorem dX7_stepWithin_144 : decode cX7_stepWithin 144 = .ok (.iload_n 3, 1) := by decide +kernel
theorem dX7_stepWithin_145 : decode cX7_stepWithin 145 = .ok (.aload_n 0, 1) := by decide +kernel
theorem dX7_stepWithin_146 : decode cX7_stepWithin 146 = .ok (.getfield 9, 3) := by decide +kernel
theorem dX7_stepWithin_149 : decode cX7_stepWithin 149 = .ok (.iload 4, 2) := by decide +kernel
theorem dX7_stepWithin_151 : decode cX7_stepWithin 151 = .ok (.bipush 7, 2) := by decide +kernel
theorem dX7_stepWithin_153 : decode cX7_stepWithin 153 = .ok (.iand, 1) := by decide +kernel
theorem dX7_stepWithin_154 : decode cX7_stepWithin 154 = .ok (.iaload, 1) := by decide +kernel
theorem dX7_stepWithin_155 : decode cX7_stepWithin 155 = .ok (.aload_n 0, 1) := by decide +kernel
theorem dX7_stepWithin_156 : decode cX7_stepWithin 156 = .ok (.getfield 9, 3) := by decide +kernel
theorem dX7_stepWithin_159 : decode cX7_stepWithin 159 = .ok (.iload 5, 2) := by decide +kernel
theorem dX7_stepWithin_161 : decode cX7_stepWithin 161 = .ok (.bipush 7, 2) := by decide +kernel
theorem dX7_stepWithin_163 : decode cX7_stepWithin 163 = .ok (.iand, 1) := by decide +kernel
theorem dX7_stepWithin_164 : decode cX7_stepWithin 164 = .ok (.iaload, 1) := by decide +kernel
theorem dX7_stepWithin_165 : decode cX7_stepWithin 165 = .ok (.isub, 1) := by decide +kernel
theorem dX7_stepWithin_166 : decode cX7_stepWithin 166 = .ok (.invokevirtual 44, 3) := by decide +kernel
theorem dX7_stepWithin_169 : decode cX7_stepWithin 169 = .ok (.goto 186, 3) := by decide +kernel
theorem dX7_stepWithin_172 : decode cX7_stepWithin 172 = .ok (.aload_n 0, 1) := by decide +kernel
theorem dX7_stepWithin_173 : decode cX7_stepWithin 173 = .ok (.iload_n 3, 1) := by decide +kernel
theorem dX7_stepWithin_174 : decode cX7_stepWithin 174 = .ok (.aload_n 0, 1) := by decide +kernel
theorem dX7_stepWithin_175 : decode cX7_stepWithin 175 = .ok (.getfield 9, 3) := by decide +kernel
theorem dX7_stepWithin_178 : decode cX7_stepWithin 178 = .ok (.iload 4, 2) := by decide +kernel
theorem dX7_stepWithin_180 : decode cX7_stepWithin 180 = .ok (.bipush 7, 2) := by decide +kernel
theorem dX7_stepWithin_182 : decode cX7_stepWithin 182 = .ok (.iand, 1) := by decide +kernel
theorem dX7_stepWithin_183 : decode cX7_stepWithin 183 = .ok (.iaload, 1) := by decide +kernel
theorem dX7_stepWithin_184 : decode cX7_stepWithin 184 = .ok (.aload_n 0, 1) := by decide +kernel
theorem dX7_stepWithin_185 : decode cX7_stepWithin 185 = .ok (.getfield 9, 3) := by decide +kernel
theorem dX7_stepWithin_188 : decode cX7_stepWithin 188 = .ok (.iload 5, 2) := by decide +kernel
theorem dX7_stepWithin_190 : decode cX7_stepWithin 190 = .ok (.bipush 7, 2) := by decide +kernel
theorem dX7_stepWithin_192 : decode cX7_stepWithin 192 = .ok (.iand, 1) := by decide +kernel
theorem dX7_stepWithin_193 : decode cX7_stepWithin 193 = .ok (.iaload, 1) := by decide +kernel
theorem dX7_stepWithin_194 : decode cX7_stepWithin 194 = .ok (.imul, 1) := by decide +kernel
theorem dX7_stepWithin_195 : decode cX7_stepWithin 195 = .ok (.invokevirtual 44, 3) := by decide +kernel
theorem dX7_stepWithin_198 : decode cX7_stepWithin 198 = .ok (.goto 157, 3) := by decide +kernel
theorem dX7_stepWithin_201 : decode cX7_stepWithin 201 = .ok (.aload_n 0, 1) := by decide +kernel
theorem dX7_stepWithin_202 : decode cX7_stepWithin 202 = .ok (.iload_n 3, 1) := by decide +kernel
theorem dX7_stepWithin_203 : decode cX7_stepWithin 203 = .ok (.aload_n 0, 1) := by decide +kernel
theorem dX7_stepWithin_204 : decode cX7_stepWithin 204 = .ok (.getfield 9, 3) := by decide +kernel
theorem dX7_stepWithin_207 : decode cX7_stepWithin 207 = .ok (.iload 4, 2) := by decide +kernel
theorem dX7_stepWithin_209 : decode cX7_stepWithin 209 = .ok (.bipush 7, 2) := by decide +kernel
theorem dX7_stepWithin_211 : decode cX7_stepWithin 211 = .ok (.iand, 1) := by decide +kernel
theorem dX7_stepWithin_212 : decode cX7_stepWithin 212 = .ok (.iaload, 1) := by decide +kernel
theorem dX7_stepWithin_213 : decode cX7_stepWithin 213 = .ok (.aload_n 0, 1) := by decide +kernel
theorem dX7_stepWithin_214 : decode cX7_stepWithin 214 = .ok (.getfield 9, 3) := by decide +kernel
theorem dX7_stepWithin_217 : decode cX7_stepWithin 217 = .ok (.iload 5, 2) := by decide +kernel
theorem dX7_stepWithin_219 : decode cX7_stepWithin 219 = .ok (.bipush 7, 2) := by decide +kernel
theorem dX7_stepWithin_221 : decode cX7_stepWithin 221 = .ok (.iand, 1) := by decide +kernel
theorem dX7_stepWithin_222 : decode cX7_stepWithin 222 = .ok (.iaload, 1) := by decide +kernel
theorem dX7_stepWithin_223 : decode cX7_stepWithin 223 = .ok (.ixor, 1) := by decide +kernel
theorem dX7_stepWithin_224 : decode cX7_stepWithin 224 = .ok (.invokevirtual 44, 3) := by decide +kernel
theorem dX7_stepWithin_227 : decode cX7_stepWithin 227 = .ok (.goto 128, 3) := by decide +kernel
theorem dX7_stepWithin_230 : decode cX7_stepWithin 230 = .ok (.aload_n 0, 1) := by decide +kernel
theorem dX7_stepWithin_231 : decode cX7_stepWithin 231 = .ok (.getfield 15, 3) := by decide +kernel
theorem dX7_stepWithin_234 : decode cX7_stepWithin 234 = .ok (.iload_n 3, 1) := by decide +kernel
theorem dX7_stepWithin_235 : decode cX7_stepWithin 235 = .ok (.iconst 3, 1) := by decide +kernel
theorem dX7_stepWithin_236 : decode cX7_stepWithin 236 = .ok (.iand, 1) := by decide +kernel
theorem dX7_stepWithin_237 : decode cX7_stepWithin 237 = .ok (.aload_n 0, 1) := by decide +kernel
theorem dX7_stepWithin_238 : decode cX7_stepWithin 238 = .ok (.getfield 9, 3) := by decide +kernel
theorem dX7_stepWithin_241 : decode cX7_stepWithin 241 = .ok (.iload 4, 2) := by decide +kernel
theorem dX7_stepWithin_243 : decode cX7_stepWithin 243 = .ok (.bipush 7, 2) := by decide +kernel
theorem dX7_stepWithin_245 : decode cX7_stepWithin 245 = .ok (.iand, 1) := by decide +kernel
theorem dX7_stepWithin_246 : decode cX7_stepWithin 246 = .ok (.iaload, 1) := by decide +kernel
theorem dX7_stepWithin_247 : decode cX7_stepWithin 247 = .ok (.invokestatic 77, 3) := by decide +kernel
theorem dX7_stepWithin_250 : decode cX7_stepWithin 250 = .ok (.iastore, 1) := by decide +kernel
theorem dX7_stepWithin_251 : decode cX7_stepWithin 251 = .ok (.goto 104, 3) := by decide +kernel
theorem dX7_stepWithin_254 : decode cX7_stepWithin 254 = .ok (.aload_n 0, 1) := by decide +kernel
theorem dX7_stepWithin_255 : decode cX7_stepWithin 255 = .ok (.iload_n 3, 1) := by decide +kernel
theorem dX7_stepWithin_256 : decode cX7_stepWithin 256 = .ok (.aload_n 0, 1) := by decide +kernel
theorem dX7_stepWithin_257 : decode cX7_stepWithin 257 = .ok (.getfield 15, 3) := by decide +kernel
theorem dX7_stepWithin_260 : decode cX7_stepWithin 260 = .ok (.iload 4, 2) := by decide +kernel
theorem dX7_stepWithin_262 : decode cX7_stepWithin 262 = .ok (.iconst 3, 1) := by decide +kernel
theorem dX7_stepWithin_263 : decode cX7_stepWithin 263 = .ok (.iand, 1) := by decide +kernel
theorem dX7_stepWithin_264 : decode cX7_stepWithin 264 = .ok (.iaload, 1) := by decide +kernel
theorem dX7_stepWithin_265 : decode cX7_stepWithin 265 = .ok (.invokestatic 80, 3) := by decide +kernel
theorem dX7_stepWithin_268 : decode cX7_stepWithin 268 = .ok (.invokevirtual 44, 3) := by decide +kernel
theorem dX7_stepWithin_271 : decode cX7_stepWithin 271 = .ok (.goto 84, 3) := by decide +kernel
theorem dX7_stepWithin_274 : decode cX7_stepWithin 274 = .ok (.aload_n 0, 1) := by decide +kernel
theorem dX7_stepWithin_275 : decode cX7_stepWithin 275 = .ok (.iload_n 3, 1) := by decide +kernel
theorem dX7_stepWithin_276 : decode cX7_stepWithin 276 = .ok (.aload_n 0, 1) := by decide +kernel
theorem dX7_stepWithin_277 : decode cX7_stepWithin 277 = .ok (.getfield 15, 3) := by decide +kernel
theorem dX7_stepWithin_280 : decode cX7_stepWithin 280 = .ok (.iload 4, 2) := by decide +kernel
theorem dX7_stepWithin_282 : decode cX7_stepWithin 282 = .ok (.iconst 3, 1) := by decide +kernel
theorem dX7_stepWithin_283 : decode cX7_stepWithin 283 = .ok (.iand, 1) := by decide +kernel
theorem dX7_stepWithin_284 : decode cX7_stepWithin 284 = .ok (.iaload, 1) := by decide +kernel
theorem dX7_stepWithin_285 : decode cX7_stepWithin 285 = .ok (.invokevirtual 44, 3) := by decide +kernel
theorem dX7_stepWithin_288 : decode cX7_stepWithin 288 = .ok (.goto 67, 3) := by decide +kernel
theorem dX7_stepWithin_291 : decode cX7_stepWithin 291 = .ok (.aload_n 0, 1) := by decide +kernel
theorem dX7_stepWithin_292 : decode cX7_stepWithin 292 = .ok (.getfield 15, 3) := by decide +kernel
theorem dX7_stepWithin_295 : decode cX7_stepWithin 295 = .ok (.iload_n 3, 1) := by decide +kernel
theorem dX7_stepWithin_296 : decode cX7_stepWithin 296 = .ok (.iconst 3, 1) := by decide +kernel
theorem dX7_stepWithin_297 : decode cX7_stepWithin 297 = .ok (.iand, 1) := by decide +kernel
theorem dX7_stepWithin_298 : decode cX7_stepWithin 298 = .ok (.aload_n 0, 1) := by decide +kernel
theorem dX7_stepWithin_299 : decode cX7_stepWithin 299 = .ok (.getfield 15, 3) := by decide +kernel
theorem dX7_stepWithin_302 : decode cX7_stepWithin 302 = .ok (.iload 4, 2) := by decide +kernel
theorem dX7_stepWithin_304 : decode cX7_stepWithin 304 = .ok (.iconst 3, 1) := by decide +kernel
theorem dX7_stepWithin_305 : decode cX7_stepWithin 305 = .ok (.iand, 1) := by decide +kernel
theorem dX7_stepWithin_306 : decode cX7_stepWithin 306 = .ok (.iaload, 1) := by decide +kernel
theorem dX7_stepWithin_307 : decode cX7_stepWithin 307 = .ok (.aload_n 0, 1) := by decide +kernel
theorem dX7_stepWithin_308 : decode cX7_stepWithin 308 = .ok (.getfield 15, 3) := by decide +kernel
theorem dX7_stepWithin_311 : decode cX7_stepWithin 311 = .ok (.iload 5, 2) := by decide +kernel
theorem dX7_stepWithin_313 : decode cX7_stepWithin 313 = .ok (.iconst 3, 1) := by decide +kernel
theorem dX7_stepWithin_314 : decode cX7_stepWithin 314 = .ok (.iand, 1) := by decide +kernel
theorem dX7_stepWithin_315 : decode cX7_stepWithin 315 = .ok (.iaload, 1) := by decide +kernel
theorem dX7_stepWithin_316 : decode cX7_stepWithin 316 = .ok (.invokestatic 83, 3) := by decide +kernel
theorem dX7_stepWithin_319 : decode cX7_stepWithin 319 = .ok (.iastore, 1) := by decide +kernel
theorem dX7_stepWithin_320 : decode cX7_stepWithin 320 = .ok (.goto 35, 3) := by decide +kernel
theorem dX7_stepWithin_323 : decode cX7_stepWithin 323 = .ok (.aload_n 0, 1) := by decide +kernel
theorem dX7_stepWithin_324 : decode cX7_stepWithin 324 = .ok (.getfield 15, 3) := by decide +kernel
theorem dX7_stepWithin_327 : decode cX7_stepWithin 327 = .ok (.iload_n 3, 1) := by decide +kernel
theorem dX7_stepWithin_328 : decode cX7_stepWithin 328 = .ok (.iconst 3, 1) := by decide +kernel
theorem dX7_stepWithin_329 : decode cX7_stepWithin 329 = .ok (.iand, 1) := by decide +kernel
theorem dX7_stepWithin_330 : decode cX7_stepWithin 330 = .ok (.aload_n 0, 1) := by decide +kernel
theorem dX7_stepWithin_331 : decode cX7_stepWithin 331 = .ok (.getfield 15, 3) := by decide +kernel
theorem dX7_stepWithin_334 : decode cX7_stepWithin 334 = .ok (.iload 4, 2) := by decide +kernel
theorem dX7_stepWithin_336 : decode cX7_stepWithin 336 = .ok (.iconst 3, 1) := by decide +kernel
theorem dX7_stepWithin_337 : decode cX7_stepWithin 337 = .ok (.iand, 1) := by decide +kernel
theorem dX7_stepWithin_338 : decode cX7_stepWithin 338 = .ok (.iaload, 1) := by decide +kernel
theorem dX7_stepWithin_339 : decode cX7_stepWithin 339 = .ok (.aload_n 0, 1) := by decide +kernel
theorem dX7_stepWithin_340 : decode cX7_stepWithin 340 = .ok (.getfield 15, 3) := by decide +kernel
theorem dX7_stepWithin_343 : decode cX7_stepWithin 343 = .ok (.iload 5, 2) := by decide +kernel
theorem dX7_stepWithin_345 : decode cX7_stepWithin 345 = .ok (.iconst 3, 1) := by decide +kernel
theorem dX7_stepWithin_346 : decode cX7_stepWithin 346 = .ok (.iand, 1) := by decide +kernel
theorem dX7_stepWithin_347 : decode cX7_stepWithin 347 = .ok (.iaload, 1) := by decide +kernel
theorem dX7_stepWithin_348 : decode cX7_stepWithin 348 = .ok (.invokestatic 87, 3) := by decide +kernel
theorem dX7_stepWithin_351 : decode cX7_stepWithin 351 = .ok (.iastore, 1) := by decide +kernel
theorem dX7_stepWithin_352 : decode cX7_stepWithin 352 = .ok (.goto 3, 3) := by decide +kernel
theorem dX7_stepWithin_355 : decode cX7_stepWithin 355 = .ok (.aload_n 0, 1) := by decide +kernel
theorem dX7_stepWithin_356 : decode cX7_stepWithin 356 = .ok (.aload_n 1, 1) := by decide +kernel
theorem dX7_stepWithin_357 : decode cX7_stepWithin 357 = .ok (.aload_n 1, 1) := by decide +kernel
theorem dX7_stepWithin_358 : decode cX7_stepWithin 358 = .ok (.getfield 54, 3) := by decide +kernel
theorem dX7_stepWithin_361 : decode cX7_stepWithin 361 = .ok (.iload_n 2, 1) := by decide +kernel
theorem dX7_stepWithin_362 : decode cX7_stepWithin 362 = .ok (.iaload, 1) := by decide +kernel
theorem dX7_stepWithin_363 : decode cX7_stepWithin 363 = .ok (.bipush 14, 2) := by decide +kernel
theorem dX7_stepWithin_365 : decode cX7_stepWithin 365 = .ok (.if_icmp .ne 7, 3) := by decide +kernel
theorem dX7_stepWithin_368 : decode cX7_stepWithin 368 = .ok (.iconst 1, 1) := by decide +kernel
theorem dX7_stepWithin_369 : decode cX7_stepWithin 369 = .ok (.goto 4, 3) := by decide +kernel
theorem dX7_stepWithin_372 : decode cX7_stepWithin 372 = .ok (.iconst 0, 1) := by decide +kernel
theorem dX7_stepWithin_373 : decode cX7_stepWithin 373 = .ok (.invokevirtual 90, 3) := by decide +kernel
theorem dX7_stepWithin_376 : decode cX7_stepWithin 376 = .ok (.return_, 1) := by decide +kernel
theorem dX8_init_0 : decode cX8_init 0 = .ok (.aload_n 0, 1) := by decide +kernel
theorem dX8_init_1 : decode cX8_init 1 = .ok (.invokespecial 3, 3) := by decide +kernel
theorem dX8_init_4 : decode cX8_init 4 = .ok (.aload_n 0, 1) := by decide +kernel
theorem dX8_init_5 : decode cX8_init 5 = .ok (.bipush 8, 2) := by decide +kernel
theorem dX8_init_7 : decode cX8_init 7 = .ok (.newarray .int, 2) := by decide +kernel
theorem dX8_init_9 : decode cX8_init 9 = .ok (.putfield 9, 3) := by decide +kernel
theorem dX8_init_12 : decode cX8_init 12 = .ok (.aload_n 0, 1) := by decide +kernel
theorem dX8_init_13 : decode cX8_init 13 = .ok (.bipush 8, 2) := by decide +kernel
theorem dX8_init_15 : decode cX8_init 15 = .ok (.newarray .int, 2) := by decide +kernel
theorem dX8_init_17 : decode cX8_init 17 = .ok (.putfield 15, 3) := by decide +kernel
theorem dX8_init_20 : decode cX8_init 20 = .ok (.aload_n 0, 1) := by decide +kernel
theorem dX8_init_21 : decode cX8_init 21 = .ok (.bipush 8, 2) := by decide +kernel
theorem dX8_init_23 : decode cX8_init 23 = .ok (.newarray .int, 2) := by decide +kernel
theorem dX8_init_25 : decode cX8_init 25 = .ok (.putfield 18, 3) := by decide +kernel
theorem dX8_init_28 : decode cX8_init 28 = .ok (.aload_n 0, 1) := by decide +kernel
theorem dX8_init_29 : decode cX8_init 29 = .ok (.bipush 8, 2) := by decide +kernel
theorem dX8_init_31 : decode cX8_init 31 = .ok (.newarray .int, 2) := by decide +kernel
theorem dX8_init_33 : decode cX8_init 33 = .ok (.putfield 21, 3) := by decide +kernel
theorem dX8_init_36 : decode cX8_init 36 = .ok (.return_, 1) := by decide +kernel
theorem dX8_clear_0 : decode cX8_clear 0 = .ok (.aload_n 0, 1) := by decide +kernel
theorem dX8_clear_1 : decode cX8_clear 1 = .ok (.iconst 0, 1) := by decide +kernel
theorem dX8_clear_2 : decode cX8_clear 2 = .ok (.putfield 24, 3) := by decide +kernel
theorem dX8_clear_5 : decode cX8_clear 5 = .ok (.aload_n 0, 1) := by decide +kernel
theorem dX8_clear_6 : decode cX8_clear 6 = .ok (.iconst 0, 1) := by decide +kernel
theorem dX8_clear_7 : decode cX8_clear 7 = .ok (.putfield 28, 3) := by decide +kernel
theorem dX8_clear_10 : decode cX8_clear 10 = .ok (.aload_n 0, 1) := by decide +kernel
theorem dX8_clear_11 : decode cX8_clear 11 = .ok (.iconst 0, 1) := by decide +kernel
theorem dX8_clear_12 : decode cX8_clear 12 = .ok (.putfield 31, 3) := by decide +kernel
theorem dX8_clear_15 : decode cX8_clear 15 = .ok (.aload_n 0, 1) := by decide +kernel
theorem dX8_clear_16 : decode cX8_clear 16 = .ok (.iconst 0, 1) := by decide +kernel
theorem dX8_clear_17 : decode cX8_clear 17 = .ok (.putfield 34, 3) := by decide +kernel
theorem dX8_clear_20 : decode cX8_clear 20 = .ok (.aload_n 0, 1) := by decide +kernel
theorem dX8_clear_21 : decode cX8_clear 21 = .ok (.iconst 0, 1) := by decide +kernel
theorem dX8_clear_22 : decode cX8_clear 22 = .ok (.putfield 37, 3) := by decide +kernel
theorem dX8_clear_25 : decode cX8_clear 25 = .ok (.aload_n 0, 1) := by decide +kernel
theorem dX8_clear_26 : decode cX8_clear 26 = .ok (.iconst 0, 1) := by decide +kernel
theorem dX8_clear_27 : decode cX8_clear 27 = .ok (.putfield 40, 3) := by decide +kernel
theorem dX8_clear_30 : decode cX8_clear 30 = .ok (.aload_n 0, 1) := by decide +kernel
theorem dX8_clear_31 : decode cX8_clear 31 = .ok (.iconst 0, 1) := by decide +kernel
theorem dX8_clear_32 : decode cX8_clear 32 = .ok (.putfield 43, 3) := by decide +kernel
theorem dX8_clear_35 : decode cX8_clear 35 = .ok (.aload_n 0, 1) := by decide +kernel
theorem dX8_clear_36 : decode cX8_clear 36 = .ok (.iconst 0, 1) := by decide +kernel
theorem dX8_clear_37 : decode cX8_clear 37 = .ok (.putfield 46, 3) := by decide +kernel
theorem dX8_clear_40 : decode cX8_clear 40 = .ok (.aload_n 0, 1) := by decide +kernel
theorem dX8_clear_41 : decode cX8_clear 41 = .ok (.iconst 0, 1) := by decide +kernel
theorem dX8_clear_42 : decode cX8_clear 42 = .ok (.putfield 49, 3) := by decide +kernel
theorem dX8_clear_45 : decode cX8_clear 45 = .ok (.return_, 1) := by decide +kernel
theorem dX8_copyFrom_0 : decode cX8_copyFrom 0 = .ok (.aload_n 1, 1) := by decide +kernel
theorem dX8_copyFrom_1 : decode cX8_copyFrom 1 = .ok (.getfield 9, 3) := by decide +kernel
theorem dX8_copyFrom_4 : decode cX8_copyFrom 4 = .ok (.iconst 0, 1) := by decide +kernel
theorem dX8_copyFrom_5 : decode cX8_copyFrom 5 = .ok (.aload_n 0, 1) := by decide +kernel
theorem dX8_copyFrom_6 : decode cX8_copyFrom 6 = .ok (.getfield 9, 3) := by decide +kernel
theorem dX8_copyFrom_9 : decode cX8_copyFrom 9 = .ok (.iconst 0, 1) := by decide +kernel
theorem dX8_copyFrom_10 : decode cX8_copyFrom 10 = .ok (.bipush 8, 2) := by decide +kernel
theorem dX8_copyFrom_12 : decode cX8_copyFrom 12 = .ok (.invokestatic 52, 3) := by decide +kernel
theorem dX8_copyFrom_15 : decode cX8_copyFrom 15 = .ok (.aload_n 1, 1) := by decide +kernel
theorem dX8_copyFrom_16 : decode cX8_copyFrom 16 = .ok (.getfield 15, 3) := by decide +kernel
theorem dX8_copyFrom_19 : decode cX8_copyFrom 19 = .ok (.iconst 0, 1) := by decide +kernel
theorem dX8_copyFrom_20 : decode cX8_copyFrom 20 = .ok (.aload_n 0, 1) := by decide +kernel
theorem dX8_copyFrom_21 : decode cX8_copyFrom 21 = .ok (.getfield 15, 3) := by decide +kernel
theorem dX8_copyFrom_24 : decode cX8_copyFrom 24 = .ok (.iconst 0, 1) := by decide +kernel
theorem dX8_copyFrom_25 : decode cX8_copyFrom 25 = .ok (.bipush 8, 2) := by decide +kernel
theorem dX8_copyFrom_27 : decode cX8_copyFrom 27 = .ok (.invokestatic 52, 3) := by decide +kernel
theorem dX8_copyFrom_30 : decode cX8_copyFrom 30 = .ok (.aload_n 1, 1) := by decide +kernel
theorem dX8_copyFrom_31 : decode cX8_copyFrom 31 = .ok (.getfield 18, 3) := by decide +kernel
theorem dX8_copyFrom_34 : decode cX8_copyFrom 34 = .ok (.iconst 0, 1) := by decide +kernel
theorem dX8_copyFrom_35 : decode cX8_copyFrom 35 = .ok (.aload_n 0, 1) := by decide +kernel
theorem dX8_copyFrom_36 : decode cX8_copyFrom 36 = .ok (.getfield 18, 3) := by decide +kernel
theorem dX8_copyFrom_39 : decode cX8_copyFrom 39 = .ok (.iconst 0, 1) := by decide +kernel
theorem dX8_copyFrom_40 : decode cX8_copyFrom 40 = .ok (.bipush 8, 2) := by decide +kernel
theorem dX8_copyFrom_42 : decode cX8_copyFrom 42 = .ok (.invokestatic 52, 3) := by decide +kernel
theorem dX8_copyFrom_45 : decode cX8_copyFrom 45 = .ok (.aload_n 1, 1) := by decide +kernel
theorem dX8_copyFrom_46 : decode cX8_copyFrom 46 = .ok (.getfield 21, 3) := by decide +kernel
theorem dX8_copyFrom_49 : decode cX8_copyFrom 49 = .ok (.iconst 0, 1) := by decide +kernel
theorem dX8_copyFrom_50 : decode cX8_copyFrom 50 = .ok (.aload_n 0, 1) := by decide +kernel
theorem dX8_copyFrom_51 : decode cX8_copyFrom 51 = .ok (.getfield 21, 3) := by decide +kernel
theorem dX8_copyFrom_54 : decode cX8_copyFrom 54 = .ok (.iconst 0, 1) := by decide +kernel
theorem dX8_copyFrom_55 : decode cX8_copyFrom 55 = .ok (.bipush 8, 2) := by decide +kernel
theorem dX8_copyFrom_57 : decode cX8_copyFrom 57 = .ok (.invokestatic 52, 3) := by decide +kernel
theorem dX8_copyFrom_60 : decode cX8_copyFrom 60 = .ok (.aload_n 0, 1) := by decide +kernel
theorem dX8_copyFrom_61 : decode cX8_copyFrom 61 = .ok (.aload_n 1, 1) := by decide +kernel
theorem dX8_copyFrom_62 : decode cX8_copyFrom 62 = .ok (.getfield 24, 3) := by decide +kernel
theorem dX8_copyFrom_65 : decode cX8_copyFrom 65 = .ok (.putfield 24, 3) := by decide +kernel
theorem dX8_copyFrom_68 : decode cX8_copyFrom 68 = .ok (.aload_n 0, 1) := by decide +kernel
theorem dX8_copyFrom_69 : decode cX8_copyFrom 69 = .ok (.aload_n 1, 1) := by decide +kernel
theorem dX8_copyFrom_70 : decode cX8_copyFrom 70 = .ok (.getfield 28, 3) := by decide +kernel
theorem dX8_copyFrom_73 : decode cX8_copyFrom 73 = .ok (.putfield 28, 3) := by decide +kernel
theorem dX8_copyFrom_76 : decode cX8_copyFrom 76 = .ok (.aload_n 0, 1) := by decide +kernel
theorem dX8_copyFrom_77 : decode cX8_copyFrom 77 = .ok (.aload_n 1, 1) := by decide +kernel
theorem dX8_copyFrom_78 : decode cX8_copyFrom 78 = .ok (.getfield 31, 3) := by decide +kernel
theorem dX8_copyFrom_81 : decode cX8_copyFrom 81 = .ok (.putfield 31, 3) := by decide +kernel
theorem dX8_copyFrom_84 : decode cX8_copyFrom 84 = .ok (.aload_n 0, 1) := by decide +kernel
theorem dX8_copyFrom_85 : decode cX8_copyFrom 85 = .ok (.aload_n 1, 1) := by decide +kernel
theorem dX8_copyFrom_86 : decode cX8_copyFrom 86 = .ok (.getfield 34, 3) := by decide +kernel
theorem dX8_copyFrom_89 : decode cX8_copyFrom 89 = .ok (.putfield 34, 3) := by decide +kernel
theorem dX8_copyFrom_92 : decode cX8_copyFrom 92 = .ok (.aload_n 0, 1) := by decide +kernel
theorem dX8_copyFrom_93 : decode cX8_copyFrom 93 = .ok (.aload_n 1, 1) := by decide +kernel
theorem dX8_copyFrom_94 : decode cX8_copyFrom 94 = .ok (.getfield 37, 3) := by decide +kernel
theorem dX8_copyFrom_97 : decode cX8_copyFrom 97 = .ok (.putfield 37, 3) := by decide +kernel
theorem dX8_copyFrom_100 : decode cX8_copyFrom 100 = .ok (.aload_n 0, 1) := by decide +kernel
theorem dX8_copyFrom_101 : decode cX8_copyFrom 101 = .ok (.aload_n 1, 1) := by decide +kernel
theorem dX8_copyFrom_102 : decode cX8_copyFrom 102 = .ok (.getfield 40, 3) := by decide +kernel
theorem dX8_copyFrom_105 : decode cX8_copyFrom 105 = .ok (.putfield 40, 3) := by decide +kernel
theorem dX8_copyFrom_108 : decode cX8_copyFrom 108 = .ok (.aload_n 0, 1) := by decide +kernel
theorem dX8_copyFrom_109 : decode cX8_copyFrom 109 = .ok (.aload_n 1, 1) := by decide +kernel
theorem dX8_copyFrom_110 : decode cX8_copyFrom 110 = .ok (.getfield 43, 3) := by decide +kernel
theorem dX8_copyFrom_113 : decode cX8_copyFrom 113 = .ok (.putfield 43, 3) := by decide +kernel
theorem dX8_copyFrom_116 : decode cX8_copyFrom 116 = .ok (.aload_n 0, 1) := by decide +kernel
theorem dX8_copyFrom_117 : decode cX8_copyFrom 117 = .ok (.aload_n 1, 1) := by decide +kernel
theorem dX8_copyFrom_118 : decode cX8_copyFrom 118 = .ok (.getfield 46, 3) := by decide +kernel
theorem dX8_copyFrom_121 : decode cX8_copyFrom 121 = .ok (.putfield 46, 3) := by decide +kernel
theorem dX8_copyFrom_124 : decode cX8_copyFrom 124 = .ok (.aload_n 0, 1) := by decide +kernel
theorem dX8_copyFrom_125 : decode cX8_copyFrom 125 = .ok (.aload_n 1, 1) := by decide +kernel
theorem dX8_copyFrom_126 : decode cX8_copyFrom 126 = .ok (.getfield 49, 3) := by decide +kernel
theorem dX8_copyFrom_129 : decode cX8_copyFrom 129 = .ok (.putfield 49, 3) := by decide +kernel
theorem dX8_copyFrom_132 : decode cX8_copyFrom 132 = .ok (.return_, 1) := by decide +kernel
theorem dX8_addAlarm_0 : decode cX8_addAlarm 0 = .ok (.aload_n 0, 1) := by decide +kernel
theorem dX8_addAlarm_1 : decode cX8_addAlarm 1 = .ok (.getfield 31, 3) := by decide +kernel
theorem dX8_addAlarm_4 : decode cX8_addAlarm 4 = .ok (.bipush 7, 2) := by decide +kernel
theorem dX8_addAlarm_6 : decode cX8_addAlarm 6 = .ok (.iand, 1) := by decide +kernel
theorem dX8_addAlarm_7 : decode cX8_addAlarm 7 = .ok (.istore 4, 2) := by decide +kernel
theorem dX8_addAlarm_9 : decode cX8_addAlarm 9 = .ok (.aload_n 0, 1) := by decide +kernel
theorem dX8_addAlarm_10 : decode cX8_addAlarm 10 = .ok (.getfield 9, 3) := by decide +kernel
theorem dX8_addAlarm_13 : decode cX8_addAlarm 13 = .ok (.iload 4, 2) := by decide +kernel
theorem dX8_addAlarm_15 : decode cX8_addAlarm 15 = .ok (.iload_n 1, 1) := by decide +kernel
theorem dX8_addAlarm_16 : decode cX8_addAlarm 16 = .ok (.iastore, 1) := by decide +kernel
theorem dX8_addAlarm_17 : decode cX8_addAlarm 17 = .ok (.aload_n 0, 1) := by decide +kernel
theorem dX8_addAlarm_18 : decode cX8_addAlarm 18 = .ok (.getfield 15, 3) := by decide +kernel
theorem dX8_addAlarm_21 : decode cX8_addAlarm 21 = .ok (.iload 4, 2) := by decide +kernel
theorem dX8_addAlarm_23 : decode cX8_addAlarm 23 = .ok (.aload_n 0, 1) := by decide +kernel
theorem dX8_addAlarm_24 : decode cX8_addAlarm 24 = .ok (.getfield 24, 3) := by decide +kernel
theorem dX8_addAlarm_27 : decode cX8_addAlarm 27 = .ok (.iastore, 1) := by decide +kernel
theorem dX8_addAlarm_28 : decode cX8_addAlarm 28 = .ok (.aload_n 0, 1) := by decide +kernel
theorem dX8_addAlarm_29 : decode cX8_addAlarm 29 = .ok (.getfield 18, 3) := by decide +kernel
theorem dX8_addAlarm_32 : decode cX8_addAlarm 32 = .ok (.iload 4, 2) := by decide +kernel
theorem dX8_addAlarm_34 : decode cX8_addAlarm 34 = .ok (.iload_n 2, 1) := by decide +kernel
theorem dX8_addAlarm_35 : decode cX8_addAlarm 35 = .ok (.iastore, 1) := by decide +kernel
theorem dX8_addAlarm_36 : decode cX8_addAlarm 36 = .ok (.aload_n 0, 1) := by decide +kernel
theorem dX8_addAlarm_37 : decode cX8_addAlarm 37 = .ok (.getfield 21, 3) := by decide +kernel
theorem dX8_addAlarm_40 : decode cX8_addAlarm 40 = .ok (.iload 4, 2) := by decide +kernel
theorem dX8_addAlarm_42 : decode cX8_addAlarm 42 = .ok (.iload_n 3, 1) := by decide +kernel
theorem dX8_addAlarm_43 : decode cX8_addAlarm 43 = .ok (.iastore, 1) := by decide +kernel
theorem dX8_addAlarm_44 : decode cX8_addAlarm 44 = .ok (.aload_n 0, 1) := by decide +kernel
theorem dX8_addAlarm_45 : decode cX8_addAlarm 45 = .ok (.dup, 1) := by decide +kernel
theorem dX8_addAlarm_46 : decode cX8_addAlarm 46 = .ok (.getfield 31, 3) := by decide +kernel
theorem dX8_addAlarm_49 : decode cX8_addAlarm 49 = .ok (.iconst 1, 1) := by decide +kernel
theorem dX8_addAlarm_50 : decode cX8_addAlarm 50 = .ok (.iadd, 1) := by decide +kernel
theorem dX8_addAlarm_51 : decode cX8_addAlarm 51 = .ok (.putfield 31, 3) := by decide +kernel
theorem dX8_addAlarm_54 : decode cX8_addAlarm 54 = .ok (.aload_n 0, 1) := by decide +kernel
theorem dX8_addAlarm_55 : decode cX8_addAlarm 55 = .ok (.dup, 1) := by decide +kernel
theorem dX8_addAlarm_56 : decode cX8_addAlarm 56 = .ok (.getfield 34, 3) := by decide +kernel
theorem dX8_addAlarm_59 : decode cX8_addAlarm 59 = .ok (.iconst 1, 1) := by decide +kernel
theorem dX8_addAlarm_60 : decode cX8_addAlarm 60 = .ok (.iadd, 1) := by decide +kernel
theorem dX8_addAlarm_61 : decode cX8_addAlarm 61 = .ok (.putfield 34, 3) := by decide +kernel
theorem dX8_addAlarm_64 : decode cX8_addAlarm 64 = .ok (.return_, 1) := by decide +kernel
theorem dX8_alarmPart_0 : decode cX8_alarmPart 0 = .ok (.iload_n 1, 1) := by decide +kernel
theorem dX8_alarmPart_1 : decode cX8_alarmPart 1 = .ok (.ifCond .lt 17, 3) := by decide +kernel
theorem dX8_alarmPart_4 : decode cX8_alarmPart 4 = .ok (.iload_n 1, 1) := by decide +kernel
theorem dX8_alarmPart_5 : decode cX8_alarmPart 5 = .ok (.aload_n 0, 1) := by decide +kernel
theorem dX8_alarmPart_6 : decode cX8_alarmPart 6 = .ok (.getfield 31, 3) := by decide +kernel
theorem dX8_alarmPart_9 : decode cX8_alarmPart 9 = .ok (.if_icmp .ge 9, 3) := by decide +kernel
theorem dX8_alarmPart_12 : decode cX8_alarmPart 12 = .ok (.iload_n 1, 1) := by decide +kernel
theorem dX8_alarmPart_13 : decode cX8_alarmPart 13 = .ok (.bipush 7, 2) := by decide +kernel
theorem dX8_alarmPart_15 : decode cX8_alarmPart 15 = .ok (.if_icmp .le 5, 3) := by decide +kernel
theorem dX8_alarmPart_18 : decode cX8_alarmPart 18 = .ok (.iconst (-1), 1) := by decide +kernel
theorem dX8_alarmPart_19 : decode cX8_alarmPart 19 = .ok (.ireturn, 1) := by decide +kernel
theorem dX8_alarmPart_20 : decode cX8_alarmPart 20 = .ok (.aload_n 0, 1) := by decide +kernel
theorem dX8_alarmPart_21 : decode cX8_alarmPart 21 = .ok (.getfield 31, 3) := by decide +kernel
theorem dX8_alarmPart_24 : decode cX8_alarmPart 24 = .ok (.iconst 1, 1) := by decide +kernel
theorem dX8_alarmPart_25 : decode cX8_alarmPart 25 = .ok (.isub, 1) := by decide +kernel
theorem dX8_alarmPart_26 : decode cX8_alarmPart 26 = .ok (.iload_n 1, 1) := by decide +kernel
theorem dX8_alarmPart_27 : decode cX8_alarmPart 27 = .ok (.isub, 1) := by decide +kernel
theorem dX8_alarmPart_28 : decode cX8_alarmPart 28 = .ok (.bipush 7, 2) := by decide +kernel
theorem dX8_alarmPart_30 : decode cX8_alarmPart 30 = .ok (.iand, 1) := by decide +kernel
theorem dX8_alarmPart_31 : decode cX8_alarmPart 31 = .ok (.istore_n 3, 1) := by decide +kernel
theorem dX8_alarmPart_32 : decode cX8_alarmPart 32 = .ok (.iload_n 2, 1) := by decide +kernel
theorem dX8_alarmPart_33 : decode cX8_alarmPart 33 = .ok (.tableswitch 59 0 3 #[31, 38, 45, 52], 31) := by decide +kernel
theorem dX8_alarmPart_64 : decode cX8_alarmPart 64 = .ok (.aload_n 0, 1) := by decide +kernel
theorem dX8_alarmPart_65 : decode cX8_alarmPart 65 = .ok (.getfield 9, 3) := by decide +kernel
theorem dX8_alarmPart_68 : decode cX8_alarmPart 68 = .ok (.iload_n 3, 1) := by decide +kernel
theorem dX8_alarmPart_69 : decode cX8_alarmPart 69 = .ok (.iaload, 1) := by decide +kernel
theorem dX8_alarmPart_70 : decode cX8_alarmPart 70 = .ok (.ireturn, 1) := by decide +kernel
theorem dX8_alarmPart_71 : decode cX8_alarmPart 71 = .ok (.aload_n 0, 1) := by decide +kernel
theorem dX8_alarmPart_72 : decode cX8_alarmPart 72 = .ok (.getfield 15, 3) := by decide +kernel
theorem dX8_alarmPart_75 : decode cX8_alarmPart 75 = .ok (.iload_n 3, 1) := by decide +kernel
theorem dX8_alarmPart_76 : decode cX8_alarmPart 76 = .ok (.iaload, 1) := by decide +kernel
theorem dX8_alarmPart_77 : decode cX8_alarmPart 77 = .ok (.ireturn, 1) := by decide +kernel
theorem dX8_alarmPart_78 : decode cX8_alarmPart 78 = .ok (.aload_n 0, 1) := by decide +kernel
theorem dX8_alarmPart_79 : decode cX8_alarmPart 79 = .ok (.getfield 18, 3) := by decide +kernel
theorem dX8_alarmPart_82 : decode cX8_alarmPart 82 = .ok (.iload_n 3, 1) := by decide +kernel
theorem dX8_alarmPart_83 : decode cX8_alarmPart 83 = .ok (.iaload, 1) := by decide +kernel
theorem dX8_alarmPart_84 : decode cX8_alarmPart 84 = .ok (.ireturn, 1) := by decide +kernel
theorem dX8_alarmPart_85 : decode cX8_alarmPart 85 = .ok (.aload_n 0, 1) := by decide +kernel
theorem dX8_alarmPart_86 : decode cX8_alarmPart 86 = .ok (.getfield 21, 3) := by decide +kernel
theorem dX8_alarmPart_89 : decode cX8_alarmPart 89 = .ok (.iload_n 3, 1) := by decide +kernel
theorem dX8_alarmPart_90 : decode cX8_alarmPart 90 = .ok (.iaload, 1) := by decide +kernel
theorem dX8_alarmPart_91 : decode cX8_alarmPart 91 = .ok (.ireturn, 1) := by decide +kernel
theorem dX8_alarmPart_92 : decode cX8_alarmPart 92 = .ok (.iconst (-1), 1) := by decide +kernel
theorem dX8_alarmPart_93 : decode cX8_alarmPart 93 = .ok (.ireturn, 1) := by decide +kernel
theorem dX8_part_0 : decode cX8_part 0 = .ok (.iload_n 1, 1) := by decide +kernel
theorem dX8_part_1 : decode cX8_part 1 = .ok (.tableswitch 114 1 16 #[79, 84, 89, 94, 114, 99, 114, 114, 114, 114, 114, 114, 114, 114, 104, 109], 79) := by decide +kernel
theorem dX8_part_80 : decode cX8_part 80 = .ok (.aload_n 0, 1) := by decide +kernel
theorem dX8_part_81 : decode cX8_part 81 = .ok (.getfield 24, 3) := by decide +kernel
theorem dX8_part_84 : decode cX8_part 84 = .ok (.ireturn, 1) := by decide +kernel
theorem dX8_part_85 : decode cX8_part 85 = .ok (.aload_n 0, 1) := by decide +kernel
theorem dX8_part_86 : decode cX8_part 86 = .ok (.getfield 28, 3) := by decide +kernel
theorem dX8_part_89 : decode cX8_part 89 = .ok (.ireturn, 1) := by decide +kernel
theorem dX8_part_90 : decode cX8_part 90 = .ok (.aload_n 0, 1) := by decide +kernel
theorem dX8_part_91 : decode cX8_part 91 = .ok (.getfield 31, 3) := by decide +kernel
theorem dX8_part_94 : decode cX8_part 94 = .ok (.ireturn, 1) := by decide +kernel
theorem dX8_part_95 : decode cX8_part 95 = .ok (.aload_n 0, 1) := by decide +kernel
theorem dX8_part_96 : decode cX8_part 96 = .ok (.getfield 34, 3) := by decide +kernel
theorem dX8_part_99 : decode cX8_part 99 = .ok (.ireturn, 1) := by decide +kernel
theorem dX8_part_100 : decode cX8_part 100 = .ok (.aload_n 0, 1) := by decide +kernel
theorem dX8_part_101 : decode cX8_part 101 = .ok (.getfield 37, 3) := by decide +kernel
theorem dX8_part_104 : decode cX8_part 104 = .ok (.ireturn, 1) := by decide +kernel
theorem dX8_part_105 : decode cX8_part 105 = .ok (.aload_n 0, 1) := by decide +kernel
theorem dX8_part_106 : decode cX8_part 106 = .ok (.getfield 43, 3) := by decide +kernel
theorem dX8_part_109 : decode cX8_part 109 = .ok (.ireturn, 1) := by decide +kernel
theorem dX8_part_110 : decode cX8_part 110 = .ok (.aload_n 0, 1) := by decide +kernel
theorem dX8_part_111 : decode cX8_part 111 = .ok (.getfield 46, 3) := by decide +kernel
theorem dX8_part_114 : decode cX8_part 114 = .ok (.ireturn, 1) := by decide +kernel
theorem dX8_part_115 : decode cX8_part 115 = .ok (.iconst (-1), 1) := by decide +kernel
theorem dX8_part_116 : decode cX8_part 116 = .ok (.ireturn, 1) := by decide +kernel
theorem dX9_init_0 : decode cX9_init 0 = .ok (.aload_n 0, 1) := by decide +kernel
theorem dX9_init_1 : decode cX9_init 1 = .ok (.invokespecial 1, 3) := by decide +kernel
theorem dX9_init_4 : decode cX9_init 4 = .ok (.new 7, 3) := by decide +kernel
theorem dX9_init_7 : decode cX9_init 7 = .ok (.dup, 1) := by decide +kernel
theorem dX9_init_8 : decode cX9_init 8 = .ok (.invokespecial 9, 3) := by decide +kernel
theorem dX9_init_11 : decode cX9_init 11 = .ok (.astore_n 1, 1) := by decide +kernel
theorem dX9_init_12 : decode cX9_init 12 = .ok (.aload_n 0, 1) := by decide +kernel
theorem dX9_init_13 : decode cX9_init 13 = .ok (.new 10, 3) := by decide +kernel
theorem dX9_init_16 : decode cX9_init 16 = .ok (.dup, 1) := by decide +kernel
theorem dX9_init_17 : decode cX9_init 17 = .ok (.invokespecial 12, 3) := by decide +kernel
theorem dX9_init_20 : decode cX9_init 20 = .ok (.putfield 13, 3) := by decide +kernel
theorem dX9_init_23 : decode cX9_init 23 = .ok (.aload_n 0, 1) := by decide +kernel
theorem dX9_init_24 : decode cX9_init 24 = .ok (.aload_n 1, 1) := by decide +kernel
theorem dX9_init_25 : decode cX9_init 25 = .ok (.putfield 19, 3) := by decide +kernel
theorem dX9_init_28 : decode cX9_init 28 = .ok (.aload_n 0, 1) := by decide +kernel
theorem dX9_init_29 : decode cX9_init 29 = .ok (.new 7, 3) := by decide +kernel
theorem dX9_init_32 : decode cX9_init 32 = .ok (.dup, 1) := by decide +kernel
theorem dX9_init_33 : decode cX9_init 33 = .ok (.invokespecial 9, 3) := by decide +kernel
theorem dX9_init_36 : decode cX9_init 36 = .ok (.putfield 23, 3) := by decide +kernel
theorem dX9_init_39 : decode cX9_init 39 = .ok (.aload_n 0, 1) := by decide +kernel
theorem dX9_init_40 : decode cX9_init 40 = .ok (.new 26, 3) := by decide +kernel
theorem dX9_init_43 : decode cX9_init 43 = .ok (.dup, 1) := by decide +kernel
theorem dX9_init_44 : decode cX9_init 44 = .ok (.aload_n 1, 1) := by decide +kernel
theorem dX9_init_45 : decode cX9_init 45 = .ok (.invokespecial 28, 3) := by decide +kernel
theorem dX9_init_48 : decode cX9_init 48 = .ok (.putfield 31, 3) := by decide +kernel
theorem dX9_init_51 : decode cX9_init 51 = .ok (.aload_n 0, 1) := by decide +kernel
theorem dX9_init_52 : decode cX9_init 52 = .ok (.new 26, 3) := by decide +kernel
theorem dX9_init_55 : decode cX9_init 55 = .ok (.dup, 1) := by decide +kernel
theorem dX9_init_56 : decode cX9_init 56 = .ok (.aload_n 1, 1) := by decide +kernel
theorem dX9_init_57 : decode cX9_init 57 = .ok (.invokespecial 28, 3) := by decide +kernel
theorem dX9_init_60 : decode cX9_init 60 = .ok (.putfield 35, 3) := by decide +kernel
theorem dX9_init_63 : decode cX9_init 63 = .ok (.aload_n 0, 1) := by decide +kernel
theorem dX9_init_64 : decode cX9_init 64 = .ok (.new 26, 3) := by decide +kernel
theorem dX9_init_67 : decode cX9_init 67 = .ok (.dup, 1) := by decide +kernel
theorem dX9_init_68 : decode cX9_init 68 = .ok (.aload_n 1, 1) := by decide +kernel
theorem dX9_init_69 : decode cX9_init 69 = .ok (.invokespecial 28, 3) := by decide +kernel
theorem dX9_init_72 : decode cX9_init 72 = .ok (.putfield 38, 3) := by decide +kernel
theorem dX9_init_75 : decode cX9_init 75 = .ok (.aload_n 0, 1) := by decide +kernel
theorem dX9_init_76 : decode cX9_init 76 = .ok (.new 41, 3) := by decide +kernel
theorem dX9_init_79 : decode cX9_init 79 = .ok (.dup, 1) := by decide +kernel
theorem dX9_init_80 : decode cX9_init 80 = .ok (.invokespecial 43, 3) := by decide +kernel
theorem dX9_init_83 : decode cX9_init 83 = .ok (.putfield 44, 3) := by decide +kernel
theorem dX9_init_86 : decode cX9_init 86 = .ok (.return_, 1) := by decide +kernel
theorem dX9_feed_0 : decode cX9_feed 0 = .ok (.aload_n 0, 1) := by decide +kernel
theorem dX9_feed_1 : decode cX9_feed 1 = .ok (.getfield 13, 3) := by decide +kernel
theorem dX9_feed_4 : decode cX9_feed 4 = .ok (.invokevirtual 48, 3) := by decide +kernel
theorem dX9_feed_7 : decode cX9_feed 7 = .ok (.ifCond .ne 5, 3) := by decide +kernel
theorem dX9_feed_10 : decode cX9_feed 10 = .ok (.iconst (-1), 1) := by decide +kernel
theorem dX9_feed_11 : decode cX9_feed 11 = .ok (.ireturn, 1) := by decide +kernel
theorem dX9_feed_12 : decode cX9_feed 12 = .ok (.aload_n 0, 1) := by decide +kernel
theorem dX9_feed_13 : decode cX9_feed 13 = .ok (.getfield 13, 3) := by decide +kernel
theorem dX9_feed_16 : decode cX9_feed 16 = .ok (.iload_n 1, 1) := by decide +kernel
theorem dX9_feed_17 : decode cX9_feed 17 = .ok (.invokevirtual 52, 3) := by decide +kernel
theorem dX9_feed_20 : decode cX9_feed 20 = .ok (.aload_n 0, 1) := by decide +kernel
theorem dX9_feed_21 : decode cX9_feed 21 = .ok (.getfield 13, 3) := by decide +kernel
theorem dX9_feed_24 : decode cX9_feed 24 = .ok (.iload_n 2, 1) := by decide +kernel
theorem dX9_feed_25 : decode cX9_feed 25 = .ok (.invokevirtual 52, 3) := by decide +kernel
theorem dX9_feed_28 : decode cX9_feed 28 = .ok (.aload_n 0, 1) := by decide +kernel
theorem dX9_feed_29 : decode cX9_feed 29 = .ok (.getfield 13, 3) := by decide +kernel
theorem dX9_feed_32 : decode cX9_feed 32 = .ok (.iload_n 3, 1) := by decide +kernel
theorem dX9_feed_33 : decode cX9_feed 33 = .ok (.invokevirtual 52, 3) := by decide +kernel
theorem dX9_feed_36 : decode cX9_feed 36 = .ok (.aload_n 0, 1) := by decide +kernel
theorem dX9_feed_37 : decode cX9_feed 37 = .ok (.getfield 13, 3) := by decide +kernel
theorem dX9_feed_40 : decode cX9_feed 40 = .ok (.iload 4, 2) := by decide +kernel
theorem dX9_feed_42 : decode cX9_feed 42 = .ok (.invokevirtual 52, 3) := by decide +kernel
theorem dX9_feed_45 : decode cX9_feed 45 = .ok (.aload_n 0, 1) := by decide +kernel
theorem dX9_feed_46 : decode cX9_feed 46 = .ok (.getfield 13, 3) := by decide +kernel
theorem dX9_feed_49 : decode cX9_feed 49 = .ok (.iload 5, 2) := by decide +kernel
theorem dX9_feed_51 : decode cX9_feed 51 = .ok (.invokevirtual 52, 3) := by decide +kernel
theorem dX9_feed_54 : decode cX9_feed 54 = .ok (.aload_n 0, 1) := by decide +kernel
theorem dX9_feed_55 : decode cX9_feed 55 = .ok (.getfield 13, 3) := by decide +kernel
theorem dX9_feed_58 : decode cX9_feed 58 = .ok (.getfield 56, 3) := by decide +kernel
theorem dX9_feed_61 : decode cX9_feed 61 = .ok (.ireturn, 1) := by decide +kernel
theorem dX9_text_0 : decode cX9_text 0 = .ok (.iload_n 1, 1) := by decide +kernel
theorem dX9_text_1 : decode cX9_text 1 = .ok (.ifCond .lt 14, 3) := by decide +kernel
theorem dX9_text_4 : decode cX9_text 4 = .ok (.iload_n 1, 1) := by decide +kernel
theorem dX9_text_5 : decode cX9_text 5 = .ok (.aload_n 0, 1) := by decide +kernel
theorem dX9_text_6 : decode cX9_text 6 = .ok (.getfield 13, 3) := by decide +kernel
theorem dX9_text_9 : decode cX9_text 9 = .ok (.getfield 56, 3) := by decide +kernel
theorem dX9_text_12 : decode cX9_text 12 = .ok (.if_icmp .le 6, 3) := by decide +kernel
theorem dX9_text_15 : decode cX9_text 15 = .ok (.bipush (-2), 2) := by decide +kernel
theorem dX9_text_17 : decode cX9_text 17 = .ok (.ireturn, 1) := by decide +kernel
theorem dX9_text_18 : decode cX9_text 18 = .ok (.aload_n 0, 1) := by decide +kernel
theorem dX9_text_19 : decode cX9_text 19 = .ok (.getfield 13, 3) := by decide +kernel
theorem dX9_text_22 : decode cX9_text 22 = .ok (.aload_n 0, 1) := by decide +kernel
theorem dX9_text_23 : decode cX9_text 23 = .ok (.getfield 23, 3) := by decide +kernel
theorem dX9_text_26 : decode cX9_text 26 = .ok (.iload_n 1, 1) := by decide +kernel
theorem dX9_text_27 : decode cX9_text 27 = .ok (.invokevirtual 60, 3) := by decide +kernel
theorem dX9_text_30 : decode cX9_text 30 = .ok (.aload_n 0, 1) := by decide +kernel
theorem dX9_text_31 : decode cX9_text 31 = .ok (.getfield 13, 3) := by decide +kernel
theorem dX9_text_34 : decode cX9_text 34 = .ok (.getfield 64, 3) := by decide +kernel
theorem dX9_text_37 : decode cX9_text 37 = .ok (.ifCond .eq 5, 3) := by decide +kernel
theorem dX9_text_40 : decode cX9_text 40 = .ok (.iconst (-1), 1) := by decide +kernel
theorem dX9_text_41 : decode cX9_text 41 = .ok (.ireturn, 1) := by decide +kernel
theorem dX9_text_42 : decode cX9_text 42 = .ok (.aload_n 0, 1) := by decide +kernel
theorem dX9_text_43 : decode cX9_text 43 = .ok (.getfield 19, 3) := by decide +kernel
theorem dX9_text_46 : decode cX9_text 46 = .ok (.astore_n 2, 1) := by decide +kernel
theorem dX9_text_47 : decode cX9_text 47 = .ok (.aload_n 0, 1) := by decide +kernel
theorem dX9_text_48 : decode cX9_text 48 = .ok (.aload_n 0, 1) := by decide +kernel
theorem dX9_text_49 : decode cX9_text 49 = .ok (.getfield 23, 3) := by decide +kernel
theorem dX9_text_52 : decode cX9_text 52 = .ok (.putfield 19, 3) := by decide +kernel
theorem dX9_text_55 : decode cX9_text 55 = .ok (.aload_n 0, 1) := by decide +kernel
theorem dX9_text_56 : decode cX9_text 56 = .ok (.aload_n 2, 1) := by decide +kernel
theorem dX9_text_57 : decode cX9_text 57 = .ok (.putfield 23, 3) := by decide +kernel
theorem dX9_text_60 : decode cX9_text 60 = .ok (.aload_n 0, 1) := by decide +kernel
theorem dX9_text_61 : decode cX9_text 61 = .ok (.getfield 31, 3) := by decide +kernel
theorem dX9_text_64 : decode cX9_text 64 = .ok (.aload_n 0, 1) := by decide +kernel
theorem dX9_text_65 : decode cX9_text 65 = .ok (.getfield 19, 3) := by decide +kernel
theorem dX9_text_68 : decode cX9_text 68 = .ok (.invokevirtual 67, 3) := by decide +kernel
theorem dX9_text_71 : decode cX9_text 71 = .ok (.aload_n 0, 1) := by decide +kernel
theorem dX9_text_72 : decode cX9_text 72 = .ok (.iconst 0, 1) := by decide +kernel
theorem dX9_text_73 : decode cX9_text 73 = .ok (.putfield 70, 3) := by decide +kernel
theorem dX9_text_76 : decode cX9_text 76 = .ok (.aload_n 0, 1) := by decide +kernel
theorem dX9_text_77 : decode cX9_text 77 = .ok (.getfield 19, 3) := by decide +kernel
theorem dX9_text_80 : decode cX9_text 80 = .ok (.getfield 74, 3) := by decide +kernel
theorem dX9_text_83 : decode cX9_text 83 = .ok (.ireturn, 1) := by decide +kernel
theorem dX9_fault_0 : decode cX9_fault 0 = .ok (.iload_n 1, 1) := by decide +kernel
theorem dX9_fault_1 : decode cX9_fault 1 = .ok (.ifCond .ne 11, 3) := by decide +kernel
theorem dX9_fault_4 : decode cX9_fault 4 = .ok (.aload_n 0, 1) := by decide +kernel
theorem dX9_fault_5 : decode cX9_fault 5 = .ok (.getfield 13, 3) := by decide +kernel
theorem dX9_fault_8 : decode cX9_fault 8 = .ok (.getfield 64, 3) := by decide +kernel
theorem dX9_fault_11 : decode cX9_fault 11 = .ok (.ireturn, 1) := by decide +kernel
theorem dX9_fault_12 : decode cX9_fault 12 = .ok (.iload_n 1, 1) := by decide +kernel
theorem dX9_fault_13 : decode cX9_fault 13 = .ok (.iconst 1, 1) := by decide +kernel
theorem dX9_fault_14 : decode cX9_fault 14 = .ok (.if_icmp .ne 13, 3) := by decide +kernel
theorem dX9_fault_17 : decode cX9_fault 17 = .ok (.aload_n 0, 1) := by decide +kernel
theorem dX9_fault_18 : decode cX9_fault 18 = .ok (.getfield 13, 3) := by decide +kernel
theorem dX9_fault_21 : decode cX9_fault 21 = .ok (.getfield 77, 3) := by decide +kernel
theorem dX9_fault_24 : decode cX9_fault 24 = .ok (.goto 4, 3) := by decide +kernel
theorem dX9_fault_27 : decode cX9_fault 27 = .ok (.iconst (-1), 1) := by decide +kernel
theorem dX9_fault_28 : decode cX9_fault 28 = .ok (.ireturn, 1) := by decide +kernel
theorem dX9_named_0 : decode cX9_named 0 = .ok (.aload_n 0, 1) := by decide +kernel
theorem dX9_named_1 : decode cX9_named 1 = .ok (.getfield 19, 3) := by decide +kernel
theorem dX9_named_4 : decode cX9_named 4 = .ok (.iload_n 1, 1) := by decide +kernel
theorem dX9_named_5 : decode cX9_named 5 = .ok (.invokevirtual 80, 3) := by decide +kernel
theorem dX9_named_8 : decode cX9_named 8 = .ok (.ireturn, 1) := by decide +kernel
theorem dX9_go_0 : decode cX9_go 0 = .ok (.iload_n 1, 1) := by decide +kernel
theorem dX9_go_1 : decode cX9_go 1 = .ok (.ifCond .lt 10, 3) := by decide +kernel
theorem dX9_go_4 : decode cX9_go 4 = .ok (.iload_n 1, 1) := by decide +kernel
theorem dX9_go_5 : decode cX9_go 5 = .ok (.sipush 300, 3) := by decide +kernel
theorem dX9_go_8 : decode cX9_go 8 = .ok (.if_icmp .le 5, 3) := by decide +kernel
theorem dX9_go_11 : decode cX9_go 11 = .ok (.iconst (-1), 1) := by decide +kernel
theorem dX9_go_12 : decode cX9_go 12 = .ok (.ireturn, 1) := by decide +kernel
theorem dX9_go_13 : decode cX9_go 13 = .ok (.iconst 0, 1) := by decide +kernel
theorem dX9_go_14 : decode cX9_go 14 = .ok (.istore_n 2, 1) := by decide +kernel
theorem dX9_go_15 : decode cX9_go 15 = .ok (.iload_n 2, 1) := by decide +kernel
theorem dX9_go_16 : decode cX9_go 16 = .ok (.iload_n 1, 1) := by decide +kernel
theorem dX9_go_17 : decode cX9_go 17 = .ok (.if_icmp .ge 21, 3) := by decide +kernel
theorem dX9_go_20 : decode cX9_go 20 = .ok (.aload_n 0, 1) := by decide +kernel
theorem dX9_go_21 : decode cX9_go 21 = .ok (.getfield 31, 3) := by decide +kernel
theorem dX9_go_24 : decode cX9_go 24 = .ok (.invokevirtual 84, 3) := by decide +kernel
theorem dX9_go_27 : decode cX9_go 27 = .ok (.bipush (-2), 2) := by decide +kernel
theorem dX9_go_29 : decode cX9_go 29 = .ok (.if_icmp .eq 9, 3) := by decide +kernel
theorem dX9_go_32 : decode cX9_go 32 = .ok (.iinc 2 1, 3) := by decide +kernel
theorem dX9_go_35 : decode cX9_go 35 = .ok (.goto (-20), 3) := by decide +kernel
theorem dX9_go_38 : decode cX9_go 38 = .ok (.iload_n 2, 1) := by decide +kernel
theorem dX9_go_39 : decode cX9_go 39 = .ok (.ireturn, 1) := by decide +kernel
theorem dX9_flip_0 : decode cX9_flip 0 = .ok (.aload_n 0, 1) := by decide +kernel
theorem dX9_flip_1 : decode cX9_flip 1 = .ok (.getfield 31, 3) := by decide +kernel
theorem dX9_flip_4 : decode cX9_flip 4 = .ok (.iload_n 1, 1) := by decide +kernel
theorem dX9_flip_5 : decode cX9_flip 5 = .ok (.iload_n 2, 1) := by decide +kernel
theorem dX9_flip_6 : decode cX9_flip 6 = .ok (.iload_n 3, 1) := by decide +kernel
theorem dX9_flip_7 : decode cX9_flip 7 = .ok (.invokevirtual 88, 3) := by decide +kernel
theorem dX9_flip_10 : decode cX9_flip 10 = .ok (.ireturn, 1) := by decide +kernel
theorem dX9_thread_0 : decode cX9_thread 0 = .ok (.iload_n 1, 1) := by decide +kernel
theorem dX9_thread_1 : decode cX9_thread 1 = .ok (.ifCond .lt 8, 3) := by decide +kernel
theorem dX9_thread_4 : decode cX9_thread 4 = .ok (.iload_n 1, 1) := by decide +kernel
theorem dX9_thread_5 : decode cX9_thread 5 = .ok (.iconst 1, 1) := by decide +kernel
theorem dX9_thread_6 : decode cX9_thread 6 = .ok (.if_icmp .le 13, 3) := by decide +kernel
theorem dX9_thread_9 : decode cX9_thread 9 = .ok (.new 92, 3) := by decide +kernel
theorem dX9_thread_12 : decode cX9_thread 12 = .ok (.dup, 1) := by decide +kernel
theorem dX9_thread_13 : decode cX9_thread 13 = .ok (.ldc 94, 2) := by decide +kernel
theorem dX9_thread_15 : decode cX9_thread 15 = .ok (.invokespecial 96, 3) := by decide +kernel
theorem dX9_thread_18 : decode cX9_thread 18 = .ok (.athrow, 1) := by decide +kernel
theorem dX9_thread_19 : decode cX9_thread 19 = .ok (.aload_n 0, 1) := by decide +kernel
theorem dX9_thread_20 : decode cX9_thread 20 = .ok (.getfield 31, 3) := by decide +kernel
theorem dX9_thread_23 : decode cX9_thread 23 = .ok (.iload_n 1, 1) := by decide +kernel
theorem dX9_thread_24 : decode cX9_thread 24 = .ok (.invokevirtual 99, 3) := by decide +kernel
theorem dX9_thread_27 : decode cX9_thread 27 = .ok (.astore_n 3, 1) := by decide +kernel
theorem dX9_thread_28 : decode cX9_thread 28 = .ok (.iload_n 2, 1) := by decide +kernel
theorem dX9_thread_29 : decode cX9_thread 29 = .ok (.tableswitch 80 0 3 #[31, 36, 41, 58], 31) := by decide +kernel
theorem dX9_thread_60 : decode cX9_thread 60 = .ok (.aload_n 3, 1) := by decide +kernel
theorem dX9_thread_61 : decode cX9_thread 61 = .ok (.getfield 103, 3) := by decide +kernel
theorem dX9_thread_64 : decode cX9_thread 64 = .ok (.ireturn, 1) := by decide +kernel
theorem dX9_thread_65 : decode cX9_thread 65 = .ok (.aload_n 3, 1) := by decide +kernel
theorem dX9_thread_66 : decode cX9_thread 66 = .ok (.getfield 108, 3) := by decide +kernel
theorem dX9_thread_69 : decode cX9_thread 69 = .ok (.ireturn, 1) := by decide +kernel
theorem dX9_thread_70 : decode cX9_thread 70 = .ok (.aload_n 3, 1) := by decide +kernel
theorem dX9_thread_71 : decode cX9_thread 71 = .ok (.aload_n 0, 1) := by decide +kernel
theorem dX9_thread_72 : decode cX9_thread 72 = .ok (.getfield 19, 3) := by decide +kernel
theorem dX9_thread_75 : decode cX9_thread 75 = .ok (.invokevirtual 111, 3) := by decide +kernel
theorem dX9_thread_78 : decode cX9_thread 78 = .ok (.ifCond .eq 7, 3) := by decide +kernel
theorem dX9_thread_81 : decode cX9_thread 81 = .ok (.iconst 1, 1) := by decide +kernel
theorem dX9_thread_82 : decode cX9_thread 82 = .ok (.goto 4, 3) := by decide +kernel
theorem dX9_thread_85 : decode cX9_thread 85 = .ok (.iconst 0, 1) := by decide +kernel
theorem dX9_thread_86 : decode cX9_thread 86 = .ok (.ireturn, 1) := by decide +kernel
theorem dX9_thread_87 : decode cX9_thread 87 = .ok (.iload_n 1, 1) := by decide +kernel
theorem dX9_thread_88 : decode cX9_thread 88 = .ok (.ifCond .ne 13, 3) := by decide +kernel
theorem dX9_thread_91 : decode cX9_thread 91 = .ok (.aload_n 0, 1) := by decide +kernel
theorem dX9_thread_92 : decode cX9_thread 92 = .ok (.getfield 31, 3) := by decide +kernel
theorem dX9_thread_95 : decode cX9_thread 95 = .ok (.invokevirtual 115, 3) := by decide +kernel
theorem dX9_thread_98 : decode cX9_thread 98 = .ok (.goto 10, 3) := by decide +kernel
theorem dX9_thread_101 : decode cX9_thread 101 = .ok (.aload_n 0, 1) := by decide +kernel
theorem dX9_thread_102 : decode cX9_thread 102 = .ok (.getfield 31, 3) := by decide +kernel
theorem dX9_thread_105 : decode cX9_thread 105 = .ok (.invokevirtual 118, 3) := by decide +kernel
theorem dX9_thread_108 : decode cX9_thread 108 = .ok (.ireturn, 1) := by decide +kernel
theorem dX9_thread_109 : decode cX9_thread 109 = .ok (.new 121, 3) := by decide +kernel
theorem dX9_thread_112 : decode cX9_thread 112 = .ok (.dup, 1) := by decide +kernel
theorem dX9_thread_113 : decode cX9_thread 113 = .ok (.ldc 123, 2) := by decide +kernel
theorem dX9_thread_115 : decode cX9_thread 115 = .ok (.invokespecial 125, 3) := by decide +kernel
theorem dX9_thread_118 : decode cX9_thread 118 = .ok (.athrow, 1) := by decide +kernel
theorem dX9_register_0 : decode cX9_register 0 = .ok (.iload_n 1, 1) := by decide +kernel
theorem dX9_register_1 : decode cX9_register 1 = .ok (.ifCond .lt 18, 3) := by decide +kernel
theorem dX9_register_4 : decode cX9_register 4 = .ok (.iload_n 1, 1) := by decide +kernel
theorem dX9_register_5 : decode cX9_register 5 = .ok (.iconst 1, 1) := by decide +kernel
theorem dX9_register_6 : decode cX9_register 6 = .ok (.if_icmp .gt 13, 3) := by decide +kernel
theorem dX9_register_9 : decode cX9_register 9 = .ok (.iload_n 2, 1) := by decide +kernel
theorem dX9_register_10 : decode cX9_register 10 = .ok (.ifCond .lt 9, 3) := by decide +kernel
theorem dX9_register_13 : decode cX9_register 13 = .ok (.iload_n 2, 1) := by decide +kernel
theorem dX9_register_14 : decode cX9_register 14 = .ok (.bipush 7, 2) := by decide +kernel
theorem dX9_register_16 : decode cX9_register 16 = .ok (.if_icmp .le 5, 3) := by decide +kernel
theorem dX9_register_19 : decode cX9_register 19 = .ok (.iconst 0, 1) := by decide +kernel
theorem dX9_register_20 : decode cX9_register 20 = .ok (.ireturn, 1) := by decide +kernel
theorem dX9_register_21 : decode cX9_register 21 = .ok (.aload_n 0, 1) := by decide +kernel
theorem dX9_register_22 : decode cX9_register 22 = .ok (.getfield 31, 3) := by decide +kernel
theorem dX9_register_25 : decode cX9_register 25 = .ok (.iload_n 1, 1) := by decide +kernel
theorem dX9_register_26 : decode cX9_register 26 = .ok (.invokevirtual 99, 3) := by decide +kernel
theorem dX9_register_29 : decode cX9_register 29 = .ok (.getfield 126, 3) := by decide +kernel
theorem dX9_register_32 : decode cX9_register 32 = .ok (.iload_n 2, 1) := by decide +kernel
theorem dX9_register_33 : decode cX9_register 33 = .ok (.iaload, 1) := by decide +kernel
theorem dX9_register_34 : decode cX9_register 34 = .ok (.ireturn, 1) := by decide +kernel
theorem dX9_real_0 : decode cX9_real 0 = .ok (.iload_n 1, 1) := by decide +kernel
theorem dX9_real_1 : decode cX9_real 1 = .ok (.ifCond .lt 17, 3) := by decide +kernel
theorem dX9_real_4 : decode cX9_real 4 = .ok (.iload_n 1, 1) := by decide +kernel
theorem dX9_real_5 : decode cX9_real 5 = .ok (.iconst 1, 1) := by decide +kernel
theorem dX9_real_6 : decode cX9_real 6 = .ok (.if_icmp .gt 12, 3) := by decide +kernel
theorem dX9_real_9 : decode cX9_real 9 = .ok (.iload_n 2, 1) := by decide +kernel
theorem dX9_real_10 : decode cX9_real 10 = .ok (.ifCond .lt 8, 3) := by decide +kernel
theorem dX9_real_13 : decode cX9_real 13 = .ok (.iload_n 2, 1) := by decide +kernel
theorem dX9_real_14 : decode cX9_real 14 = .ok (.iconst 3, 1) := by decide +kernel
theorem dX9_real_15 : decode cX9_real 15 = .ok (.if_icmp .le 5, 3) := by decide +kernel
theorem dX9_real_18 : decode cX9_real 18 = .ok (.iconst 0, 1) := by decide +kernel
theorem dX9_real_19 : decode cX9_real 19 = .ok (.ireturn, 1) := by decide +kernel
theorem dX9_real_20 : decode cX9_real 20 = .ok (.aload_n 0, 1) := by decide +kernel
theorem dX9_real_21 : decode cX9_real 21 = .ok (.getfield 31, 3) := by decide +kernel
theorem dX9_real_24 : decode cX9_real 24 = .ok (.iload_n 1, 1) := by decide +kernel
theorem dX9_real_25 : decode cX9_real 25 = .ok (.invokevirtual 99, 3) := by decide +kernel
theorem dX9_real_28 : decode cX9_real 28 = .ok (.getfield 130, 3) := by decide +kernel
theorem dX9_real_31 : decode cX9_real 31 = .ok (.iload_n 2, 1) := by decide +kernel
theorem dX9_real_32 : decode cX9_real 32 = .ok (.iaload, 1) := by decide +kernel
theorem dX9_real_33 : decode cX9_real 33 = .ok (.ireturn, 1) := by decide +kernel
theorem dX9_memory_0 : decode cX9_memory 0 = .ok (.iload_n 1, 1) := by decide +kernel
theorem dX9_memory_1 : decode cX9_memory 1 = .ok (.ifCond .lt 9, 3) := by decide +kernel
theorem dX9_memory_4 : decode cX9_memory 4 = .ok (.iload_n 1, 1) := by decide +kernel
theorem dX9_memory_5 : decode cX9_memory 5 = .ok (.bipush 31, 2) := by decide +kernel
theorem dX9_memory_7 : decode cX9_memory 7 = .ok (.if_icmp .le 7, 3) := by decide +kernel
theorem dX9_memory_10 : decode cX9_memory 10 = .ok (.iconst 0, 1) := by decide +kernel
theorem dX9_memory_11 : decode cX9_memory 11 = .ok (.goto 15, 3) := by decide +kernel
theorem dX9_memory_14 : decode cX9_memory 14 = .ok (.aload_n 0, 1) := by decide +kernel
theorem dX9_memory_15 : decode cX9_memory 15 = .ok (.getfield 31, 3) := by decide +kernel
theorem dX9_memory_18 : decode cX9_memory 18 = .ok (.getfield 133, 3) := by decide +kernel
theorem dX9_memory_21 : decode cX9_memory 21 = .ok (.getfield 137, 3) := by decide +kernel
theorem dX9_memory_24 : decode cX9_memory 24 = .ok (.iload_n 1, 1) := by decide +kernel
theorem dX9_memory_25 : decode cX9_memory 25 = .ok (.iaload, 1) := by decide +kernel
theorem dX9_memory_26 : decode cX9_memory 26 = .ok (.ireturn, 1) := by decide +kernel
theorem dX9_output_0 : decode cX9_output 0 = .ok (.aload_n 0, 1) := by decide +kernel
theorem dX9_output_1 : decode cX9_output 1 = .ok (.getfield 31, 3) := by decide +kernel
theorem dX9_output_4 : decode cX9_output 4 = .ok (.getfield 133, 3) := by decide +kernel
theorem dX9_output_7 : decode cX9_output 7 = .ok (.iload_n 1, 1) := by decide +kernel
theorem dX9_output_8 : decode cX9_output 8 = .ok (.invokevirtual 142, 3) := by decide +kernel
theorem dX9_output_11 : decode cX9_output 11 = .ok (.ireturn, 1) := by decide +kernel
theorem dX9_queued_0 : decode cX9_queued 0 = .ok (.iload_n 1, 1) := by decide +kernel
theorem dX9_queued_1 : decode cX9_queued 1 = .ok (.tableswitch 66 0 2 #[27, 40, 53], 27) := by decide +kernel
theorem dX9_queued_28 : decode cX9_queued 28 = .ok (.aload_n 0, 1) := by decide +kernel
theorem dX9_queued_29 : decode cX9_queued 29 = .ok (.getfield 31, 3) := by decide +kernel
theorem dX9_queued_32 : decode cX9_queued 32 = .ok (.getfield 145, 3) := by decide +kernel
theorem dX9_queued_35 : decode cX9_queued 35 = .ok (.iload_n 2, 1) := by decide +kernel
theorem dX9_queued_36 : decode cX9_queued 36 = .ok (.iload_n 3, 1) := by decide +kernel
theorem dX9_queued_37 : decode cX9_queued 37 = .ok (.invokevirtual 149, 3) := by decide +kernel
theorem dX9_queued_40 : decode cX9_queued 40 = .ok (.ireturn, 1) := by decide +kernel
theorem dX9_queued_41 : decode cX9_queued 41 = .ok (.aload_n 0, 1) := by decide +kernel
theorem dX9_queued_42 : decode cX9_queued 42 = .ok (.getfield 31, 3) := by decide +kernel
theorem dX9_queued_45 : decode cX9_queued 45 = .ok (.getfield 145, 3) := by decide +kernel
theorem dX9_queued_48 : decode cX9_queued 48 = .ok (.iload_n 2, 1) := by decide +kernel
theorem dX9_queued_49 : decode cX9_queued 49 = .ok (.iload_n 3, 1) := by decide +kernel
theorem dX9_queued_50 : decode cX9_queued 50 = .ok (.invokevirtual 155, 3) := by decide +kernel
theorem dX9_queued_53 : decode cX9_queued 53 = .ok (.ireturn, 1) := by decide +kernel
theorem dX9_queued_54 : decode cX9_queued 54 = .ok (.aload_n 0, 1) := by decide +kernel
theorem dX9_queued_55 : decode cX9_queued 55 = .ok (.getfield 31, 3) := by decide +kernel
theorem dX9_queued_58 : decode cX9_queued 58 = .ok (.getfield 145, 3) := by decide +kernel
theorem dX9_queued_61 : decode cX9_queued 61 = .ok (.iload_n 2, 1) := by decide +kernel
theorem dX9_queued_62 : decode cX9_queued 62 = .ok (.iload_n 3, 1) := by decide +kernel
theorem dX9_queued_63 : decode cX9_queued 63 = .ok (.invokevirtual 158, 3) := by decide +kernel
theorem dX9_queued_66 : decode cX9_queued 66 = .ok (.ireturn, 1) := by decide +kernel
theorem dX9_queued_67 : decode cX9_queued 67 = .ok (.iconst 0, 1) := by decide +kernel
theorem dX9_queued_68 : decode cX9_queued 68 = .ok (.ireturn, 1) := by decide +kernel
theorem dX9_next_0 : decode cX9_next 0 = .ok (.aload_n 0, 1) := by decide +kernel
theorem dX9_next_1 : decode cX9_next 1 = .ok (.getfield 31, 3) := by decide +kernel
theorem dX9_next_4 : decode cX9_next 4 = .ok (.invokevirtual 161, 3) := by decide +kernel
theorem dX9_next_7 : decode cX9_next 7 = .ok (.ireturn, 1) := by decide +kernel
theorem dX9_alarm_0 : decode cX9_alarm 0 = .ok (.aload_n 0, 1) := by decide +kernel
theorem dX9_alarm_1 : decode cX9_alarm 1 = .ok (.getfield 31, 3) := by decide +kernel
theorem dX9_alarm_4 : decode cX9_alarm 4 = .ok (.getfield 164, 3) := by decide +kernel
theorem dX9_alarm_7 : decode cX9_alarm 7 = .ok (.iload_n 1, 1) := by decide +kernel
theorem dX9_alarm_8 : decode cX9_alarm 8 = .ok (.iload_n 2, 1) := by decide +kernel
theorem dX9_alarm_9 : decode cX9_alarm 9 = .ok (.invokevirtual 168, 3) := by decide +kernel
theorem dX9_alarm_12 : decode cX9_alarm 12 = .ok (.ireturn, 1) := by decide +kernel
theorem dX9_plain_0 : decode cX9_plain 0 = .ok (.iload_n 1, 1) := by decide +kernel
theorem dX9_plain_1 : decode cX9_plain 1 = .ok (.ifCond .lt 19, 3) := by decide +kernel
theorem dX9_plain_4 : decode cX9_plain 4 = .ok (.iload_n 1, 1) := by decide +kernel
theorem dX9_plain_5 : decode cX9_plain 5 = .ok (.sipush 999, 3) := by decide +kernel
theorem dX9_plain_8 : decode cX9_plain 8 = .ok (.if_icmp .gt 12, 3) := by decide +kernel
theorem dX9_plain_11 : decode cX9_plain 11 = .ok (.iload_n 2, 1) := by decide +kernel
theorem dX9_plain_12 : decode cX9_plain 12 = .ok (.ifCond .lt 8, 3) := by decide +kernel
theorem dX9_plain_15 : decode cX9_plain 15 = .ok (.iload_n 2, 1) := by decide +kernel
theorem dX9_plain_16 : decode cX9_plain 16 = .ok (.iconst 3, 1) := by decide +kernel
theorem dX9_plain_17 : decode cX9_plain 17 = .ok (.if_icmp .le 5, 3) := by decide +kernel
theorem dX9_plain_20 : decode cX9_plain 20 = .ok (.iconst (-1), 1) := by decide +kernel
theorem dX9_plain_21 : decode cX9_plain 21 = .ok (.ireturn, 1) := by decide +kernel
theorem dX9_plain_22 : decode cX9_plain 22 = .ok (.aload_n 0, 1) := by decide +kernel
theorem dX9_plain_23 : decode cX9_plain 23 = .ok (.getfield 44, 3) := by decide +kernel
theorem dX9_plain_26 : decode cX9_plain 26 = .ok (.aload_n 0, 1) := by decide +kernel
theorem dX9_plain_27 : decode cX9_plain 27 = .ok (.getfield 19, 3) := by decide +kernel
theorem dX9_plain_30 : decode cX9_plain 30 = .ok (.invokevirtual 173, 3) := by decide +kernel
theorem dX9_plain_33 : decode cX9_plain 33 = .ok (.aload_n 0, 1) := by decide +kernel
theorem dX9_plain_34 : decode cX9_plain 34 = .ok (.getfield 44, 3) := by decide +kernel
theorem dX9_plain_37 : decode cX9_plain 37 = .ok (.aload_n 0, 1) := by decide +kernel
theorem dX9_plain_38 : decode cX9_plain 38 = .ok (.getfield 19, 3) := by decide +kernel
theorem dX9_plain_41 : decode cX9_plain 41 = .ok (.iload_n 1, 1) := by decide +kernel
theorem dX9_plain_42 : decode cX9_plain 42 = .ok (.invokevirtual 176, 3) := by decide +kernel
theorem dX9_plain_45 : decode cX9_plain 45 = .ok (.iload_n 2, 1) := by decide +kernel
theorem dX9_plain_46 : decode cX9_plain 46 = .ok (.tableswitch 71 0 2 #[26, 37, 60], 26) := by decide +kernel
theorem dX9_plain_72 : decode cX9_plain 72 = .ok (.aload_n 0, 1) := by decide +kernel
theorem dX9_plain_73 : decode cX9_plain 73 = .ok (.getfield 44, 3) := by decide +kernel
theorem dX9_plain_76 : decode cX9_plain 76 = .ok (.getfield 179, 3) := by decide +kernel
theorem dX9_plain_79 : decode cX9_plain 79 = .ok (.getfield 103, 3) := by decide +kernel
theorem dX9_plain_82 : decode cX9_plain 82 = .ok (.ireturn, 1) := by decide +kernel
theorem dX9_plain_83 : decode cX9_plain 83 = .ok (.aload_n 0, 1) := by decide +kernel
theorem dX9_plain_84 : decode cX9_plain 84 = .ok (.getfield 44, 3) := by decide +kernel
theorem dX9_plain_87 : decode cX9_plain 87 = .ok (.getfield 179, 3) := by decide +kernel
theorem dX9_plain_90 : decode cX9_plain 90 = .ok (.aload_n 0, 1) := by decide +kernel
theorem dX9_plain_91 : decode cX9_plain 91 = .ok (.getfield 19, 3) := by decide +kernel
theorem dX9_plain_94 : decode cX9_plain 94 = .ok (.invokevirtual 111, 3) := by decide +kernel
theorem dX9_plain_97 : decode cX9_plain 97 = .ok (.ifCond .eq 7, 3) := by decide +kernel
theorem dX9_plain_100 : decode cX9_plain 100 = .ok (.iconst 1, 1) := by decide +kernel
theorem dX9_plain_101 : decode cX9_plain 101 = .ok (.goto 4, 3) := by decide +kernel
theorem dX9_plain_104 : decode cX9_plain 104 = .ok (.iconst 0, 1) := by decide +kernel
theorem dX9_plain_105 : decode cX9_plain 105 = .ok (.ireturn, 1) := by decide +kernel
theorem dX9_plain_106 : decode cX9_plain 106 = .ok (.aload_n 0, 1) := by decide +kernel
theorem dX9_plain_107 : decode cX9_plain 107 = .ok (.getfield 44, 3) := by decide +kernel
theorem dX9_plain_110 : decode cX9_plain 110 = .ok (.getfield 179, 3) := by decide +kernel
theorem dX9_plain_113 : decode cX9_plain 113 = .ok (.getfield 108, 3) := by decide +kernel
theorem dX9_plain_116 : decode cX9_plain 116 = .ok (.ireturn, 1) := by decide +kernel
theorem dX9_plain_117 : decode cX9_plain 117 = .ok (.aload_n 0, 1) := by decide +kernel
theorem dX9_plain_118 : decode cX9_plain 118 = .ok (.getfield 44, 3) := by decide +kernel
theorem dX9_plain_121 : decode cX9_plain 121 = .ok (.getfield 182, 3) := by decide +kernel
theorem dX9_plain_124 : decode cX9_plain 124 = .ok (.ireturn, 1) := by decide +kernel
theorem dX9_plainOf_0 : decode cX9_plainOf 0 = .ok (.iload_n 1, 1) := by decide +kernel
theorem dX9_plainOf_1 : decode cX9_plainOf 1 = .ok (.ifCond .lt 14, 3) := by decide +kernel
theorem dX9_plainOf_4 : decode cX9_plainOf 4 = .ok (.iload_n 1, 1) := by decide +kernel
theorem dX9_plainOf_5 : decode cX9_plainOf 5 = .ok (.sipush 999, 3) := by decide +kernel
theorem dX9_plainOf_8 : decode cX9_plainOf 8 = .ok (.if_icmp .gt 7, 3) := by decide +kernel
theorem dX9_plainOf_11 : decode cX9_plainOf 11 = .ok (.iload_n 3, 1) := by decide +kernel
theorem dX9_plainOf_12 : decode cX9_plainOf 12 = .ok (.ifCond .ge 5, 3) := by decide +kernel
theorem dX9_plainOf_15 : decode cX9_plainOf 15 = .ok (.iconst 0, 1) := by decide +kernel
theorem dX9_plainOf_16 : decode cX9_plainOf 16 = .ok (.ireturn, 1) := by decide +kernel
theorem dX9_plainOf_17 : decode cX9_plainOf 17 = .ok (.aload_n 0, 1) := by decide +kernel
theorem dX9_plainOf_18 : decode cX9_plainOf 18 = .ok (.getfield 44, 3) := by decide +kernel
theorem dX9_plainOf_21 : decode cX9_plainOf 21 = .ok (.aload_n 0, 1) := by decide +kernel
theorem dX9_plainOf_22 : decode cX9_plainOf 22 = .ok (.getfield 19, 3) := by decide +kernel
theorem dX9_plainOf_25 : decode cX9_plainOf 25 = .ok (.invokevirtual 173, 3) := by decide +kernel
theorem dX9_plainOf_28 : decode cX9_plainOf 28 = .ok (.aload_n 0, 1) := by decide +kernel
theorem dX9_plainOf_29 : decode cX9_plainOf 29 = .ok (.getfield 44, 3) := by decide +kernel
theorem dX9_plainOf_32 : decode cX9_plainOf 32 = .ok (.aload_n 0, 1) := by decide +kernel
theorem dX9_plainOf_33 : decode cX9_plainOf 33 = .ok (.getfield 19, 3) := by decide +kernel
theorem dX9_plainOf_36 : decode cX9_plainOf 36 = .ok (.iload_n 1, 1) := by decide +kernel
theorem dX9_plainOf_37 : decode cX9_plainOf 37 = .ok (.invokevirtual 176, 3) := by decide +kernel
theorem dX9_plainOf_40 : decode cX9_plainOf 40 = .ok (.iload_n 2, 1) := by decide +kernel
theorem dX9_plainOf_41 : decode cX9_plainOf 41 = .ok (.tableswitch 128 0 3 #[31, 54, 76, 96], 31) := by decide +kernel
theorem dX9_plainOf_72 : decode cX9_plainOf 72 = .ok (.iload_n 3, 1) := by decide +kernel
theorem dX9_plainOf_73 : decode cX9_plainOf 73 = .ok (.bipush 7, 2) := by decide +kernel
theorem dX9_plainOf_75 : decode cX9_plainOf 75 = .ok (.if_icmp .le 7, 3) := by decide +kernel
theorem dX9_plainOf_78 : decode cX9_plainOf 78 = .ok (.iconst 0, 1) := by decide +kernel
theorem dX9_plainOf_79 : decode cX9_plainOf 79 = .ok (.goto 15, 3) := by decide +kernel
theorem dX9_plainOf_82 : decode cX9_plainOf 82 = .ok (.aload_n 0, 1) := by decide +kernel
theorem dX9_plainOf_83 : decode cX9_plainOf 83 = .ok (.getfield 44, 3) := by decide +kernel
theorem dX9_plainOf_86 : decode cX9_plainOf 86 = .ok (.getfield 179, 3) := by decide +kernel
theorem dX9_plainOf_89 : decode cX9_plainOf 89 = .ok (.getfield 126, 3) := by decide +kernel
theorem dX9_plainOf_92 : decode cX9_plainOf 92 = .ok (.iload_n 3, 1) := by decide +kernel
theorem dX9_plainOf_93 : decode cX9_plainOf 93 = .ok (.iaload, 1) := by decide +kernel
theorem dX9_plainOf_94 : decode cX9_plainOf 94 = .ok (.ireturn, 1) := by decide +kernel
theorem dX9_plainOf_95 : decode cX9_plainOf 95 = .ok (.iload_n 3, 1) := by decide +kernel
theorem dX9_plainOf_96 : decode cX9_plainOf 96 = .ok (.iconst 3, 1) := by decide +kernel
theorem dX9_plainOf_97 : decode cX9_plainOf 97 = .ok (.if_icmp .le 7, 3) := by decide +kernel
theorem dX9_plainOf_100 : decode cX9_plainOf 100 = .ok (.iconst 0, 1) := by decide +kernel
theorem dX9_plainOf_101 : decode cX9_plainOf 101 = .ok (.goto 15, 3) := by decide +kernel
theorem dX9_plainOf_104 : decode cX9_plainOf 104 = .ok (.aload_n 0, 1) := by decide +kernel
theorem dX9_plainOf_105 : decode cX9_plainOf 105 = .ok (.getfield 44, 3) := by decide +kernel
theorem dX9_plainOf_108 : decode cX9_plainOf 108 = .ok (.getfield 179, 3) := by decide +kernel
theorem dX9_plainOf_111 : decode cX9_plainOf 111 = .ok (.getfield 130, 3) := by decide +kernel
theorem dX9_plainOf_114 : decode cX9_plainOf 114 = .ok (.iload_n 3, 1) := by decide +kernel
theorem dX9_plainOf_115 : decode cX9_plainOf 115 = .ok (.iaload, 1) := by decide +kernel
theorem dX9_plainOf_116 : decode cX9_plainOf 116 = .ok (.ireturn, 1) := by decide +kernel
theorem dX9_plainOf_117 : decode cX9_plainOf 117 = .ok (.iload_n 3, 1) := by decide +kernel
theorem dX9_plainOf_118 : decode cX9_plainOf 118 = .ok (.bipush 31, 2) := by decide +kernel
theorem dX9_plainOf_120 : decode cX9_plainOf 120 = .ok (.if_icmp .le 7, 3) := by decide +kernel
theorem dX9_plainOf_123 : decode cX9_plainOf 123 = .ok (.iconst 0, 1) := by decide +kernel
theorem dX9_plainOf_124 : decode cX9_plainOf 124 = .ok (.goto 12, 3) := by decide +kernel
theorem dX9_plainOf_127 : decode cX9_plainOf 127 = .ok (.aload_n 0, 1) := by decide +kernel
theorem dX9_plainOf_128 : decode cX9_plainOf 128 = .ok (.getfield 44, 3) := by decide +kernel
theorem dX9_plainOf_131 : decode cX9_plainOf 131 = .ok (.getfield 185, 3) := by decide +kernel
theorem dX9_plainOf_134 : decode cX9_plainOf 134 = .ok (.iload_n 3, 1) := by decide +kernel
theorem dX9_plainOf_135 : decode cX9_plainOf 135 = .ok (.iaload, 1) := by decide +kernel
theorem dX9_plainOf_136 : decode cX9_plainOf 136 = .ok (.ireturn, 1) := by decide +kernel
theorem dX9_plainOf_137 : decode cX9_plainOf 137 = .ok (.iload_n 3, 1) := by decide +kernel
theorem dX9_plainOf_138 : decode cX9_plainOf 138 = .ok (.aload_n 0, 1) := by decide +kernel
theorem dX9_plainOf_139 : decode cX9_plainOf 139 = .ok (.getfield 44, 3) := by decide +kernel
theorem dX9_plainOf_142 : decode cX9_plainOf 142 = .ok (.getfield 182, 3) := by decide +kernel
theorem dX9_plainOf_145 : decode cX9_plainOf 145 = .ok (.if_icmp .ge 10, 3) := by decide +kernel
theorem dX9_plainOf_148 : decode cX9_plainOf 148 = .ok (.iload_n 3, 1) := by decide +kernel
theorem dX9_plainOf_149 : decode cX9_plainOf 149 = .ok (.sipush 1000, 3) := by decide +kernel
theorem dX9_plainOf_152 : decode cX9_plainOf 152 = .ok (.if_icmp .lt 7, 3) := by decide +kernel
theorem dX9_plainOf_155 : decode cX9_plainOf 155 = .ok (.iconst 0, 1) := by decide +kernel
theorem dX9_plainOf_156 : decode cX9_plainOf 156 = .ok (.goto 12, 3) := by decide +kernel
theorem dX9_plainOf_159 : decode cX9_plainOf 159 = .ok (.aload_n 0, 1) := by decide +kernel
theorem dX9_plainOf_160 : decode cX9_plainOf 160 = .ok (.getfield 44, 3) := by decide +kernel
theorem dX9_plainOf_163 : decode cX9_plainOf 163 = .ok (.getfield 186, 3) := by decide +kernel
theorem dX9_plainOf_166 : decode cX9_plainOf 166 = .ok (.iload_n 3, 1) := by decide +kernel
theorem dX9_plainOf_167 : decode cX9_plainOf 167 = .ok (.iaload, 1) := by decide +kernel
theorem dX9_plainOf_168 : decode cX9_plainOf 168 = .ok (.ireturn, 1) := by decide +kernel
theorem dX9_plainOf_169 : decode cX9_plainOf 169 = .ok (.iconst 0, 1) := by decide +kernel
theorem dX9_plainOf_170 : decode cX9_plainOf 170 = .ok (.ireturn, 1) := by decide +kernel
theorem dX9_compared_0 : decode cX9_compared 0 = .ok (.aload_n 0, 1) := by decide +kernel
theorem dX9_compared_1 : decode cX9_compared 1 = .ok (.getfield 31, 3) := by decide +kernel
theorem dX9_compared_4 : decode cX9_compared 4 = .ok (.getfield 164, 3) := by decide +kernel
theorem dX9_compared_7 : decode cX9_compared 7 = .ok (.getfield 189, 3) := by decide +kernel
theorem dX9_compared_10 : decode cX9_compared 10 = .ok (.ireturn, 1) := by decide +kernel
theorem dX9_shot_0 : decode cX9_shot 0 = .ok (.iload 4, 2) := by decide +kernel
theorem dX9_shot_2 : decode cX9_shot 2 = .ok (.ifCond .lt 9, 3) := by decide +kernel
theorem dX9_shot_5 : decode cX9_shot 5 = .ok (.iload 4, 2) := by decide +kernel
theorem dX9_shot_7 : decode cX9_shot 7 = .ok (.iconst 1, 1) := by decide +kernel
theorem dX9_shot_8 : decode cX9_shot 8 = .ok (.if_icmp .le 5, 3) := by decide +kernel
theorem dX9_shot_11 : decode cX9_shot 11 = .ok (.iconst (-1), 1) := by decide +kernel
theorem dX9_shot_12 : decode cX9_shot 12 = .ok (.ireturn, 1) := by decide +kernel
theorem dX9_shot_13 : decode cX9_shot 13 = .ok (.aload_n 0, 1) := by decide +kernel
theorem dX9_shot_14 : decode cX9_shot 14 = .ok (.iload_n 1, 1) := by decide +kernel
theorem dX9_shot_15 : decode cX9_shot 15 = .ok (.iload_n 2, 1) := by decide +kernel
theorem dX9_shot_16 : decode cX9_shot 16 = .ok (.iload_n 3, 1) := by decide +kernel
theorem dX9_shot_17 : decode cX9_shot 17 = .ok (.invokevirtual 192, 3) := by decide +kernel
theorem dX9_shot_20 : decode cX9_shot 20 = .ok (.istore 5, 2) := by decide +kernel
theorem dX9_shot_22 : decode cX9_shot 22 = .ok (.iload 5, 2) := by decide +kernel
theorem dX9_shot_24 : decode cX9_shot 24 = .ok (.ifCond .lt 8, 3) := by decide +kernel
theorem dX9_shot_27 : decode cX9_shot 27 = .ok (.iload 4, 2) := by decide +kernel
theorem dX9_shot_29 : decode cX9_shot 29 = .ok (.ifCond .ne 8, 3) := by decide +kernel
theorem dX9_shot_32 : decode cX9_shot 32 = .ok (.iload 5, 2) := by decide +kernel
theorem dX9_shot_34 : decode cX9_shot 34 = .ok (.goto 15, 3) := by decide +kernel
theorem dX9_shot_37 : decode cX9_shot 37 = .ok (.aload_n 0, 1) := by decide +kernel
theorem dX9_shot_38 : decode cX9_shot 38 = .ok (.getfield 38, 3) := by decide +kernel
theorem dX9_shot_41 : decode cX9_shot 41 = .ok (.getfield 164, 3) := by decide +kernel
theorem dX9_shot_44 : decode cX9_shot 44 = .ok (.iconst 0, 1) := by decide +kernel
theorem dX9_shot_45 : decode cX9_shot 45 = .ok (.iconst 0, 1) := by decide +kernel
theorem dX9_shot_46 : decode cX9_shot 46 = .ok (.invokevirtual 168, 3) := by decide +kernel
theorem dX9_shot_49 : decode cX9_shot 49 = .ok (.ireturn, 1) := by decide +kernel
theorem dX9_matters_0 : decode cX9_matters 0 = .ok (.iload_n 1, 1) := by decide +kernel
theorem dX9_matters_1 : decode cX9_matters 1 = .ok (.ifCond .lt 8, 3) := by decide +kernel
theorem dX9_matters_4 : decode cX9_matters 4 = .ok (.iload_n 1, 1) := by decide +kernel
theorem dX9_matters_5 : decode cX9_matters 5 = .ok (.iconst 1, 1) := by decide +kernel
theorem dX9_matters_6 : decode cX9_matters 6 = .ok (.if_icmp .le 5, 3) := by decide +kernel
theorem dX9_matters_9 : decode cX9_matters 9 = .ok (.iconst (-1), 1) := by decide +kernel
theorem dX9_matters_10 : decode cX9_matters 10 = .ok (.ireturn, 1) := by decide +kernel
theorem dX9_matters_11 : decode cX9_matters 11 = .ok (.iconst 0, 1) := by decide +kernel
theorem dX9_matters_12 : decode cX9_matters 12 = .ok (.istore_n 2, 1) := by decide +kernel
theorem dX9_matters_13 : decode cX9_matters 13 = .ok (.iconst 0, 1) := by decide +kernel
theorem dX9_matters_14 : decode cX9_matters 14 = .ok (.istore_n 3, 1) := by decide +kernel
theorem dX9_matters_15 : decode cX9_matters 15 = .ok (.iload_n 3, 1) := by decide +kernel
theorem dX9_matters_16 : decode cX9_matters 16 = .ok (.sipush 256, 3) := by decide +kernel
theorem dX9_matters_19 : decode cX9_matters 19 = .ok (.if_icmp .ge 27, 3) := by decide +kernel
theorem dX9_matters_22 : decode cX9_matters 22 = .ok (.aload_n 0, 1) := by decide +kernel
theorem dX9_matters_23 : decode cX9_matters 23 = .ok (.iload_n 1, 1) := by decide +kernel
theorem dX9_matters_24 : decode cX9_matters 24 = .ok (.iload_n 3, 1) := by decide +kernel
theorem dX9_matters_25 : decode cX9_matters 25 = .ok (.iconst 5, 1) := by decide +kernel
theorem dX9_matters_26 : decode cX9_matters 26 = .ok (.ishr, 1) := by decide +kernel
theorem dX9_matters_27 : decode cX9_matters 27 = .ok (.iload_n 3, 1) := by decide +kernel
theorem dX9_matters_28 : decode cX9_matters 28 = .ok (.bipush 31, 2) := by decide +kernel
theorem dX9_matters_30 : decode cX9_matters 30 = .ok (.iand, 1) := by decide +kernel
theorem dX9_matters_31 : decode cX9_matters 31 = .ok (.invokevirtual 192, 3) := by decide +kernel
theorem dX9_matters_34 : decode cX9_matters 34 = .ok (.ifCond .le 6, 3) := by decide +kernel
theorem dX9_matters_37 : decode cX9_matters 37 = .ok (.iinc 2 1, 3) := by decide +kernel
theorem dX9_matters_40 : decode cX9_matters 40 = .ok (.iinc 3 1, 3) := by decide +kernel
theorem dX9_matters_43 : decode cX9_matters 43 = .ok (.goto (-28), 3) := by decide +kernel
theorem dX9_matters_46 : decode cX9_matters 46 = .ok (.iload_n 2, 1) := by decide +kernel
theorem dX9_matters_47 : decode cX9_matters 47 = .ok (.ireturn, 1) := by decide +kernel
theorem dX9_longBy_0 : decode cX9_longBy 0 = .ok (.iload_n 1, 1) := by decide +kernel
theorem dX9_longBy_1 : decode cX9_longBy 1 = .ok (.iconst 1, 1) := by decide +kernel
theorem dX9_longBy_2 : decode cX9_longBy 2 = .ok (.if_icmp .lt 9, 3) := by decide +kernel
theorem dX9_longBy_5 : decode cX9_longBy 5 = .ok (.iload_n 1, 1) := by decide +kernel
theorem dX9_longBy_6 : decode cX9_longBy 6 = .ok (.bipush 40, 2) := by decide +kernel
theorem dX9_longBy_8 : decode cX9_longBy 8 = .ok (.if_icmp .le 5, 3) := by decide +kernel
theorem dX9_longBy_11 : decode cX9_longBy 11 = .ok (.iconst (-1), 1) := by decide +kernel
theorem dX9_longBy_12 : decode cX9_longBy 12 = .ok (.ireturn, 1) := by decide +kernel
theorem dX9_longBy_13 : decode cX9_longBy 13 = .ok (.aload_n 0, 1) := by decide +kernel
theorem dX9_longBy_14 : decode cX9_longBy 14 = .ok (.iconst 0, 1) := by decide +kernel
theorem dX9_longBy_15 : decode cX9_longBy 15 = .ok (.iload_n 1, 1) := by decide +kernel
theorem dX9_longBy_16 : decode cX9_longBy 16 = .ok (.iconst 0, 1) := by decide +kernel
theorem dX9_longBy_17 : decode cX9_longBy 17 = .ok (.invokevirtual 196, 3) := by decide +kernel
theorem dX9_longBy_20 : decode cX9_longBy 20 = .ok (.ireturn, 1) := by decide +kernel
theorem dX9_longWith_0 : decode cX9_longWith 0 = .ok (.iload_n 1, 1) := by decide +kernel
theorem dX9_longWith_1 : decode cX9_longWith 1 = .ok (.iconst 1, 1) := by decide +kernel
theorem dX9_longWith_2 : decode cX9_longWith 2 = .ok (.if_icmp .lt 21, 3) := by decide +kernel
theorem dX9_longWith_5 : decode cX9_longWith 5 = .ok (.iload_n 1, 1) := by decide +kernel
theorem dX9_longWith_6 : decode cX9_longWith 6 = .ok (.bipush 40, 2) := by decide +kernel
theorem dX9_longWith_8 : decode cX9_longWith 8 = .ok (.if_icmp .gt 15, 3) := by decide +kernel
theorem dX9_longWith_11 : decode cX9_longWith 11 = .ok (.iload_n 2, 1) := by decide +kernel
theorem dX9_longWith_12 : decode cX9_longWith 12 = .ok (.iconst 1, 1) := by decide +kernel
theorem dX9_longWith_13 : decode cX9_longWith 13 = .ok (.if_icmp .lt 10, 3) := by decide +kernel
theorem dX9_longWith_16 : decode cX9_longWith 16 = .ok (.iload_n 2, 1) := by decide +kernel
theorem dX9_longWith_17 : decode cX9_longWith 17 = .ok (.sipush 200, 3) := by decide +kernel
theorem dX9_longWith_20 : decode cX9_longWith 20 = .ok (.if_icmp .le 5, 3) := by decide +kernel
theorem dX9_longWith_23 : decode cX9_longWith 23 = .ok (.iconst (-1), 1) := by decide +kernel
theorem dX9_longWith_24 : decode cX9_longWith 24 = .ok (.ireturn, 1) := by decide +kernel
theorem dX9_longWith_25 : decode cX9_longWith 25 = .ok (.aload_n 0, 1) := by decide +kernel
theorem dX9_longWith_26 : decode cX9_longWith 26 = .ok (.iconst 0, 1) := by decide +kernel
theorem dX9_longWith_27 : decode cX9_longWith 27 = .ok (.iload_n 1, 1) := by decide +kernel
theorem dX9_longWith_28 : decode cX9_longWith 28 = .ok (.iload_n 2, 1) := by decide +kernel
theorem dX9_longWith_29 : decode cX9_longWith 29 = .ok (.invokevirtual 196, 3) := by decide +kernel
theorem dX9_longWith_32 : decode cX9_longWith 32 = .ok (.ireturn, 1) := by decide +kernel
theorem dX9_need_0 : decode cX9_need 0 = .ok (.iload_n 1, 1) := by decide +kernel
theorem dX9_need_1 : decode cX9_need 1 = .ok (.ifCond .lt 8, 3) := by decide +kernel
theorem dX9_need_4 : decode cX9_need 4 = .ok (.iload_n 1, 1) := by decide +kernel
theorem dX9_need_5 : decode cX9_need 5 = .ok (.iconst 2, 1) := by decide +kernel
theorem dX9_need_6 : decode cX9_need 6 = .ok (.if_icmp .le 5, 3) := by decide +kernel
theorem dX9_need_9 : decode cX9_need 9 = .ok (.iconst (-1), 1) := by decide +kernel
theorem dX9_need_10 : decode cX9_need 10 = .ok (.ireturn, 1) := by decide +kernel
theorem dX9_need_11 : decode cX9_need 11 = .ok (.aload_n 0, 1) := by decide +kernel
theorem dX9_need_12 : decode cX9_need 12 = .ok (.iconst 3, 1) := by decide +kernel
theorem dX9_need_13 : decode cX9_need 13 = .ok (.iload_n 1, 1) := by decide +kernel
theorem dX9_need_14 : decode cX9_need 14 = .ok (.iadd, 1) := by decide +kernel
theorem dX9_need_15 : decode cX9_need 15 = .ok (.bipush 8, 2) := by decide +kernel
theorem dX9_need_17 : decode cX9_need 17 = .ok (.iconst 0, 1) := by decide +kernel
theorem dX9_need_18 : decode cX9_need 18 = .ok (.invokevirtual 196, 3) := by decide +kernel
theorem dX9_need_21 : decode cX9_need 21 = .ok (.istore_n 2, 1) := by decide +kernel
theorem dX9_need_22 : decode cX9_need 22 = .ok (.iload_n 2, 1) := by decide +kernel
theorem dX9_need_23 : decode cX9_need 23 = .ok (.bipush (-2), 2) := by decide +kernel
theorem dX9_need_25 : decode cX9_need 25 = .ok (.if_icmp .ne 6, 3) := by decide +kernel
theorem dX9_need_28 : decode cX9_need 28 = .ok (.bipush (-2), 2) := by decide +kernel
theorem dX9_need_30 : decode cX9_need 30 = .ok (.ireturn, 1) := by decide +kernel
theorem dX9_need_31 : decode cX9_need 31 = .ok (.iconst 1, 1) := by decide +kernel
theorem dX9_need_32 : decode cX9_need 32 = .ok (.istore_n 3, 1) := by decide +kernel
theorem dX9_need_33 : decode cX9_need 33 = .ok (.iload_n 3, 1) := by decide +kernel
theorem dX9_need_34 : decode cX9_need 34 = .ok (.bipush 8, 2) := by decide +kernel
theorem dX9_need_36 : decode cX9_need 36 = .ok (.if_icmp .ge 35, 3) := by decide +kernel
theorem dX9_need_39 : decode cX9_need 39 = .ok (.aload_n 0, 1) := by decide +kernel
theorem dX9_need_40 : decode cX9_need 40 = .ok (.iconst 3, 1) := by decide +kernel
theorem dX9_need_41 : decode cX9_need 41 = .ok (.iload_n 1, 1) := by decide +kernel
theorem dX9_need_42 : decode cX9_need 42 = .ok (.iadd, 1) := by decide +kernel
theorem dX9_need_43 : decode cX9_need 43 = .ok (.iload_n 3, 1) := by decide +kernel
theorem dX9_need_44 : decode cX9_need 44 = .ok (.iconst 0, 1) := by decide +kernel
theorem dX9_need_45 : decode cX9_need 45 = .ok (.invokevirtual 196, 3) := by decide +kernel
theorem dX9_need_48 : decode cX9_need 48 = .ok (.istore 4, 2) := by decide +kernel
theorem dX9_need_50 : decode cX9_need 50 = .ok (.iload 4, 2) := by decide +kernel
theorem dX9_need_52 : decode cX9_need 52 = .ok (.bipush (-2), 2) := by decide +kernel
theorem dX9_need_54 : decode cX9_need 54 = .ok (.if_icmp .eq 11, 3) := by decide +kernel
theorem dX9_need_57 : decode cX9_need 57 = .ok (.iload 4, 2) := by decide +kernel
theorem dX9_need_59 : decode cX9_need 59 = .ok (.iload_n 2, 1) := by decide +kernel
theorem dX9_need_60 : decode cX9_need 60 = .ok (.if_icmp .gt 5, 3) := by decide +kernel
theorem dX9_need_63 : decode cX9_need 63 = .ok (.iload_n 3, 1) := by decide +kernel
theorem dX9_need_64 : decode cX9_need 64 = .ok (.ireturn, 1) := by decide +kernel
theorem dX9_need_65 : decode cX9_need 65 = .ok (.iinc 3 1, 3) := by decide +kernel
theorem dX9_need_68 : decode cX9_need 68 = .ok (.goto (-35), 3) := by decide +kernel
theorem dX9_need_71 : decode cX9_need 71 = .ok (.iload_n 3, 1) := by decide +kernel
theorem dX9_need_72 : decode cX9_need 72 = .ok (.ireturn, 1) := by decide +kernel
theorem dX9_bestSpan_0 : decode cX9_bestSpan 0 = .ok (.iload_n 1, 1) := by decide +kernel
theorem dX9_bestSpan_1 : decode cX9_bestSpan 1 = .ok (.iconst 1, 1) := by decide +kernel
theorem dX9_bestSpan_2 : decode cX9_bestSpan 2 = .ok (.if_icmp .lt 10, 3) := by decide +kernel
theorem dX9_bestSpan_5 : decode cX9_bestSpan 5 = .ok (.iload_n 1, 1) := by decide +kernel
theorem dX9_bestSpan_6 : decode cX9_bestSpan 6 = .ok (.sipush 200, 3) := by decide +kernel
theorem dX9_bestSpan_9 : decode cX9_bestSpan 9 = .ok (.if_icmp .le 5, 3) := by decide +kernel
theorem dX9_bestSpan_12 : decode cX9_bestSpan 12 = .ok (.iconst (-1), 1) := by decide +kernel
theorem dX9_bestSpan_13 : decode cX9_bestSpan 13 = .ok (.ireturn, 1) := by decide +kernel
theorem dX9_bestSpan_14 : decode cX9_bestSpan 14 = .ok (.bipush (-2), 2) := by decide +kernel
theorem dX9_bestSpan_16 : decode cX9_bestSpan 16 = .ok (.istore_n 2, 1) := by decide +kernel
theorem dX9_bestSpan_17 : decode cX9_bestSpan 17 = .ok (.sipush 1000, 3) := by decide +kernel
theorem dX9_bestSpan_20 : decode cX9_bestSpan 20 = .ok (.istore_n 3, 1) := by decide +kernel
theorem dX9_bestSpan_21 : decode cX9_bestSpan 21 = .ok (.iconst 1, 1) := by decide +kernel
theorem dX9_bestSpan_22 : decode cX9_bestSpan 22 = .ok (.istore 4, 2) := by decide +kernel
theorem dX9_bestSpan_24 : decode cX9_bestSpan 24 = .ok (.iload 4, 2) := by decide +kernel
theorem dX9_bestSpan_26 : decode cX9_bestSpan 26 = .ok (.bipush 40, 2) := by decide +kernel
theorem dX9_bestSpan_28 : decode cX9_bestSpan 28 = .ok (.if_icmp .gt 38, 3) := by decide +kernel
theorem dX9_bestSpan_31 : decode cX9_bestSpan 31 = .ok (.aload_n 0, 1) := by decide +kernel
theorem dX9_bestSpan_32 : decode cX9_bestSpan 32 = .ok (.iconst 0, 1) := by decide +kernel
theorem dX9_bestSpan_33 : decode cX9_bestSpan 33 = .ok (.iload 4, 2) := by decide +kernel
theorem dX9_bestSpan_35 : decode cX9_bestSpan 35 = .ok (.iload_n 1, 1) := by decide +kernel
theorem dX9_bestSpan_36 : decode cX9_bestSpan 36 = .ok (.invokevirtual 196, 3) := by decide +kernel
theorem dX9_bestSpan_39 : decode cX9_bestSpan 39 = .ok (.istore 5, 2) := by decide +kernel
theorem dX9_bestSpan_41 : decode cX9_bestSpan 41 = .ok (.iload 5, 2) := by decide +kernel
theorem dX9_bestSpan_43 : decode cX9_bestSpan 43 = .ok (.bipush (-2), 2) := by decide +kernel
theorem dX9_bestSpan_45 : decode cX9_bestSpan 45 = .ok (.if_icmp .eq 15, 3) := by decide +kernel
theorem dX9_bestSpan_48 : decode cX9_bestSpan 48 = .ok (.iload 5, 2) := by decide +kernel
theorem dX9_bestSpan_50 : decode cX9_bestSpan 50 = .ok (.iload_n 3, 1) := by decide +kernel
theorem dX9_bestSpan_51 : decode cX9_bestSpan 51 = .ok (.if_icmp .ge 9, 3) := by decide +kernel
theorem dX9_bestSpan_54 : decode cX9_bestSpan 54 = .ok (.iload 5, 2) := by decide +kernel
theorem dX9_bestSpan_56 : decode cX9_bestSpan 56 = .ok (.istore_n 3, 1) := by decide +kernel
theorem dX9_bestSpan_57 : decode cX9_bestSpan 57 = .ok (.iload 4, 2) := by decide +kernel
theorem dX9_bestSpan_59 : decode cX9_bestSpan 59 = .ok (.istore_n 2, 1) := by decide +kernel
theorem dX9_bestSpan_60 : decode cX9_bestSpan 60 = .ok (.iinc 4 1, 3) := by decide +kernel
theorem dX9_bestSpan_63 : decode cX9_bestSpan 63 = .ok (.goto (-39), 3) := by decide +kernel
theorem dX9_bestSpan_66 : decode cX9_bestSpan 66 = .ok (.iload_n 2, 1) := by decide +kernel
theorem dX9_bestSpan_67 : decode cX9_bestSpan 67 = .ok (.ireturn, 1) := by decide +kernel
theorem dX9_slowest_0 : decode cX9_slowest 0 = .ok (.iload_n 1, 1) := by decide +kernel
theorem dX9_slowest_1 : decode cX9_slowest 1 = .ok (.ifCond .lt 8, 3) := by decide +kernel
theorem dX9_slowest_4 : decode cX9_slowest 4 = .ok (.iload_n 1, 1) := by decide +kernel
theorem dX9_slowest_5 : decode cX9_slowest 5 = .ok (.iconst 1, 1) := by decide +kernel
theorem dX9_slowest_6 : decode cX9_slowest 6 = .ok (.if_icmp .le 5, 3) := by decide +kernel
theorem dX9_slowest_9 : decode cX9_slowest 9 = .ok (.iconst (-1), 1) := by decide +kernel
theorem dX9_slowest_10 : decode cX9_slowest 10 = .ok (.ireturn, 1) := by decide +kernel
theorem dX9_slowest_11 : decode cX9_slowest 11 = .ok (.bipush (-2), 2) := by decide +kernel
theorem dX9_slowest_13 : decode cX9_slowest 13 = .ok (.istore_n 2, 1) := by decide +kernel
theorem dX9_slowest_14 : decode cX9_slowest 14 = .ok (.iconst 0, 1) := by decide +kernel
theorem dX9_slowest_15 : decode cX9_slowest 15 = .ok (.istore_n 3, 1) := by decide +kernel
theorem dX9_slowest_16 : decode cX9_slowest 16 = .ok (.iload_n 3, 1) := by decide +kernel
theorem dX9_slowest_17 : decode cX9_slowest 17 = .ok (.sipush 256, 3) := by decide +kernel
theorem dX9_slowest_20 : decode cX9_slowest 20 = .ok (.if_icmp .ge 26, 3) := by decide +kernel
theorem dX9_slowest_23 : decode cX9_slowest 23 = .ok (.iload_n 2, 1) := by decide +kernel
theorem dX9_slowest_24 : decode cX9_slowest 24 = .ok (.aload_n 0, 1) := by decide +kernel
theorem dX9_slowest_25 : decode cX9_slowest 25 = .ok (.iload_n 1, 1) := by decide +kernel
theorem dX9_slowest_26 : decode cX9_slowest 26 = .ok (.iload_n 3, 1) := by decide +kernel
theorem dX9_slowest_27 : decode cX9_slowest 27 = .ok (.iconst 5, 1) := by decide +kernel
theorem dX9_slowest_28 : decode cX9_slowest 28 = .ok (.ishr, 1) := by decide +kernel
theorem dX9_slowest_29 : decode cX9_slowest 29 = .ok (.iload_n 3, 1) := by decide +kernel
theorem dX9_slowest_30 : decode cX9_slowest 30 = .ok (.bipush 31, 2) := by decide +kernel
theorem dX9_slowest_32 : decode cX9_slowest 32 = .ok (.iand, 1) := by decide +kernel
theorem dX9_slowest_33 : decode cX9_slowest 33 = .ok (.invokevirtual 192, 3) := by decide +kernel
theorem dX9_slowest_36 : decode cX9_slowest 36 = .ok (.invokestatic 199, 3) := by decide +kernel
theorem dX9_slowest_39 : decode cX9_slowest 39 = .ok (.istore_n 2, 1) := by decide +kernel
theorem dX9_slowest_40 : decode cX9_slowest 40 = .ok (.iinc 3 1, 3) := by decide +kernel
theorem dX9_slowest_43 : decode cX9_slowest 43 = .ok (.goto (-27), 3) := by decide +kernel
theorem dX9_slowest_46 : decode cX9_slowest 46 = .ok (.iload_n 2, 1) := by decide +kernel
theorem dX9_slowest_47 : decode cX9_slowest 47 = .ok (.ireturn, 1) := by decide +kernel
theorem dX9_stick_0 : decode cX9_stick 0 = .ok (.iload_n 1, 1) := by decide +kernel
theorem dX9_stick_1 : decode cX9_stick 1 = .ok (.ifCond .lt 28, 3) := by decide +kernel
theorem dX9_stick_4 : decode cX9_stick 4 = .ok (.iload_n 1, 1) := by decide +kernel
theorem dX9_stick_5 : decode cX9_stick 5 = .ok (.iconst 1, 1) := by decide +kernel
theorem dX9_stick_6 : decode cX9_stick 6 = .ok (.if_icmp .gt 23, 3) := by decide +kernel
theorem dX9_stick_9 : decode cX9_stick 9 = .ok (.iload_n 2, 1) := by decide +kernel
theorem dX9_stick_10 : decode cX9_stick 10 = .ok (.ifCond .lt 19, 3) := by decide +kernel
theorem dX9_stick_13 : decode cX9_stick 13 = .ok (.iload_n 2, 1) := by decide +kernel
theorem dX9_stick_14 : decode cX9_stick 14 = .ok (.bipush 7, 2) := by decide +kernel
theorem dX9_stick_16 : decode cX9_stick 16 = .ok (.if_icmp .gt 13, 3) := by decide +kernel
theorem dX9_stick_19 : decode cX9_stick 19 = .ok (.iload_n 3, 1) := by decide +kernel
theorem dX9_stick_20 : decode cX9_stick 20 = .ok (.ifCond .lt 9, 3) := by decide +kernel
theorem dX9_stick_23 : decode cX9_stick 23 = .ok (.iload_n 3, 1) := by decide +kernel
theorem dX9_stick_24 : decode cX9_stick 24 = .ok (.bipush 31, 2) := by decide +kernel
theorem dX9_stick_26 : decode cX9_stick 26 = .ok (.if_icmp .le 5, 3) := by decide +kernel
theorem dX9_stick_29 : decode cX9_stick 29 = .ok (.iconst 0, 1) := by decide +kernel
theorem dX9_stick_30 : decode cX9_stick 30 = .ok (.ireturn, 1) := by decide +kernel
theorem dX9_stick_31 : decode cX9_stick 31 = .ok (.aload_n 0, 1) := by decide +kernel
theorem dX9_stick_32 : decode cX9_stick 32 = .ok (.getfield 31, 3) := by decide +kernel
theorem dX9_stick_35 : decode cX9_stick 35 = .ok (.iload_n 1, 1) := by decide +kernel
theorem dX9_stick_36 : decode cX9_stick 36 = .ok (.invokevirtual 99, 3) := by decide +kernel
theorem dX9_stick_39 : decode cX9_stick 39 = .ok (.iload_n 2, 1) := by decide +kernel
theorem dX9_stick_40 : decode cX9_stick 40 = .ok (.iload_n 3, 1) := by decide +kernel
theorem dX9_stick_41 : decode cX9_stick 41 = .ok (.iload 4, 2) := by decide +kernel
theorem dX9_stick_43 : decode cX9_stick 43 = .ok (.invokevirtual 204, 3) := by decide +kernel
theorem dX9_stick_46 : decode cX9_stick 46 = .ok (.iconst 1, 1) := by decide +kernel
theorem dX9_stick_47 : decode cX9_stick 47 = .ok (.ireturn, 1) := by decide +kernel
theorem dX9_loose_0 : decode cX9_loose 0 = .ok (.aload_n 0, 1) := by decide +kernel
theorem dX9_loose_1 : decode cX9_loose 1 = .ok (.getfield 31, 3) := by decide +kernel
theorem dX9_loose_4 : decode cX9_loose 4 = .ok (.invokevirtual 208, 3) := by decide +kernel
theorem dX9_loose_7 : decode cX9_loose 7 = .ok (.istore_n 1, 1) := by decide +kernel
theorem dX9_loose_8 : decode cX9_loose 8 = .ok (.aload_n 0, 1) := by decide +kernel
theorem dX9_loose_9 : decode cX9_loose 9 = .ok (.getfield 31, 3) := by decide +kernel
theorem dX9_loose_12 : decode cX9_loose 12 = .ok (.getfield 211, 3) := by decide +kernel
theorem dX9_loose_15 : decode cX9_loose 15 = .ok (.invokevirtual 214, 3) := by decide +kernel
theorem dX9_loose_18 : decode cX9_loose 18 = .ok (.aload_n 0, 1) := by decide +kernel
theorem dX9_loose_19 : decode cX9_loose 19 = .ok (.getfield 31, 3) := by decide +kernel
theorem dX9_loose_22 : decode cX9_loose 22 = .ok (.getfield 217, 3) := by decide +kernel
theorem dX9_loose_25 : decode cX9_loose 25 = .ok (.invokevirtual 214, 3) := by decide +kernel
theorem dX9_loose_28 : decode cX9_loose 28 = .ok (.iload_n 1, 1) := by decide +kernel
theorem dX9_loose_29 : decode cX9_loose 29 = .ok (.ireturn, 1) := by decide +kernel
theorem dX9_strays_0 : decode cX9_strays 0 = .ok (.iload_n 1, 1) := by decide +kernel
theorem dX9_strays_1 : decode cX9_strays 1 = .ok (.ifCond .lt 8, 3) := by decide +kernel
theorem dX9_strays_4 : decode cX9_strays 4 = .ok (.iload_n 1, 1) := by decide +kernel
theorem dX9_strays_5 : decode cX9_strays 5 = .ok (.iconst 1, 1) := by decide +kernel
theorem dX9_strays_6 : decode cX9_strays 6 = .ok (.if_icmp .le 5, 3) := by decide +kernel
theorem dX9_strays_9 : decode cX9_strays 9 = .ok (.iconst (-1), 1) := by decide +kernel
theorem dX9_strays_10 : decode cX9_strays 10 = .ok (.ireturn, 1) := by decide +kernel
theorem dX9_strays_11 : decode cX9_strays 11 = .ok (.aload_n 0, 1) := by decide +kernel
theorem dX9_strays_12 : decode cX9_strays 12 = .ok (.getfield 31, 3) := by decide +kernel
theorem dX9_strays_15 : decode cX9_strays 15 = .ok (.iload_n 1, 1) := by decide +kernel
theorem dX9_strays_16 : decode cX9_strays 16 = .ok (.invokevirtual 99, 3) := by decide +kernel
theorem dX9_strays_19 : decode cX9_strays 19 = .ok (.astore_n 2, 1) := by decide +kernel
theorem dX9_strays_20 : decode cX9_strays 20 = .ok (.aload_n 0, 1) := by decide +kernel
theorem dX9_strays_21 : decode cX9_strays 21 = .ok (.getfield 44, 3) := by decide +kernel
theorem dX9_strays_24 : decode cX9_strays 24 = .ok (.aload_n 0, 1) := by decide +kernel
theorem dX9_strays_25 : decode cX9_strays 25 = .ok (.getfield 31, 3) := by decide +kernel
theorem dX9_strays_28 : decode cX9_strays 28 = .ok (.getfield 220, 3) := by decide +kernel
theorem dX9_strays_31 : decode cX9_strays 31 = .ok (.aload_n 0, 1) := by decide +kernel
theorem dX9_strays_32 : decode cX9_strays 32 = .ok (.getfield 31, 3) := by decide +kernel
theorem dX9_strays_35 : decode cX9_strays 35 = .ok (.getfield 133, 3) := by decide +kernel
theorem dX9_strays_38 : decode cX9_strays 38 = .ok (.getfield 137, 3) := by decide +kernel
theorem dX9_strays_41 : decode cX9_strays 41 = .ok (.invokevirtual 223, 3) := by decide +kernel
theorem dX9_strays_44 : decode cX9_strays 44 = .ok (.aload_n 0, 1) := by decide +kernel
theorem dX9_strays_45 : decode cX9_strays 45 = .ok (.getfield 44, 3) := by decide +kernel
theorem dX9_strays_48 : decode cX9_strays 48 = .ok (.aload_n 0, 1) := by decide +kernel
theorem dX9_strays_49 : decode cX9_strays 49 = .ok (.getfield 19, 3) := by decide +kernel
theorem dX9_strays_52 : decode cX9_strays 52 = .ok (.aload_n 2, 1) := by decide +kernel
theorem dX9_strays_53 : decode cX9_strays 53 = .ok (.getfield 108, 3) := by decide +kernel
theorem dX9_strays_56 : decode cX9_strays 56 = .ok (.invokevirtual 176, 3) := by decide +kernel
theorem dX9_strays_59 : decode cX9_strays 59 = .ok (.aload_n 2, 1) := by decide +kernel
theorem dX9_strays_60 : decode cX9_strays 60 = .ok (.aload_n 0, 1) := by decide +kernel
theorem dX9_strays_61 : decode cX9_strays 61 = .ok (.getfield 44, 3) := by decide +kernel
theorem dX9_strays_64 : decode cX9_strays 64 = .ok (.getfield 179, 3) := by decide +kernel
theorem dX9_strays_67 : decode cX9_strays 67 = .ok (.invokevirtual 227, 3) := by decide +kernel
theorem dX9_strays_70 : decode cX9_strays 70 = .ok (.ireturn, 1) := by decide +kernel
theorem dX9_mean_0 : decode cX9_mean 0 = .ok (.aload_n 0, 1) := by decide +kernel
theorem dX9_mean_1 : decode cX9_mean 1 = .ok (.getfield 31, 3) := by decide +kernel
theorem dX9_mean_4 : decode cX9_mean 4 = .ok (.getfield 164, 3) := by decide +kernel
theorem dX9_mean_7 : decode cX9_mean 7 = .ok (.getfield 231, 3) := by decide +kernel
theorem dX9_mean_10 : decode cX9_mean 10 = .ok (.ifCond .ne 6, 3) := by decide +kernel
theorem dX9_mean_13 : decode cX9_mean 13 = .ok (.bipush (-2), 2) := by decide +kernel
theorem dX9_mean_15 : decode cX9_mean 15 = .ok (.ireturn, 1) := by decide +kernel
theorem dX9_mean_16 : decode cX9_mean 16 = .ok (.aload_n 0, 1) := by decide +kernel
theorem dX9_mean_17 : decode cX9_mean 17 = .ok (.getfield 31, 3) := by decide +kernel
theorem dX9_mean_20 : decode cX9_mean 20 = .ok (.getfield 164, 3) := by decide +kernel
theorem dX9_mean_23 : decode cX9_mean 23 = .ok (.getfield 234, 3) := by decide +kernel
theorem dX9_mean_26 : decode cX9_mean 26 = .ok (.invokestatic 237, 3) := by decide +kernel
theorem dX9_mean_29 : decode cX9_mean 29 = .ok (.aload_n 0, 1) := by decide +kernel
theorem dX9_mean_30 : decode cX9_mean 30 = .ok (.getfield 31, 3) := by decide +kernel
theorem dX9_mean_33 : decode cX9_mean 33 = .ok (.getfield 164, 3) := by decide +kernel
theorem dX9_mean_36 : decode cX9_mean 36 = .ok (.getfield 231, 3) := by decide +kernel
theorem dX9_mean_39 : decode cX9_mean 39 = .ok (.invokestatic 237, 3) := by decide +kernel
theorem dX9_mean_42 : decode cX9_mean 42 = .ok (.invokestatic 242, 3) := by decide +kernel
theorem dX9_mean_45 : decode cX9_mean 45 = .ok (.ireturn, 1) := by decide +kernel
theorem dX9_left_0 : decode cX9_left 0 = .ok (.aload_n 0, 1) := by decide +kernel
theorem dX9_left_1 : decode cX9_left 1 = .ok (.getfield 31, 3) := by decide +kernel
theorem dX9_left_4 : decode cX9_left 4 = .ok (.getfield 133, 3) := by decide +kernel
theorem dX9_left_7 : decode cX9_left 7 = .ok (.iload_n 1, 1) := by decide +kernel
theorem dX9_left_8 : decode cX9_left 8 = .ok (.iload_n 2, 1) := by decide +kernel
theorem dX9_left_9 : decode cX9_left 9 = .ok (.invokevirtual 245, 3) := by decide +kernel
theorem dX9_left_12 : decode cX9_left 12 = .ok (.ireturn, 1) := by decide +kernel
theorem dX9_takes_0 : decode cX9_takes 0 = .ok (.aload_n 0, 1) := by decide +kernel
theorem dX9_takes_1 : decode cX9_takes 1 = .ok (.getfield 31, 3) := by decide +kernel
theorem dX9_takes_4 : decode cX9_takes 4 = .ok (.getfield 133, 3) := by decide +kernel
theorem dX9_takes_7 : decode cX9_takes 7 = .ok (.invokevirtual 248, 3) := by decide +kernel
theorem dX9_takes_10 : decode cX9_takes 10 = .ok (.aload_n 0, 1) := by decide +kernel
theorem dX9_takes_11 : decode cX9_takes 11 = .ok (.getfield 31, 3) := by decide +kernel
theorem dX9_takes_14 : decode cX9_takes 14 = .ok (.getfield 133, 3) := by decide +kernel
theorem dX9_takes_17 : decode cX9_takes 17 = .ok (.getfield 251, 3) := by decide +kernel
theorem dX9_takes_20 : decode cX9_takes 20 = .ok (.ifCond .le 8, 3) := by decide +kernel
theorem dX9_takes_23 : decode cX9_takes 23 = .ok (.bipush 12, 2) := by decide +kernel
theorem dX9_takes_25 : decode cX9_takes 25 = .ok (.goto 5, 3) := by decide +kernel
theorem dX9_takes_28 : decode cX9_takes 28 = .ok (.bipush 8, 2) := by decide +kernel
theorem dX9_takes_30 : decode cX9_takes 30 = .ok (.imul, 1) := by decide +kernel
theorem dX9_takes_31 : decode cX9_takes 31 = .ok (.ireturn, 1) := by decide +kernel
theorem dX9_chance_0 : decode cX9_chance 0 = .ok (.iload_n 1, 1) := by decide +kernel
theorem dX9_chance_1 : decode cX9_chance 1 = .ok (.iconst (-1), 1) := by decide +kernel
theorem dX9_chance_2 : decode cX9_chance 2 = .ok (.if_icmp .lt 22, 3) := by decide +kernel
theorem dX9_chance_5 : decode cX9_chance 5 = .ok (.iload_n 2, 1) := by decide +kernel
theorem dX9_chance_6 : decode cX9_chance 6 = .ok (.iconst 1, 1) := by decide +kernel
theorem dX9_chance_7 : decode cX9_chance 7 = .ok (.if_icmp .lt 17, 3) := by decide +kernel
theorem dX9_chance_10 : decode cX9_chance 10 = .ok (.iload_n 2, 1) := by decide +kernel
theorem dX9_chance_11 : decode cX9_chance 11 = .ok (.iconst 5, 1) := by decide +kernel
theorem dX9_chance_12 : decode cX9_chance 12 = .ok (.if_icmp .gt 12, 3) := by decide +kernel
theorem dX9_chance_15 : decode cX9_chance 15 = .ok (.iload_n 3, 1) := by decide +kernel
theorem dX9_chance_16 : decode cX9_chance 16 = .ok (.ifCond .lt 8, 3) := by decide +kernel
theorem dX9_chance_19 : decode cX9_chance 19 = .ok (.iload_n 3, 1) := by decide +kernel
theorem dX9_chance_20 : decode cX9_chance 20 = .ok (.iconst 2, 1) := by decide +kernel
theorem dX9_chance_21 : decode cX9_chance 21 = .ok (.if_icmp .le 5, 3) := by decide +kernel
theorem dX9_chance_24 : decode cX9_chance 24 = .ok (.iconst (-1), 1) := by decide +kernel
theorem dX9_chance_25 : decode cX9_chance 25 = .ok (.ireturn, 1) := by decide +kernel
theorem dX9_chance_26 : decode cX9_chance 26 = .ok (.iload_n 1, 1) := by decide +kernel
theorem dX9_chance_27 : decode cX9_chance 27 = .ok (.iconst (-1), 1) := by decide +kernel
theorem dX9_chance_28 : decode cX9_chance 28 = .ok (.if_icmp .ne 16, 3) := by decide +kernel
theorem dX9_chance_31 : decode cX9_chance 31 = .ok (.aload_n 0, 1) := by decide +kernel
theorem dX9_chance_32 : decode cX9_chance 32 = .ok (.getfield 19, 3) := by decide +kernel
theorem dX9_chance_35 : decode cX9_chance 35 = .ok (.getfield 252, 3) := by decide +kernel
theorem dX9_chance_38 : decode cX9_chance 38 = .ok (.bipush 7, 2) := by decide +kernel
theorem dX9_chance_40 : decode cX9_chance 40 = .ok (.iaload, 1) := by decide +kernel
theorem dX9_chance_41 : decode cX9_chance 41 = .ok (.goto 4, 3) := by decide +kernel
theorem dX9_chance_44 : decode cX9_chance 44 = .ok (.iload_n 1, 1) := by decide +kernel
theorem dX9_chance_45 : decode cX9_chance 45 = .ok (.istore 4, 2) := by decide +kernel
theorem dX9_chance_47 : decode cX9_chance 47 = .ok (.iconst 0, 1) := by decide +kernel
theorem dX9_chance_48 : decode cX9_chance 48 = .ok (.istore 5, 2) := by decide +kernel
theorem dX9_chance_50 : decode cX9_chance 50 = .ok (.iconst 0, 1) := by decide +kernel
theorem dX9_chance_51 : decode cX9_chance 51 = .ok (.istore 6, 2) := by decide +kernel
theorem dX9_chance_53 : decode cX9_chance 53 = .ok (.iconst 0, 1) := by decide +kernel
theorem dX9_chance_54 : decode cX9_chance 54 = .ok (.istore 7, 2) := by decide +kernel
theorem dX9_chance_56 : decode cX9_chance 56 = .ok (.iconst 0, 1) := by decide +kernel
theorem dX9_chance_57 : decode cX9_chance 57 = .ok (.istore 8, 2) := by decide +kernel
theorem dX9_chance_59 : decode cX9_chance 59 = .ok (.iload 8, 2) := by decide +kernel
theorem dX9_chance_61 : decode cX9_chance 61 = .ok (.iload_n 2, 1) := by decide +kernel
theorem dX9_chance_62 : decode cX9_chance 62 = .ok (.if_icmp .ge 75, 3) := by decide +kernel
theorem dX9_chance_65 : decode cX9_chance 65 = .ok (.aload_n 0, 1) := by decide +kernel
theorem dX9_chance_66 : decode cX9_chance 66 = .ok (.iload 4, 2) := by decide +kernel
theorem dX9_chance_68 : decode cX9_chance 68 = .ok (.invokevirtual 255, 3) := by decide +kernel
theorem dX9_chance_71 : decode cX9_chance 71 = .ok (.istore 4, 2) := by decide +kernel
theorem dX9_chance_73 : decode cX9_chance 73 = .ok (.iload 7, 2) := by decide +kernel
theorem dX9_chance_75 : decode cX9_chance 75 = .ok (.aload_n 0, 1) := by decide +kernel
theorem dX9_chance_76 : decode cX9_chance 76 = .ok (.getfield 38, 3) := by decide +kernel
theorem dX9_chance_79 : decode cX9_chance 79 = .ok (.getfield 164, 3) := by decide +kernel
theorem dX9_chance_82 : decode cX9_chance 82 = .ok (.getfield 258, 3) := by decide +kernel
theorem dX9_chance_85 : decode cX9_chance 85 = .ok (.iadd, 1) := by decide +kernel
theorem dX9_chance_86 : decode cX9_chance 86 = .ok (.istore 7, 2) := by decide +kernel
theorem dX9_chance_88 : decode cX9_chance 88 = .ok (.iload 5, 2) := by decide +kernel
theorem dX9_chance_90 : decode cX9_chance 90 = .ok (.aload_n 0, 1) := by decide +kernel
theorem dX9_chance_91 : decode cX9_chance 91 = .ok (.getfield 38, 3) := by decide +kernel
theorem dX9_chance_94 : decode cX9_chance 94 = .ok (.getfield 164, 3) := by decide +kernel
theorem dX9_chance_97 : decode cX9_chance 97 = .ok (.getfield 258, 3) := by decide +kernel
theorem dX9_chance_100 : decode cX9_chance 100 = .ok (.ifCond .le 7, 3) := by decide +kernel
theorem dX9_chance_103 : decode cX9_chance 103 = .ok (.iconst 1, 1) := by decide +kernel
theorem dX9_chance_104 : decode cX9_chance 104 = .ok (.goto 4, 3) := by decide +kernel
theorem dX9_chance_107 : decode cX9_chance 107 = .ok (.iconst 0, 1) := by decide +kernel
theorem dX9_chance_108 : decode cX9_chance 108 = .ok (.iadd, 1) := by decide +kernel
theorem dX9_chance_109 : decode cX9_chance 109 = .ok (.istore 5, 2) := by decide +kernel
theorem dX9_chance_111 : decode cX9_chance 111 = .ok (.iload 6, 2) := by decide +kernel
theorem dX9_chance_113 : decode cX9_chance 113 = .ok (.aload_n 0, 1) := by decide +kernel
theorem dX9_chance_114 : decode cX9_chance 114 = .ok (.getfield 38, 3) := by decide +kernel
theorem dX9_chance_117 : decode cX9_chance 117 = .ok (.getfield 261, 3) := by decide +kernel
theorem dX9_chance_120 : decode cX9_chance 120 = .ok (.ifCond .eq 7, 3) := by decide +kernel
theorem dX9_chance_123 : decode cX9_chance 123 = .ok (.iconst 1, 1) := by decide +kernel
theorem dX9_chance_124 : decode cX9_chance 124 = .ok (.goto 4, 3) := by decide +kernel
theorem dX9_chance_127 : decode cX9_chance 127 = .ok (.iconst 0, 1) := by decide +kernel
theorem dX9_chance_128 : decode cX9_chance 128 = .ok (.iadd, 1) := by decide +kernel
theorem dX9_chance_129 : decode cX9_chance 129 = .ok (.istore 6, 2) := by decide +kernel
theorem dX9_chance_131 : decode cX9_chance 131 = .ok (.iinc 8 1, 3) := by decide +kernel
theorem dX9_chance_134 : decode cX9_chance 134 = .ok (.goto (-75), 3) := by decide +kernel
theorem dX9_chance_137 : decode cX9_chance 137 = .ok (.iload_n 3, 1) := by decide +kernel
theorem dX9_chance_138 : decode cX9_chance 138 = .ok (.ifCond .ne 6, 3) := by decide +kernel
theorem dX9_chance_141 : decode cX9_chance 141 = .ok (.iload 5, 2) := by decide +kernel
theorem dX9_chance_143 : decode cX9_chance 143 = .ok (.ireturn, 1) := by decide +kernel
theorem dX9_chance_144 : decode cX9_chance 144 = .ok (.iload_n 3, 1) := by decide +kernel
theorem dX9_chance_145 : decode cX9_chance 145 = .ok (.iconst 1, 1) := by decide +kernel
theorem dX9_chance_146 : decode cX9_chance 146 = .ok (.if_icmp .ne 8, 3) := by decide +kernel
theorem dX9_chance_149 : decode cX9_chance 149 = .ok (.iload 6, 2) := by decide +kernel
theorem dX9_chance_151 : decode cX9_chance 151 = .ok (.goto 5, 3) := by decide +kernel
theorem dX9_chance_154 : decode cX9_chance 154 = .ok (.iload 7, 2) := by decide +kernel
theorem dX9_chance_156 : decode cX9_chance 156 = .ok (.ireturn, 1) := by decide +kernel
theorem dX9_keep_0 : decode cX9_keep 0 = .ok (.aload_n 0, 1) := by decide +kernel
theorem dX9_keep_1 : decode cX9_keep 1 = .ok (.getfield 35, 3) := by decide +kernel
theorem dX9_keep_4 : decode cX9_keep 4 = .ok (.aload_n 0, 1) := by decide +kernel
theorem dX9_keep_5 : decode cX9_keep 5 = .ok (.getfield 31, 3) := by decide +kernel
theorem dX9_keep_8 : decode cX9_keep 8 = .ok (.invokevirtual 264, 3) := by decide +kernel
theorem dX9_keep_11 : decode cX9_keep 11 = .ok (.aload_n 0, 1) := by decide +kernel
theorem dX9_keep_12 : decode cX9_keep 12 = .ok (.iconst 1, 1) := by decide +kernel
theorem dX9_keep_13 : decode cX9_keep 13 = .ok (.putfield 70, 3) := by decide +kernel
theorem dX9_keep_16 : decode cX9_keep 16 = .ok (.aload_n 0, 1) := by decide +kernel
theorem dX9_keep_17 : decode cX9_keep 17 = .ok (.getfield 31, 3) := by decide +kernel
theorem dX9_keep_20 : decode cX9_keep 20 = .ok (.getfield 164, 3) := by decide +kernel
theorem dX9_keep_23 : decode cX9_keep 23 = .ok (.getfield 231, 3) := by decide +kernel
theorem dX9_keep_26 : decode cX9_keep 26 = .ok (.ireturn, 1) := by decide +kernel
theorem dX9_back_0 : decode cX9_back 0 = .ok (.aload_n 0, 1) := by decide +kernel
theorem dX9_back_1 : decode cX9_back 1 = .ok (.getfield 70, 3) := by decide +kernel
theorem dX9_back_4 : decode cX9_back 4 = .ok (.ifCond .ne 5, 3) := by decide +kernel
theorem dX9_back_7 : decode cX9_back 7 = .ok (.iconst (-1), 1) := by decide +kernel
theorem dX9_back_8 : decode cX9_back 8 = .ok (.ireturn, 1) := by decide +kernel
theorem dX9_back_9 : decode cX9_back 9 = .ok (.aload_n 0, 1) := by decide +kernel
theorem dX9_back_10 : decode cX9_back 10 = .ok (.getfield 31, 3) := by decide +kernel
theorem dX9_back_13 : decode cX9_back 13 = .ok (.aload_n 0, 1) := by decide +kernel
theorem dX9_back_14 : decode cX9_back 14 = .ok (.getfield 35, 3) := by decide +kernel
theorem dX9_back_17 : decode cX9_back 17 = .ok (.invokevirtual 264, 3) := by decide +kernel
theorem dX9_back_20 : decode cX9_back 20 = .ok (.aload_n 0, 1) := by decide +kernel
theorem dX9_back_21 : decode cX9_back 21 = .ok (.getfield 31, 3) := by decide +kernel
theorem dX9_back_24 : decode cX9_back 24 = .ok (.getfield 164, 3) := by decide +kernel
theorem dX9_back_27 : decode cX9_back 27 = .ok (.getfield 231, 3) := by decide +kernel
theorem dX9_back_30 : decode cX9_back 30 = .ok (.ireturn, 1) := by decide +kernel
theorem dX9_count_0 : decode cX9_count 0 = .ok (.iload_n 1, 1) := by decide +kernel
theorem dX9_count_1 : decode cX9_count 1 = .ok (.tableswitch 209 0 17 #[87, 209, 209, 209, 209, 95, 209, 103, 114, 125, 136, 147, 158, 174, 190, 209, 209, 201], 87) := by decide +kernel
theorem dX9_count_88 : decode cX9_count 88 = .ok (.aload_n 0, 1) := by decide +kernel
theorem dX9_count_89 : decode cX9_count 89 = .ok (.getfield 19, 3) := by decide +kernel
theorem dX9_count_92 : decode cX9_count 92 = .ok (.getfield 268, 3) := by decide +kernel
theorem dX9_count_95 : decode cX9_count 95 = .ok (.ireturn, 1) := by decide +kernel
theorem dX9_count_96 : decode cX9_count 96 = .ok (.aload_n 0, 1) := by decide +kernel
theorem dX9_count_97 : decode cX9_count 97 = .ok (.getfield 31, 3) := by decide +kernel
theorem dX9_count_100 : decode cX9_count 100 = .ok (.invokevirtual 271, 3) := by decide +kernel
theorem dX9_count_103 : decode cX9_count 103 = .ok (.ireturn, 1) := by decide +kernel
theorem dX9_count_104 : decode cX9_count 104 = .ok (.aload_n 0, 1) := by decide +kernel
theorem dX9_count_105 : decode cX9_count 105 = .ok (.getfield 31, 3) := by decide +kernel
theorem dX9_count_108 : decode cX9_count 108 = .ok (.getfield 145, 3) := by decide +kernel
theorem dX9_count_111 : decode cX9_count 111 = .ok (.getfield 274, 3) := by decide +kernel
theorem dX9_count_114 : decode cX9_count 114 = .ok (.ireturn, 1) := by decide +kernel
theorem dX9_count_115 : decode cX9_count 115 = .ok (.aload_n 0, 1) := by decide +kernel
theorem dX9_count_116 : decode cX9_count 116 = .ok (.getfield 31, 3) := by decide +kernel
theorem dX9_count_119 : decode cX9_count 119 = .ok (.getfield 145, 3) := by decide +kernel
theorem dX9_count_122 : decode cX9_count 122 = .ok (.getfield 277, 3) := by decide +kernel
theorem dX9_count_125 : decode cX9_count 125 = .ok (.ireturn, 1) := by decide +kernel
theorem dX9_count_126 : decode cX9_count 126 = .ok (.aload_n 0, 1) := by decide +kernel
theorem dX9_count_127 : decode cX9_count 127 = .ok (.getfield 31, 3) := by decide +kernel
theorem dX9_count_130 : decode cX9_count 130 = .ok (.getfield 145, 3) := by decide +kernel
theorem dX9_count_133 : decode cX9_count 133 = .ok (.getfield 280, 3) := by decide +kernel
theorem dX9_count_136 : decode cX9_count 136 = .ok (.ireturn, 1) := by decide +kernel
theorem dX9_count_137 : decode cX9_count 137 = .ok (.aload_n 0, 1) := by decide +kernel
theorem dX9_count_138 : decode cX9_count 138 = .ok (.getfield 31, 3) := by decide +kernel
theorem dX9_count_141 : decode cX9_count 141 = .ok (.getfield 133, 3) := by decide +kernel
theorem dX9_count_144 : decode cX9_count 144 = .ok (.getfield 283, 3) := by decide +kernel
theorem dX9_count_147 : decode cX9_count 147 = .ok (.ireturn, 1) := by decide +kernel
theorem dX9_count_148 : decode cX9_count 148 = .ok (.aload_n 0, 1) := by decide +kernel
theorem dX9_count_149 : decode cX9_count 149 = .ok (.getfield 31, 3) := by decide +kernel
theorem dX9_count_152 : decode cX9_count 152 = .ok (.getfield 133, 3) := by decide +kernel
theorem dX9_count_155 : decode cX9_count 155 = .ok (.getfield 251, 3) := by decide +kernel
theorem dX9_count_158 : decode cX9_count 158 = .ok (.ireturn, 1) := by decide +kernel
theorem dX9_count_159 : decode cX9_count 159 = .ok (.aload_n 0, 1) := by decide +kernel
theorem dX9_count_160 : decode cX9_count 160 = .ok (.getfield 31, 3) := by decide +kernel
theorem dX9_count_163 : decode cX9_count 163 = .ok (.getfield 261, 3) := by decide +kernel
theorem dX9_count_166 : decode cX9_count 166 = .ok (.ifCond .eq 7, 3) := by decide +kernel
theorem dX9_count_169 : decode cX9_count 169 = .ok (.iconst 1, 1) := by decide +kernel
theorem dX9_count_170 : decode cX9_count 170 = .ok (.goto 4, 3) := by decide +kernel
theorem dX9_count_173 : decode cX9_count 173 = .ok (.iconst 0, 1) := by decide +kernel
theorem dX9_count_174 : decode cX9_count 174 = .ok (.ireturn, 1) := by decide +kernel
theorem dX9_count_175 : decode cX9_count 175 = .ok (.aload_n 0, 1) := by decide +kernel
theorem dX9_count_176 : decode cX9_count 176 = .ok (.getfield 31, 3) := by decide +kernel
theorem dX9_count_179 : decode cX9_count 179 = .ok (.getfield 286, 3) := by decide +kernel
theorem dX9_count_182 : decode cX9_count 182 = .ok (.ifCond .eq 7, 3) := by decide +kernel
theorem dX9_count_185 : decode cX9_count 185 = .ok (.iconst 1, 1) := by decide +kernel
theorem dX9_count_186 : decode cX9_count 186 = .ok (.goto 4, 3) := by decide +kernel
theorem dX9_count_189 : decode cX9_count 189 = .ok (.iconst 0, 1) := by decide +kernel
theorem dX9_count_190 : decode cX9_count 190 = .ok (.ireturn, 1) := by decide +kernel
theorem dX9_count_191 : decode cX9_count 191 = .ok (.aload_n 0, 1) := by decide +kernel
theorem dX9_count_192 : decode cX9_count 192 = .ok (.getfield 31, 3) := by decide +kernel
theorem dX9_count_195 : decode cX9_count 195 = .ok (.getfield 133, 3) := by decide +kernel
theorem dX9_count_198 : decode cX9_count 198 = .ok (.invokevirtual 248, 3) := by decide +kernel
theorem dX9_count_201 : decode cX9_count 201 = .ok (.ireturn, 1) := by decide +kernel
theorem dX9_count_202 : decode cX9_count 202 = .ok (.aload_n 0, 1) := by decide +kernel
theorem dX9_count_203 : decode cX9_count 203 = .ok (.getfield 31, 3) := by decide +kernel
theorem dX9_count_206 : decode cX9_count 206 = .ok (.invokevirtual 208, 3) := by decide +kernel
theorem dX9_count_209 : decode cX9_count 209 = .ok (.ireturn, 1) := by decide +kernel
theorem dX9_count_210 : decode cX9_count 210 = .ok (.aload_n 0, 1) := by decide +kernel
theorem dX9_count_211 : decode cX9_count 211 = .ok (.getfield 31, 3) := by decide +kernel
theorem dX9_count_214 : decode cX9_count 214 = .ok (.getfield 164, 3) := by decide +kernel
theorem dX9_count_217 : decode cX9_count 217 = .ok (.iload_n 1, 1) := by decide +kernel
theorem dX9_count_218 : decode cX9_count 218 = .ok (.invokevirtual 289, 3) := by decide +kernel
theorem dX9_count_221 : decode cX9_count 221 = .ok (.ireturn, 1) := by decide +kernel
theorem dX9_turnsToAlarm_0 : decode cX9_turnsToAlarm 0 = .ok (.aload_n 0, 1) := by decide +kernel
theorem dX9_turnsToAlarm_1 : decode cX9_turnsToAlarm 1 = .ok (.getfield 38, 3) := by decide +kernel
theorem dX9_turnsToAlarm_4 : decode cX9_turnsToAlarm 4 = .ok (.aload_n 0, 1) := by decide +kernel
theorem dX9_turnsToAlarm_5 : decode cX9_turnsToAlarm 5 = .ok (.getfield 31, 3) := by decide +kernel
theorem dX9_turnsToAlarm_8 : decode cX9_turnsToAlarm 8 = .ok (.invokevirtual 264, 3) := by decide +kernel
theorem dX9_turnsToAlarm_11 : decode cX9_turnsToAlarm 11 = .ok (.aload_n 0, 1) := by decide +kernel
theorem dX9_turnsToAlarm_12 : decode cX9_turnsToAlarm 12 = .ok (.getfield 38, 3) := by decide +kernel
theorem dX9_turnsToAlarm_15 : decode cX9_turnsToAlarm 15 = .ok (.iload_n 1, 1) := by decide +kernel
theorem dX9_turnsToAlarm_16 : decode cX9_turnsToAlarm 16 = .ok (.iload_n 2, 1) := by decide +kernel
theorem dX9_turnsToAlarm_17 : decode cX9_turnsToAlarm 17 = .ok (.iload_n 3, 1) := by decide +kernel
theorem dX9_turnsToAlarm_18 : decode cX9_turnsToAlarm 18 = .ok (.invokevirtual 88, 3) := by decide +kernel
theorem dX9_turnsToAlarm_21 : decode cX9_turnsToAlarm 21 = .ok (.ifCond .ne 5, 3) := by decide +kernel
theorem dX9_turnsToAlarm_24 : decode cX9_turnsToAlarm 24 = .ok (.iconst (-1), 1) := by decide +kernel
theorem dX9_turnsToAlarm_25 : decode cX9_turnsToAlarm 25 = .ok (.ireturn, 1) := by decide +kernel
theorem dX9_turnsToAlarm_26 : decode cX9_turnsToAlarm 26 = .ok (.iconst 1, 1) := by decide +kernel
theorem dX9_turnsToAlarm_27 : decode cX9_turnsToAlarm 27 = .ok (.istore 4, 2) := by decide +kernel
theorem dX9_turnsToAlarm_29 : decode cX9_turnsToAlarm 29 = .ok (.iload 4, 2) := by decide +kernel
theorem dX9_turnsToAlarm_31 : decode cX9_turnsToAlarm 31 = .ok (.bipush 100, 2) := by decide +kernel
theorem dX9_turnsToAlarm_33 : decode cX9_turnsToAlarm 33 = .ok (.if_icmp .gt 44, 3) := by decide +kernel
theorem dX9_turnsToAlarm_36 : decode cX9_turnsToAlarm 36 = .ok (.aload_n 0, 1) := by decide +kernel
theorem dX9_turnsToAlarm_37 : decode cX9_turnsToAlarm 37 = .ok (.getfield 38, 3) := by decide +kernel
theorem dX9_turnsToAlarm_40 : decode cX9_turnsToAlarm 40 = .ok (.invokevirtual 84, 3) := by decide +kernel
theorem dX9_turnsToAlarm_43 : decode cX9_turnsToAlarm 43 = .ok (.istore 5, 2) := by decide +kernel
theorem dX9_turnsToAlarm_45 : decode cX9_turnsToAlarm 45 = .ok (.iload 5, 2) := by decide +kernel
theorem dX9_turnsToAlarm_47 : decode cX9_turnsToAlarm 47 = .ok (.bipush 10, 2) := by decide +kernel
theorem dX9_turnsToAlarm_49 : decode cX9_turnsToAlarm 49 = .ok (.if_icmp .le 6, 3) := by decide +kernel
theorem dX9_turnsToAlarm_52 : decode cX9_turnsToAlarm 52 = .ok (.iload 4, 2) := by decide +kernel
theorem dX9_turnsToAlarm_54 : decode cX9_turnsToAlarm 54 = .ok (.ireturn, 1) := by decide +kernel
theorem dX9_turnsToAlarm_55 : decode cX9_turnsToAlarm 55 = .ok (.iload 5, 2) := by decide +kernel
theorem dX9_turnsToAlarm_57 : decode cX9_turnsToAlarm 57 = .ok (.bipush (-2), 2) := by decide +kernel
theorem dX9_turnsToAlarm_59 : decode cX9_turnsToAlarm 59 = .ok (.if_icmp .eq 9, 3) := by decide +kernel
theorem dX9_turnsToAlarm_62 : decode cX9_turnsToAlarm 62 = .ok (.iload 5, 2) := by decide +kernel
theorem dX9_turnsToAlarm_64 : decode cX9_turnsToAlarm 64 = .ok (.iconst 2, 1) := by decide +kernel
theorem dX9_turnsToAlarm_65 : decode cX9_turnsToAlarm 65 = .ok (.if_icmp .ne 6, 3) := by decide +kernel
theorem dX9_turnsToAlarm_68 : decode cX9_turnsToAlarm 68 = .ok (.bipush (-2), 2) := by decide +kernel
theorem dX9_turnsToAlarm_70 : decode cX9_turnsToAlarm 70 = .ok (.ireturn, 1) := by decide +kernel
theorem dX9_turnsToAlarm_71 : decode cX9_turnsToAlarm 71 = .ok (.iinc 4 1, 3) := by decide +kernel
theorem dX9_turnsToAlarm_74 : decode cX9_turnsToAlarm 74 = .ok (.goto (-45), 3) := by decide +kernel
theorem dX9_turnsToAlarm_77 : decode cX9_turnsToAlarm 77 = .ok (.bipush (-2), 2) := by decide +kernel
theorem dX9_turnsToAlarm_79 : decode cX9_turnsToAlarm 79 = .ok (.ireturn, 1) := by decide +kernel
theorem dX9_turnsTillDone_0 : decode cX9_turnsTillDone 0 = .ok (.aload_n 0, 1) := by decide +kernel
theorem dX9_turnsTillDone_1 : decode cX9_turnsTillDone 1 = .ok (.getfield 38, 3) := by decide +kernel
theorem dX9_turnsTillDone_4 : decode cX9_turnsTillDone 4 = .ok (.aload_n 0, 1) := by decide +kernel
theorem dX9_turnsTillDone_5 : decode cX9_turnsTillDone 5 = .ok (.getfield 19, 3) := by decide +kernel
theorem dX9_turnsTillDone_8 : decode cX9_turnsTillDone 8 = .ok (.invokevirtual 67, 3) := by decide +kernel
theorem dX9_turnsTillDone_11 : decode cX9_turnsTillDone 11 = .ok (.aload_n 0, 1) := by decide +kernel
theorem dX9_turnsTillDone_12 : decode cX9_turnsTillDone 12 = .ok (.getfield 38, 3) := by decide +kernel
theorem dX9_turnsTillDone_15 : decode cX9_turnsTillDone 15 = .ok (.getfield 292, 3) := by decide +kernel
theorem dX9_turnsTillDone_18 : decode cX9_turnsTillDone 18 = .ok (.iload_n 1, 1) := by decide +kernel
theorem dX9_turnsTillDone_19 : decode cX9_turnsTillDone 19 = .ok (.bipush 7, 2) := by decide +kernel
theorem dX9_turnsTillDone_21 : decode cX9_turnsTillDone 21 = .ok (.iand, 1) := by decide +kernel
theorem dX9_turnsTillDone_22 : decode cX9_turnsTillDone 22 = .ok (.iload_n 2, 1) := by decide +kernel
theorem dX9_turnsTillDone_23 : decode cX9_turnsTillDone 23 = .ok (.iastore, 1) := by decide +kernel
theorem dX9_turnsTillDone_24 : decode cX9_turnsTillDone 24 = .ok (.iconst 1, 1) := by decide +kernel
theorem dX9_turnsTillDone_25 : decode cX9_turnsTillDone 25 = .ok (.istore 4, 2) := by decide +kernel
theorem dX9_turnsTillDone_27 : decode cX9_turnsTillDone 27 = .ok (.iload 4, 2) := by decide +kernel
theorem dX9_turnsTillDone_29 : decode cX9_turnsTillDone 29 = .ok (.sipush 999, 3) := by decide +kernel
theorem dX9_turnsTillDone_32 : decode cX9_turnsTillDone 32 = .ok (.if_icmp .gt 59, 3) := by decide +kernel
theorem dX9_turnsTillDone_35 : decode cX9_turnsTillDone 35 = .ok (.iload 4, 2) := by decide +kernel
theorem dX9_turnsTillDone_37 : decode cX9_turnsTillDone 37 = .ok (.iload_n 3, 1) := by decide +kernel
theorem dX9_turnsTillDone_38 : decode cX9_turnsTillDone 38 = .ok (.if_icmp .ne 13, 3) := by decide +kernel
theorem dX9_turnsTillDone_41 : decode cX9_turnsTillDone 41 = .ok (.aload_n 0, 1) := by decide +kernel
theorem dX9_turnsTillDone_42 : decode cX9_turnsTillDone 42 = .ok (.getfield 38, 3) := by decide +kernel
theorem dX9_turnsTillDone_45 : decode cX9_turnsTillDone 45 = .ok (.invokevirtual 293, 3) := by decide +kernel
theorem dX9_turnsTillDone_48 : decode cX9_turnsTillDone 48 = .ok (.goto 11, 3) := by decide +kernel
theorem dX9_turnsTillDone_51 : decode cX9_turnsTillDone 51 = .ok (.aload_n 0, 1) := by decide +kernel
theorem dX9_turnsTillDone_52 : decode cX9_turnsTillDone 52 = .ok (.getfield 38, 3) := by decide +kernel
theorem dX9_turnsTillDone_55 : decode cX9_turnsTillDone 55 = .ok (.invokevirtual 84, 3) := by decide +kernel
theorem dX9_turnsTillDone_58 : decode cX9_turnsTillDone 58 = .ok (.pop, 1) := by decide +kernel
theorem dX9_turnsTillDone_59 : decode cX9_turnsTillDone 59 = .ok (.aload_n 0, 1) := by decide +kernel
theorem dX9_turnsTillDone_60 : decode cX9_turnsTillDone 60 = .ok (.getfield 38, 3) := by decide +kernel
theorem dX9_turnsTillDone_63 : decode cX9_turnsTillDone 63 = .ok (.getfield 261, 3) := by decide +kernel
theorem dX9_turnsTillDone_66 : decode cX9_turnsTillDone 66 = .ok (.ifCond .eq 6, 3) := by decide +kernel
theorem dX9_turnsTillDone_69 : decode cX9_turnsTillDone 69 = .ok (.iload 4, 2) := by decide +kernel
theorem dX9_turnsTillDone_71 : decode cX9_turnsTillDone 71 = .ok (.ireturn, 1) := by decide +kernel
theorem dX9_turnsTillDone_72 : decode cX9_turnsTillDone 72 = .ok (.aload_n 0, 1) := by decide +kernel
theorem dX9_turnsTillDone_73 : decode cX9_turnsTillDone 73 = .ok (.getfield 38, 3) := by decide +kernel
theorem dX9_turnsTillDone_76 : decode cX9_turnsTillDone 76 = .ok (.getfield 286, 3) := by decide +kernel
theorem dX9_turnsTillDone_79 : decode cX9_turnsTillDone 79 = .ok (.ifCond .eq 6, 3) := by decide +kernel
theorem dX9_turnsTillDone_82 : decode cX9_turnsTillDone 82 = .ok (.bipush (-2), 2) := by decide +kernel
theorem dX9_turnsTillDone_84 : decode cX9_turnsTillDone 84 = .ok (.ireturn, 1) := by decide +kernel
theorem dX9_turnsTillDone_85 : decode cX9_turnsTillDone 85 = .ok (.iinc 4 1, 3) := by decide +kernel
theorem dX9_turnsTillDone_88 : decode cX9_turnsTillDone 88 = .ok (.goto (-61), 3) := by decide +kernel
theorem dX9_turnsTillDone_91 : decode cX9_turnsTillDone 91 = .ok (.bipush (-2), 2) := by decide +kernel
theorem dX9_turnsTillDone_93 : decode cX9_turnsTillDone 93 = .ok (.ireturn, 1) := by decide +kernel
theorem dX9_runByChance_0 : decode cX9_runByChance 0 = .ok (.iload_n 1, 1) := by decide +kernel
theorem dX9_runByChance_1 : decode cX9_runByChance 1 = .ok (.invokestatic 296, 3) := by decide +kernel
theorem dX9_runByChance_4 : decode cX9_runByChance 4 = .ok (.istore_n 2, 1) := by decide +kernel
theorem dX9_runByChance_5 : decode cX9_runByChance 5 = .ok (.iload_n 2, 1) := by decide +kernel
theorem dX9_runByChance_6 : decode cX9_runByChance 6 = .ok (.invokestatic 296, 3) := by decide +kernel
theorem dX9_runByChance_9 : decode cX9_runByChance 9 = .ok (.istore_n 3, 1) := by decide +kernel
theorem dX9_runByChance_10 : decode cX9_runByChance 10 = .ok (.iload_n 3, 1) := by decide +kernel
theorem dX9_runByChance_11 : decode cX9_runByChance 11 = .ok (.invokestatic 296, 3) := by decide +kernel
theorem dX9_runByChance_14 : decode cX9_runByChance 14 = .ok (.istore 4, 2) := by decide +kernel
theorem dX9_runByChance_16 : decode cX9_runByChance 16 = .ok (.iload 4, 2) := by decide +kernel
theorem dX9_runByChance_18 : decode cX9_runByChance 18 = .ok (.invokestatic 296, 3) := by decide +kernel
theorem dX9_runByChance_21 : decode cX9_runByChance 21 = .ok (.istore 5, 2) := by decide +kernel
theorem dX9_runByChance_23 : decode cX9_runByChance 23 = .ok (.iload_n 2, 1) := by decide +kernel
theorem dX9_runByChance_24 : decode cX9_runByChance 24 = .ok (.bipush 50, 2) := by decide +kernel
theorem dX9_runByChance_26 : decode cX9_runByChance 26 = .ok (.invokestatic 299, 3) := by decide +kernel
theorem dX9_runByChance_29 : decode cX9_runByChance 29 = .ok (.istore 6, 2) := by decide +kernel
theorem dX9_runByChance_31 : decode cX9_runByChance 31 = .ok (.aload_n 0, 1) := by decide +kernel
theorem dX9_runByChance_32 : decode cX9_runByChance 32 = .ok (.getfield 38, 3) := by decide +kernel
theorem dX9_runByChance_35 : decode cX9_runByChance 35 = .ok (.aload_n 0, 1) := by decide +kernel
theorem dX9_runByChance_36 : decode cX9_runByChance 36 = .ok (.getfield 19, 3) := by decide +kernel
theorem dX9_runByChance_39 : decode cX9_runByChance 39 = .ok (.invokevirtual 67, 3) := by decide +kernel
theorem dX9_runByChance_42 : decode cX9_runByChance 42 = .ok (.iconst 0, 1) := by decide +kernel
theorem dX9_runByChance_43 : decode cX9_runByChance 43 = .ok (.istore 7, 2) := by decide +kernel
theorem dX9_runByChance_45 : decode cX9_runByChance 45 = .ok (.iload 7, 2) := by decide +kernel
theorem dX9_runByChance_47 : decode cX9_runByChance 47 = .ok (.sipush 300, 3) := by decide +kernel
theorem dX9_runByChance_50 : decode cX9_runByChance 50 = .ok (.if_icmp .ge 51, 3) := by decide +kernel
theorem dX9_runByChance_53 : decode cX9_runByChance 53 = .ok (.iload 7, 2) := by decide +kernel
theorem dX9_runByChance_55 : decode cX9_runByChance 55 = .ok (.iload 6, 2) := by decide +kernel
theorem dX9_runByChance_57 : decode cX9_runByChance 57 = .ok (.if_icmp .ne 30, 3) := by decide +kernel
theorem dX9_runByChance_60 : decode cX9_runByChance 60 = .ok (.aload_n 0, 1) := by decide +kernel
theorem dX9_runByChance_61 : decode cX9_runByChance 61 = .ok (.getfield 38, 3) := by decide +kernel
theorem dX9_runByChance_64 : decode cX9_runByChance 64 = .ok (.iload_n 3, 1) := by decide +kernel
theorem dX9_runByChance_65 : decode cX9_runByChance 65 = .ok (.iconst 4, 1) := by decide +kernel
theorem dX9_runByChance_66 : decode cX9_runByChance 66 = .ok (.invokestatic 299, 3) := by decide +kernel
theorem dX9_runByChance_69 : decode cX9_runByChance 69 = .ok (.iload 4, 2) := by decide +kernel
theorem dX9_runByChance_71 : decode cX9_runByChance 71 = .ok (.bipush 8, 2) := by decide +kernel
theorem dX9_runByChance_73 : decode cX9_runByChance 73 = .ok (.invokestatic 299, 3) := by decide +kernel
theorem dX9_runByChance_76 : decode cX9_runByChance 76 = .ok (.iload 5, 2) := by decide +kernel
theorem dX9_runByChance_78 : decode cX9_runByChance 78 = .ok (.bipush 32, 2) := by decide +kernel
theorem dX9_runByChance_80 : decode cX9_runByChance 80 = .ok (.invokestatic 299, 3) := by decide +kernel
theorem dX9_runByChance_83 : decode cX9_runByChance 83 = .ok (.invokevirtual 88, 3) := by decide +kernel
theorem dX9_runByChance_86 : decode cX9_runByChance 86 = .ok (.pop, 1) := by decide +kernel
theorem dX9_runByChance_87 : decode cX9_runByChance 87 = .ok (.aload_n 0, 1) := by decide +kernel
theorem dX9_runByChance_88 : decode cX9_runByChance 88 = .ok (.getfield 38, 3) := by decide +kernel
theorem dX9_runByChance_91 : decode cX9_runByChance 91 = .ok (.invokevirtual 84, 3) := by decide +kernel
theorem dX9_runByChance_94 : decode cX9_runByChance 94 = .ok (.pop, 1) := by decide +kernel
theorem dX9_runByChance_95 : decode cX9_runByChance 95 = .ok (.iinc 7 1, 3) := by decide +kernel
theorem dX9_runByChance_98 : decode cX9_runByChance 98 = .ok (.goto (-53), 3) := by decide +kernel
theorem dX9_runByChance_101 : decode cX9_runByChance 101 = .ok (.iload 5, 2) := by decide +kernel
theorem dX9_runByChance_103 : decode cX9_runByChance 103 = .ok (.ireturn, 1) := by decide +kernel
theorem dX9_following_0 : decode cX9_following 0 = .ok (.iload_n 0, 1) := by decide +kernel
theorem dX9_following_1 : decode cX9_following 1 = .ok (.ldc_w 302, 3) := by decide +kernel
theorem dX9_following_4 : decode cX9_following 4 = .ok (.imul, 1) := by decide +kernel
theorem dX9_following_5 : decode cX9_following 5 = .ok (.sipush 12345, 3) := by decide +kernel
theorem dX9_following_8 : decode cX9_following 8 = .ok (.iadd, 1) := by decide +kernel
theorem dX9_following_9 : decode cX9_following 9 = .ok (.ldc_w 303, 3) := by decide +kernel
theorem dX9_following_12 : decode cX9_following 12 = .ok (.iand, 1) := by decide +kernel
theorem dX9_following_13 : decode cX9_following 13 = .ok (.ireturn, 1) := by decide +kernel
theorem dX9_drawn_0 : decode cX9_drawn 0 = .ok (.iload_n 1, 1) := by decide +kernel
theorem dX9_drawn_1 : decode cX9_drawn 1 = .ok (.iconst 1, 1) := by decide +kernel
theorem dX9_drawn_2 : decode cX9_drawn 2 = .ok (.if_icmp .ge 7, 3) := by decide +kernel
theorem dX9_drawn_5 : decode cX9_drawn 5 = .ok (.iconst 0, 1) := by decide +kernel
theorem dX9_drawn_6 : decode cX9_drawn 6 = .ok (.goto 9, 3) := by decide +kernel
theorem dX9_drawn_9 : decode cX9_drawn 9 = .ok (.iload_n 0, 1) := by decide +kernel
theorem dX9_drawn_10 : decode cX9_drawn 10 = .ok (.bipush 16, 2) := by decide +kernel
theorem dX9_drawn_12 : decode cX9_drawn 12 = .ok (.ishr, 1) := by decide +kernel
theorem dX9_drawn_13 : decode cX9_drawn 13 = .ok (.iload_n 1, 1) := by decide +kernel
theorem dX9_drawn_14 : decode cX9_drawn 14 = .ok (.irem, 1) := by decide +kernel
theorem dX9_drawn_15 : decode cX9_drawn 15 = .ok (.ireturn, 1) := by decide +kernel
theorem dJxf58ca_isNaN_12338_0 : decode cJxf58ca_isNaN_12338 0 = .ok (.fload_n 0, 1) := by decide +kernel
theorem dJxf58ca_isNaN_12338_1 : decode cJxf58ca_isNaN_12338 1 = .ok (.fload_n 0, 1) := by decide +kernel
theorem dJxf58ca_isNaN_12338_2 : decode cJxf58ca_isNaN_12338 2 = .ok (.fcmp .l, 1) := by decide +kernel
theorem dJxf58ca_isNaN_12338_3 : decode cJxf58ca_isNaN_12338 3 = .ok (.ifCond .eq 7, 3) := by decide +kernel
theorem dJxf58ca_isNaN_12338_6 : decode cJxf58ca_isNaN_12338 6 = .ok (.iconst 1, 1) := by decide +kernel
theorem dJxf58ca_isNaN_12338_7 : decode cJxf58ca_isNaN_12338 7 = .ok (.goto 4, 3) := by decide +kernel
theorem dJxf58ca_isNaN_12338_10 : decode cJxf58ca_isNaN_12338 10 = .ok (.iconst 0, 1) := by decide +kernel
theorem dJxf58ca_isNaN_12338_11 : decode cJxf58ca_isNaN_12338 11 = .ok (.ireturn, 1) := by decide +kernel
theorem dJxf58ca_floatToIntBits_5c35a_0 : decode cJxf58ca_floatToIntBits_5c35a 0 = .ok (.fload_n 0, 1) := by decide +kernel
theorem dJxf58ca_floatToIntBits_5c35a_1 : decode cJxf58ca_floatToIntBits_5c35a 1 = .ok (.invokestatic 59, 3) := by decide +kernel
theorem dJxf58ca_floatToIntBits_5c35a_4 : decode cJxf58ca_floatToIntBits_5c35a 4 = .ok (.ifCond .ne 8, 3) := by decide +kernel
theorem dJxf58ca_floatToIntBits_5c35a_7 : decode cJxf58ca_floatToIntBits_5c35a 7 = .ok (.fload_n 0, 1) := by decide +kernel
theorem dJxf58ca_floatToIntBits_5c35a_8 : decode cJxf58ca_floatToIntBits_5c35a 8 = .ok (.invokestatic 74, 3) := by decide +kernel
theorem dJxf58ca_floatToIntBits_5c35a_11 : decode cJxf58ca_floatToIntBits_5c35a 11 = .ok (.ireturn, 1) := by decide +kernel
theorem dJxf58ca_floatToIntBits_5c35a_12 : decode cJxf58ca_floatToIntBits_5c35a 12 = .ok (.ldc 77, 2) := by decide +kernel
theorem dJxf58ca_floatToIntBits_5c35a_14 : decode cJxf58ca_floatToIntBits_5c35a 14 = .ok (.ireturn, 1) := by decide +kernel
theorem dJ6_numberOfLeadingZeros_0f7a4_0 : decode cJ6_numberOfLeadingZeros_0f7a4 0 = .ok (.iload_n 0, 1) := by decide +kernel
theorem dJ6_numberOfLeadingZeros_0f7a4_1 : decode cJ6_numberOfLeadingZeros_0f7a4 1 = .ok (.ifCond .gt 14, 3) := by decide +kernel
theorem dJ6_numberOfLeadingZeros_0f7a4_4 : decode cJ6_numberOfLeadingZeros_0f7a4 4 = .ok (.iload_n 0, 1) := by decide +kernel
theorem dJ6_numberOfLeadingZeros_0f7a4_5 : decode cJ6_numberOfLeadingZeros_0f7a4 5 = .ok (.ifCond .ne 8, 3) := by decide +kernel
theorem dJ6_numberOfLeadingZeros_0f7a4_8 : decode cJ6_numberOfLeadingZeros_0f7a4 8 = .ok (.bipush 32, 2) := by decide +kernel
theorem dJ6_numberOfLeadingZeros_0f7a4_10 : decode cJ6_numberOfLeadingZeros_0f7a4 10 = .ok (.goto 4, 3) := by decide +kernel
theorem dJ6_numberOfLeadingZeros_0f7a4_13 : decode cJ6_numberOfLeadingZeros_0f7a4 13 = .ok (.iconst 0, 1) := by decide +kernel
theorem dJ6_numberOfLeadingZeros_0f7a4_14 : decode cJ6_numberOfLeadingZeros_0f7a4 14 = .ok (.ireturn, 1) := by decide +kernel
theorem dJ6_numberOfLeadingZeros_0f7a4_15 : decode cJ6_numberOfLeadingZeros_0f7a4 15 = .ok (.bipush 31, 2) := by decide +kernel
theorem dJ6_numberOfLeadingZeros_0f7a4_17 : decode cJ6_numberOfLeadingZeros_0f7a4 17 = .ok (.istore_n 1, 1) := by decide +kernel
theorem dJ6_numberOfLeadingZeros_0f7a4_18 : decode cJ6_numberOfLeadingZeros_0f7a4 18 = .ok (.iload_n 0, 1) := by decide +kernel
theorem dJ6_numberOfLeadingZeros_0f7a4_19 : decode cJ6_numberOfLeadingZeros_0f7a4 19 = .ok (.ldc_w 264, 3) := by decide +kernel
theorem dJ6_numberOfLeadingZeros_0f7a4_22 : decode cJ6_numberOfLeadingZeros_0f7a4 22 = .ok (.if_icmp .lt 11, 3) := by decide +kernel
theorem dJ6_numberOfLeadingZeros_0f7a4_25 : decode cJ6_numberOfLeadingZeros_0f7a4 25 = .ok (.iinc 1 (-16), 3) := by decide +kernel
theorem dJ6_numberOfLeadingZeros_0f7a4_28 : decode cJ6_numberOfLeadingZeros_0f7a4 28 = .ok (.iload_n 0, 1) := by decide +kernel
theorem dJ6_numberOfLeadingZeros_0f7a4_29 : decode cJ6_numberOfLeadingZeros_0f7a4 29 = .ok (.bipush 16, 2) := by decide +kernel
theorem dJ6_numberOfLeadingZeros_0f7a4_31 : decode cJ6_numberOfLeadingZeros_0f7a4 31 = .ok (.iushr, 1) := by decide +kernel
theorem dJ6_numberOfLeadingZeros_0f7a4_32 : decode cJ6_numberOfLeadingZeros_0f7a4 32 = .ok (.istore_n 0, 1) := by decide +kernel
theorem dJ6_numberOfLeadingZeros_0f7a4_33 : decode cJ6_numberOfLeadingZeros_0f7a4 33 = .ok (.iload_n 0, 1) := by decide +kernel
theorem dJ6_numberOfLeadingZeros_0f7a4_34 : decode cJ6_numberOfLeadingZeros_0f7a4 34 = .ok (.sipush 256, 3) := by decide +kernel
theorem dJ6_numberOfLeadingZeros_0f7a4_37 : decode cJ6_numberOfLeadingZeros_0f7a4 37 = .ok (.if_icmp .lt 11, 3) := by decide +kernel
theorem dJ6_numberOfLeadingZeros_0f7a4_40 : decode cJ6_numberOfLeadingZeros_0f7a4 40 = .ok (.iinc 1 (-8), 3) := by decide +kernel
theorem dJ6_numberOfLeadingZeros_0f7a4_43 : decode cJ6_numberOfLeadingZeros_0f7a4 43 = .ok (.iload_n 0, 1) := by decide +kernel
theorem dJ6_numberOfLeadingZeros_0f7a4_44 : decode cJ6_numberOfLeadingZeros_0f7a4 44 = .ok (.bipush 8, 2) := by decide +kernel
theorem dJ6_numberOfLeadingZeros_0f7a4_46 : decode cJ6_numberOfLeadingZeros_0f7a4 46 = .ok (.iushr, 1) := by decide +kernel
theorem dJ6_numberOfLeadingZeros_0f7a4_47 : decode cJ6_numberOfLeadingZeros_0f7a4 47 = .ok (.istore_n 0, 1) := by decide +kernel
theorem dJ6_numberOfLeadingZeros_0f7a4_48 : decode cJ6_numberOfLeadingZeros_0f7a4 48 = .ok (.iload_n 0, 1) := by decide +kernel
theorem dJ6_numberOfLeadingZeros_0f7a4_49 : decode cJ6_numberOfLeadingZeros_0f7a4 49 = .ok (.bipush 16, 2) := by decide +kernel
theorem dJ6_numberOfLeadingZeros_0f7a4_51 : decode cJ6_numberOfLeadingZeros_0f7a4 51 = .ok (.if_icmp .lt 10, 3) := by decide +kernel
theorem dJ6_numberOfLeadingZeros_0f7a4_54 : decode cJ6_numberOfLeadingZeros_0f7a4 54 = .ok (.iinc 1 (-4), 3) := by decide +kernel
theorem dJ6_numberOfLeadingZeros_0f7a4_57 : decode cJ6_numberOfLeadingZeros_0f7a4 57 = .ok (.iload_n 0, 1) := by decide +kernel
theorem dJ6_numberOfLeadingZeros_0f7a4_58 : decode cJ6_numberOfLeadingZeros_0f7a4 58 = .ok (.iconst 4, 1) := by decide +kernel
theorem dJ6_numberOfLeadingZeros_0f7a4_59 : decode cJ6_numberOfLeadingZeros_0f7a4 59 = .ok (.iushr, 1) := by decide +kernel
theorem dJ6_numberOfLeadingZeros_0f7a4_60 : decode cJ6_numberOfLeadingZeros_0f7a4 60 = .ok (.istore_n 0, 1) := by decide +kernel
theorem dJ6_numberOfLeadingZeros_0f7a4_61 : decode cJ6_numberOfLeadingZeros_0f7a4 61 = .ok (.iload_n 0, 1) := by decide +kernel
theorem dJ6_numberOfLeadingZeros_0f7a4_62 : decode cJ6_numberOfLeadingZeros_0f7a4 62 = .ok (.iconst 4, 1) := by decide +kernel
theorem dJ6_numberOfLeadingZeros_0f7a4_63 : decode cJ6_numberOfLeadingZeros_0f7a4 63 = .ok (.if_icmp .lt 10, 3) := by decide +kernel
theorem dJ6_numberOfLeadingZeros_0f7a4_66 : decode cJ6_numberOfLeadingZeros_0f7a4 66 = .ok (.iinc 1 (-2), 3) := by decide +kernel
theorem dJ6_numberOfLeadingZeros_0f7a4_69 : decode cJ6_numberOfLeadingZeros_0f7a4 69 = .ok (.iload_n 0, 1) := by decide +kernel
theorem dJ6_numberOfLeadingZeros_0f7a4_70 : decode cJ6_numberOfLeadingZeros_0f7a4 70 = .ok (.iconst 2, 1) := by decide +kernel
theorem dJ6_numberOfLeadingZeros_0f7a4_71 : decode cJ6_numberOfLeadingZeros_0f7a4 71 = .ok (.iushr, 1) := by decide +kernel
theorem dJ6_numberOfLeadingZeros_0f7a4_72 : decode cJ6_numberOfLeadingZeros_0f7a4 72 = .ok (.istore_n 0, 1) := by decide +kernel
theorem dJ6_numberOfLeadingZeros_0f7a4_73 : decode cJ6_numberOfLeadingZeros_0f7a4 73 = .ok (.iload_n 1, 1) := by decide +kernel
theorem dJ6_numberOfLeadingZeros_0f7a4_74 : decode cJ6_numberOfLeadingZeros_0f7a4 74 = .ok (.iload_n 0, 1) := by decide +kernel
theorem dJ6_numberOfLeadingZeros_0f7a4_75 : decode cJ6_numberOfLeadingZeros_0f7a4 75 = .ok (.iconst 1, 1) := by decide +kernel
theorem dJ6_numberOfLeadingZeros_0f7a4_76 : decode cJ6_numberOfLeadingZeros_0f7a4 76 = .ok (.iushr, 1) := by decide +kernel
theorem dJ6_numberOfLeadingZeros_0f7a4_77 : decode cJ6_numberOfLeadingZeros_0f7a4 77 = .ok (.isub, 1) := by decide +kernel
theorem dJ6_numberOfLeadingZeros_0f7a4_78 : decode cJ6_numberOfLeadingZeros_0f7a4 78 = .ok (.ireturn, 1) := by decide +kernel
theorem dJ6_bitCount_0f7a4_0 : decode cJ6_bitCount_0f7a4 0 = .ok (.iload_n 0, 1) := by decide +kernel
theorem dJ6_bitCount_0f7a4_1 : decode cJ6_bitCount_0f7a4 1 = .ok (.iload_n 0, 1) := by decide +kernel
theorem dJ6_bitCount_0f7a4_2 : decode cJ6_bitCount_0f7a4 2 = .ok (.iconst 1, 1) := by decide +kernel
theorem dJ6_bitCount_0f7a4_3 : decode cJ6_bitCount_0f7a4 3 = .ok (.iushr, 1) := by decide +kernel
theorem dJ6_bitCount_0f7a4_4 : decode cJ6_bitCount_0f7a4 4 = .ok (.ldc_w 265, 3) := by decide +kernel
theorem dJ6_bitCount_0f7a4_7 : decode cJ6_bitCount_0f7a4 7 = .ok (.iand, 1) := by decide +kernel
theorem dJ6_bitCount_0f7a4_8 : decode cJ6_bitCount_0f7a4 8 = .ok (.isub, 1) := by decide +kernel
theorem dJ6_bitCount_0f7a4_9 : decode cJ6_bitCount_0f7a4 9 = .ok (.istore_n 0, 1) := by decide +kernel
theorem dJ6_bitCount_0f7a4_10 : decode cJ6_bitCount_0f7a4 10 = .ok (.iload_n 0, 1) := by decide +kernel
theorem dJ6_bitCount_0f7a4_11 : decode cJ6_bitCount_0f7a4 11 = .ok (.ldc_w 266, 3) := by decide +kernel
theorem dJ6_bitCount_0f7a4_14 : decode cJ6_bitCount_0f7a4 14 = .ok (.iand, 1) := by decide +kernel
theorem dJ6_bitCount_0f7a4_15 : decode cJ6_bitCount_0f7a4 15 = .ok (.iload_n 0, 1) := by decide +kernel
theorem dJ6_bitCount_0f7a4_16 : decode cJ6_bitCount_0f7a4 16 = .ok (.iconst 2, 1) := by decide +kernel
theorem dJ6_bitCount_0f7a4_17 : decode cJ6_bitCount_0f7a4 17 = .ok (.iushr, 1) := by decide +kernel
theorem dJ6_bitCount_0f7a4_18 : decode cJ6_bitCount_0f7a4 18 = .ok (.ldc_w 266, 3) := by decide +kernel
theorem dJ6_bitCount_0f7a4_21 : decode cJ6_bitCount_0f7a4 21 = .ok (.iand, 1) := by decide +kernel
theorem dJ6_bitCount_0f7a4_22 : decode cJ6_bitCount_0f7a4 22 = .ok (.iadd, 1) := by decide +kernel
theorem dJ6_bitCount_0f7a4_23 : decode cJ6_bitCount_0f7a4 23 = .ok (.istore_n 0, 1) := by decide +kernel
theorem dJ6_bitCount_0f7a4_24 : decode cJ6_bitCount_0f7a4 24 = .ok (.iload_n 0, 1) := by decide +kernel
theorem dJ6_bitCount_0f7a4_25 : decode cJ6_bitCount_0f7a4 25 = .ok (.iload_n 0, 1) := by decide +kernel
theorem dJ6_bitCount_0f7a4_26 : decode cJ6_bitCount_0f7a4 26 = .ok (.iconst 4, 1) := by decide +kernel
theorem dJ6_bitCount_0f7a4_27 : decode cJ6_bitCount_0f7a4 27 = .ok (.iushr, 1) := by decide +kernel
theorem dJ6_bitCount_0f7a4_28 : decode cJ6_bitCount_0f7a4 28 = .ok (.iadd, 1) := by decide +kernel
theorem dJ6_bitCount_0f7a4_29 : decode cJ6_bitCount_0f7a4 29 = .ok (.ldc_w 267, 3) := by decide +kernel
theorem dJ6_bitCount_0f7a4_32 : decode cJ6_bitCount_0f7a4 32 = .ok (.iand, 1) := by decide +kernel
theorem dJ6_bitCount_0f7a4_33 : decode cJ6_bitCount_0f7a4 33 = .ok (.istore_n 0, 1) := by decide +kernel
theorem dJ6_bitCount_0f7a4_34 : decode cJ6_bitCount_0f7a4 34 = .ok (.iload_n 0, 1) := by decide +kernel
theorem dJ6_bitCount_0f7a4_35 : decode cJ6_bitCount_0f7a4 35 = .ok (.iload_n 0, 1) := by decide +kernel
theorem dJ6_bitCount_0f7a4_36 : decode cJ6_bitCount_0f7a4 36 = .ok (.bipush 8, 2) := by decide +kernel
theorem dJ6_bitCount_0f7a4_38 : decode cJ6_bitCount_0f7a4 38 = .ok (.iushr, 1) := by decide +kernel
theorem dJ6_bitCount_0f7a4_39 : decode cJ6_bitCount_0f7a4 39 = .ok (.iadd, 1) := by decide +kernel
theorem dJ6_bitCount_0f7a4_40 : decode cJ6_bitCount_0f7a4 40 = .ok (.istore_n 0, 1) := by decide +kernel
theorem dJ6_bitCount_0f7a4_41 : decode cJ6_bitCount_0f7a4 41 = .ok (.iload_n 0, 1) := by decide +kernel
theorem dJ6_bitCount_0f7a4_42 : decode cJ6_bitCount_0f7a4 42 = .ok (.iload_n 0, 1) := by decide +kernel
theorem dJ6_bitCount_0f7a4_43 : decode cJ6_bitCount_0f7a4 43 = .ok (.bipush 16, 2) := by decide +kernel
theorem dJ6_bitCount_0f7a4_45 : decode cJ6_bitCount_0f7a4 45 = .ok (.iushr, 1) := by decide +kernel
theorem dJ6_bitCount_0f7a4_46 : decode cJ6_bitCount_0f7a4 46 = .ok (.iadd, 1) := by decide +kernel
theorem dJ6_bitCount_0f7a4_47 : decode cJ6_bitCount_0f7a4 47 = .ok (.istore_n 0, 1) := by decide +kernel
theorem dJ6_bitCount_0f7a4_48 : decode cJ6_bitCount_0f7a4 48 = .ok (.iload_n 0, 1) := by decide +kernel
theorem dJ6_bitCount_0f7a4_49 : decode cJ6_bitCount_0f7a4 49 = .ok (.bipush 63, 2) := by decide +kernel
theorem dJ6_bitCount_0f7a4_51 : decode cJ6_bitCount_0f7a4 51 = .ok (.iand, 1) := by decide +kernel
theorem dJ6_bitCount_0f7a4_52 : decode cJ6_bitCount_0f7a4 52 = .ok (.ireturn, 1) := by decide +kernel
theorem dJ13_numberOfLeadingZeros_95d88_0 : decode cJ13_numberOfLeadingZeros_95d88 0 = .ok (.lload_n 0, 1) := by decide +kernel
theorem dJ13_numberOfLeadingZeros_95d88_1 : decode cJ13_numberOfLeadingZeros_95d88 1 = .ok (.bipush 32, 2) := by decide +kernel
theorem dJ13_numberOfLeadingZeros_95d88_3 : decode cJ13_numberOfLeadingZeros_95d88 3 = .ok (.lushr, 1) := by decide +kernel
theorem dJ13_numberOfLeadingZeros_95d88_4 : decode cJ13_numberOfLeadingZeros_95d88 4 = .ok (.l2i, 1) := by decide +kernel
theorem dJ13_numberOfLeadingZeros_95d88_5 : decode cJ13_numberOfLeadingZeros_95d88 5 = .ok (.istore_n 2, 1) := by decide +kernel
theorem dJ13_numberOfLeadingZeros_95d88_6 : decode cJ13_numberOfLeadingZeros_95d88 6 = .ok (.iload_n 2, 1) := by decide +kernel
theorem dJ13_numberOfLeadingZeros_95d88_7 : decode cJ13_numberOfLeadingZeros_95d88 7 = .ok (.ifCond .ne 14, 3) := by decide +kernel
theorem dJ13_numberOfLeadingZeros_95d88_10 : decode cJ13_numberOfLeadingZeros_95d88 10 = .ok (.bipush 32, 2) := by decide +kernel
theorem dJ13_numberOfLeadingZeros_95d88_12 : decode cJ13_numberOfLeadingZeros_95d88 12 = .ok (.lload_n 0, 1) := by decide +kernel
theorem dJ13_numberOfLeadingZeros_95d88_13 : decode cJ13_numberOfLeadingZeros_95d88 13 = .ok (.l2i, 1) := by decide +kernel
theorem dJ13_numberOfLeadingZeros_95d88_14 : decode cJ13_numberOfLeadingZeros_95d88 14 = .ok (.invokestatic 308, 3) := by decide +kernel
theorem dJ13_numberOfLeadingZeros_95d88_17 : decode cJ13_numberOfLeadingZeros_95d88 17 = .ok (.iadd, 1) := by decide +kernel
theorem dJ13_numberOfLeadingZeros_95d88_18 : decode cJ13_numberOfLeadingZeros_95d88 18 = .ok (.goto 7, 3) := by decide +kernel
theorem dJ13_numberOfLeadingZeros_95d88_21 : decode cJ13_numberOfLeadingZeros_95d88 21 = .ok (.iload_n 2, 1) := by decide +kernel
theorem dJ13_numberOfLeadingZeros_95d88_22 : decode cJ13_numberOfLeadingZeros_95d88 22 = .ok (.invokestatic 308, 3) := by decide +kernel
theorem dJ13_numberOfLeadingZeros_95d88_25 : decode cJ13_numberOfLeadingZeros_95d88 25 = .ok (.ireturn, 1) := by decide +kernel
theorem dJ9_floorMod_7cf53_0 : decode cJ9_floorMod_7cf53 0 = .ok (.iload_n 0, 1) := by decide +kernel
theorem dJ9_floorMod_7cf53_1 : decode cJ9_floorMod_7cf53 1 = .ok (.iload_n 1, 1) := by decide +kernel
theorem dJ9_floorMod_7cf53_2 : decode cJ9_floorMod_7cf53 2 = .ok (.irem, 1) := by decide +kernel
theorem dJ9_floorMod_7cf53_3 : decode cJ9_floorMod_7cf53 3 = .ok (.istore_n 2, 1) := by decide +kernel
theorem dJ9_floorMod_7cf53_4 : decode cJ9_floorMod_7cf53 4 = .ok (.iload_n 0, 1) := by decide +kernel
theorem dJ9_floorMod_7cf53_5 : decode cJ9_floorMod_7cf53 5 = .ok (.iload_n 1, 1) := by decide +kernel
theorem dJ9_floorMod_7cf53_6 : decode cJ9_floorMod_7cf53 6 = .ok (.ixor, 1) := by decide +kernel
theorem dJ9_floorMod_7cf53_7 : decode cJ9_floorMod_7cf53 7 = .ok (.ifCond .ge 11, 3) := by decide +kernel
theorem dJ9_floorMod_7cf53_10 : decode cJ9_floorMod_7cf53 10 = .ok (.iload_n 2, 1) := by decide +kernel
theorem dJ9_floorMod_7cf53_11 : decode cJ9_floorMod_7cf53 11 = .ok (.ifCond .eq 7, 3) := by decide +kernel
theorem dJ9_floorMod_7cf53_14 : decode cJ9_floorMod_7cf53 14 = .ok (.iload_n 2, 1) := by decide +kernel
theorem dJ9_floorMod_7cf53_15 : decode cJ9_floorMod_7cf53 15 = .ok (.iload_n 1, 1) := by decide +kernel
theorem dJ9_floorMod_7cf53_16 : decode cJ9_floorMod_7cf53 16 = .ok (.iadd, 1) := by decide +kernel
theorem dJ9_floorMod_7cf53_17 : decode cJ9_floorMod_7cf53 17 = .ok (.ireturn, 1) := by decide +kernel
theorem dJ9_floorMod_7cf53_18 : decode cJ9_floorMod_7cf53 18 = .ok (.iload_n 2, 1) := by decide +kernel
theorem dJ9_floorMod_7cf53_19 : decode cJ9_floorMod_7cf53 19 = .ok (.ireturn, 1) := by decide +kernel
theorem dJ9_abs_067f4_0 : decode cJ9_abs_067f4 0 = .ok (.lload_n 0, 1) := by decide +kernel
theorem dJ9_abs_067f4_1 : decode cJ9_abs_067f4 1 = .ok (.lconst 0, 1) := by decide +kernel
theorem dJ9_abs_067f4_2 : decode cJ9_abs_067f4 2 = .ok (.lcmp, 1) := by decide +kernel
theorem dJ9_abs_067f4_3 : decode cJ9_abs_067f4 3 = .ok (.ifCond .ge 8, 3) := by decide +kernel
theorem dJ9_abs_067f4_6 : decode cJ9_abs_067f4 6 = .ok (.lload_n 0, 1) := by decide +kernel
theorem dJ9_abs_067f4_7 : decode cJ9_abs_067f4 7 = .ok (.lneg, 1) := by decide +kernel
theorem dJ9_abs_067f4_8 : decode cJ9_abs_067f4 8 = .ok (.goto 4, 3) := by decide +kernel
theorem dJ9_abs_067f4_11 : decode cJ9_abs_067f4 11 = .ok (.lload_n 0, 1) := by decide +kernel
theorem dJ9_abs_067f4_12 : decode cJ9_abs_067f4 12 = .ok (.lreturn, 1) := by decide +kernel
theorem dJ9_max_7cf53_0 : decode cJ9_max_7cf53 0 = .ok (.iload_n 0, 1) := by decide +kernel
theorem dJ9_max_7cf53_1 : decode cJ9_max_7cf53 1 = .ok (.iload_n 1, 1) := by decide +kernel
theorem dJ9_max_7cf53_2 : decode cJ9_max_7cf53 2 = .ok (.if_icmp .lt 7, 3) := by decide +kernel
theorem dJ9_max_7cf53_5 : decode cJ9_max_7cf53 5 = .ok (.iload_n 0, 1) := by decide +kernel
theorem dJ9_max_7cf53_6 : decode cJ9_max_7cf53 6 = .ok (.goto 4, 3) := by decide +kernel
theorem dJ9_max_7cf53_9 : decode cJ9_max_7cf53 9 = .ok (.iload_n 1, 1) := by decide +kernel
theorem dJ9_max_7cf53_10 : decode cJ9_max_7cf53 10 = .ok (.ireturn, 1) := by decide +kernel
theorem dJ9_min_7cf53_0 : decode cJ9_min_7cf53 0 = .ok (.iload_n 0, 1) := by decide +kernel
theorem dJ9_min_7cf53_1 : decode cJ9_min_7cf53 1 = .ok (.iload_n 1, 1) := by decide +kernel
theorem dJ9_min_7cf53_2 : decode cJ9_min_7cf53 2 = .ok (.if_icmp .gt 7, 3) := by decide +kernel
theorem dJ9_min_7cf53_5 : decode cJ9_min_7cf53 5 = .ok (.iload_n 0, 1) := by decide +kernel
theorem dJ9_min_7cf53_6 : decode cJ9_min_7cf53 6 = .ok (.goto 4, 3) := by decide +kernel
theorem dJ9_min_7cf53_9 : decode cJ9_min_7cf53 9 = .ok (.iload_n 1, 1) := by decide +kernel
theorem dJ9_min_7cf53_10 : decode cJ9_min_7cf53 10 = .ok (.ireturn, 1) := by decide +kernel
theorem dJ9_min_f86c9_0 : decode cJ9_min_f86c9 0 = .ok (.lload_n 0, 1) := by decide +kernel
theorem dJ9_min_f86c9_1 : decode cJ9_min_f86c9 1 = .ok (.lload_n 2, 1) := by decide +kernel
theorem dJ9_min_f86c9_2 : decode cJ9_min_f86c9 2 = .ok (.lcmp, 1) := by decide +kernel
theorem dJ9_min_f86c9_3 : decode cJ9_min_f86c9 3 = .ok (.ifCond .gt 7, 3) := by decide +kernel
theorem dJ9_min_f86c9_6 : decode cJ9_min_f86c9 6 = .ok (.lload_n 0, 1) := by decide +kernel
theorem dJ9_min_f86c9_7 : decode cJ9_min_f86c9 7 = .ok (.goto 4, 3) := by decide +kernel
theorem dJ9_min_f86c9_10 : decode cJ9_min_f86c9 10 = .ok (.lload_n 2, 1) := by decide +kernel
theorem dJ9_min_f86c9_11 : decode cJ9_min_f86c9 11 = .ok (.lreturn, 1) := by decide +kernel
theorem dJ0_length_8abf5_0 : decode cJ0_length_8abf5 0 = .ok (.aload_n 0, 1) := by decide +kernel
theorem dJ0_length_8abf5_1 : decode cJ0_length_8abf5 1 = .ok (.getfield 9, 3) := by decide +kernel
theorem dJ0_length_8abf5_4 : decode cJ0_length_8abf5 4 = .ok (.arraylength, 1) := by decide +kernel
theorem dJ0_length_8abf5_5 : decode cJ0_length_8abf5 5 = .ok (.aload_n 0, 1) := by decide +kernel
theorem dJ0_length_8abf5_6 : decode cJ0_length_8abf5 6 = .ok (.invokevirtual 335, 3) := by decide +kernel
theorem dJ0_length_8abf5_9 : decode cJ0_length_8abf5 9 = .ok (.ishr, 1) := by decide +kernel
theorem dJ0_length_8abf5_10 : decode cJ0_length_8abf5 10 = .ok (.ireturn, 1) := by decide +kernel
theorem dJ0_charAt_5068e_0 : decode cJ0_charAt_5068e 0 = .ok (.aload_n 0, 1) := by decide +kernel
theorem dJ0_charAt_5068e_1 : decode cJ0_charAt_5068e 1 = .ok (.invokevirtual 492, 3) := by decide +kernel
theorem dJ0_charAt_5068e_4 : decode cJ0_charAt_5068e 4 = .ok (.ifCond .eq 12, 3) := by decide +kernel
theorem dJ0_charAt_5068e_7 : decode cJ0_charAt_5068e 7 = .ok (.aload_n 0, 1) := by decide +kernel
theorem dJ0_charAt_5068e_8 : decode cJ0_charAt_5068e 8 = .ok (.getfield 9, 3) := by decide +kernel
theorem dJ0_charAt_5068e_11 : decode cJ0_charAt_5068e 11 = .ok (.iload_n 1, 1) := by decide +kernel
theorem dJ0_charAt_5068e_12 : decode cJ0_charAt_5068e 12 = .ok (.invokestatic 495, 3) := by decide +kernel
theorem dJ0_charAt_5068e_15 : decode cJ0_charAt_5068e 15 = .ok (.ireturn, 1) := by decide +kernel
theorem dJ0_charAt_5068e_16 : decode cJ0_charAt_5068e 16 = .ok (.aload_n 0, 1) := by decide +kernel
theorem dJ0_charAt_5068e_17 : decode cJ0_charAt_5068e 17 = .ok (.getfield 9, 3) := by decide +kernel
theorem dJ0_charAt_5068e_20 : decode cJ0_charAt_5068e 20 = .ok (.iload_n 1, 1) := by decide +kernel
theorem dJ0_charAt_5068e_21 : decode cJ0_charAt_5068e 21 = .ok (.invokestatic 498, 3) := by decide +kernel
theorem dJ0_charAt_5068e_24 : decode cJ0_charAt_5068e 24 = .ok (.ireturn, 1) := by decide +kernel
theorem dJ0_coder_7d493_0 : decode cJ0_coder_7d493 0 = .ok (.getstatic 38, 3) := by decide +kernel
theorem dJ0_coder_7d493_3 : decode cJ0_coder_7d493 3 = .ok (.ifCond .eq 10, 3) := by decide +kernel
theorem dJ0_coder_7d493_6 : decode cJ0_coder_7d493 6 = .ok (.aload_n 0, 1) := by decide +kernel
theorem dJ0_coder_7d493_7 : decode cJ0_coder_7d493 7 = .ok (.getfield 15, 3) := by decide +kernel
theorem dJ0_coder_7d493_10 : decode cJ0_coder_7d493 10 = .ok (.goto 4, 3) := by decide +kernel
theorem dJ0_coder_7d493_13 : decode cJ0_coder_7d493 13 = .ok (.iconst 1, 1) := by decide +kernel
theorem dJ0_coder_7d493_14 : decode cJ0_coder_7d493 14 = .ok (.ireturn, 1) := by decide +kernel
theorem dJ0_isLatin1_aae02_0 : decode cJ0_isLatin1_aae02 0 = .ok (.getstatic 38, 3) := by decide +kernel
theorem dJ0_isLatin1_aae02_3 : decode cJ0_isLatin1_aae02 3 = .ok (.ifCond .eq 14, 3) := by decide +kernel
theorem dJ0_isLatin1_aae02_6 : decode cJ0_isLatin1_aae02 6 = .ok (.aload_n 0, 1) := by decide +kernel
theorem dJ0_isLatin1_aae02_7 : decode cJ0_isLatin1_aae02 7 = .ok (.getfield 15, 3) := by decide +kernel
theorem dJ0_isLatin1_aae02_10 : decode cJ0_isLatin1_aae02 10 = .ok (.ifCond .ne 7, 3) := by decide +kernel
theorem dJ0_isLatin1_aae02_13 : decode cJ0_isLatin1_aae02 13 = .ok (.iconst 1, 1) := by decide +kernel
theorem dJ0_isLatin1_aae02_14 : decode cJ0_isLatin1_aae02 14 = .ok (.goto 4, 3) := by decide +kernel
theorem dJ0_isLatin1_aae02_17 : decode cJ0_isLatin1_aae02 17 = .ok (.iconst 0, 1) := by decide +kernel
theorem dJ0_isLatin1_aae02_18 : decode cJ0_isLatin1_aae02 18 = .ok (.ireturn, 1) := by decide +kernel
theorem dJ0_checkIndex_df160_0 : decode cJ0_checkIndex_df160 0 = .ok (.iload_n 0, 1) := by decide +kernel
theorem dJ0_checkIndex_df160_1 : decode cJ0_checkIndex_df160 1 = .ok (.iload_n 1, 1) := by decide +kernel
theorem dJ0_checkIndex_df160_2 : decode cJ0_checkIndex_df160 2 = .ok (.getstatic 1053, 3) := by decide +kernel
theorem dJ0_checkIndex_df160_5 : decode cJ0_checkIndex_df160 5 = .ok (.invokestatic 1059, 3) := by decide +kernel
theorem dJ0_checkIndex_df160_8 : decode cJ0_checkIndex_df160 8 = .ok (.pop, 1) := by decide +kernel
theorem dJ0_checkIndex_df160_9 : decode cJ0_checkIndex_df160 9 = .ok (.return_, 1) := by decide +kernel
theorem dJ1_charAt_3b067_0 : decode cJ1_charAt_3b067 0 = .ok (.iload_n 1, 1) := by decide +kernel
theorem dJ1_charAt_3b067_1 : decode cJ1_charAt_3b067 1 = .ok (.aload_n 0, 1) := by decide +kernel
theorem dJ1_charAt_3b067_2 : decode cJ1_charAt_3b067 2 = .ok (.arraylength, 1) := by decide +kernel
theorem dJ1_charAt_3b067_3 : decode cJ1_charAt_3b067 3 = .ok (.invokestatic 9, 3) := by decide +kernel
theorem dJ1_charAt_3b067_6 : decode cJ1_charAt_3b067 6 = .ok (.aload_n 0, 1) := by decide +kernel
theorem dJ1_charAt_3b067_7 : decode cJ1_charAt_3b067 7 = .ok (.iload_n 1, 1) := by decide +kernel
theorem dJ1_charAt_3b067_8 : decode cJ1_charAt_3b067 8 = .ok (.baload, 1) := by decide +kernel
theorem dJ1_charAt_3b067_9 : decode cJ1_charAt_3b067 9 = .ok (.sipush 255, 3) := by decide +kernel
theorem dJ1_charAt_3b067_12 : decode cJ1_charAt_3b067 12 = .ok (.iand, 1) := by decide +kernel
theorem dJ1_charAt_3b067_13 : decode cJ1_charAt_3b067 13 = .ok (.i2c, 1) := by decide +kernel
theorem dJ1_charAt_3b067_14 : decode cJ1_charAt_3b067 14 = .ok (.ireturn, 1) := by decide +kernel
theorem dJ2_getChar_3b067_0 : decode cJ2_getChar_3b067 0 = .ok (.getstatic 44, 3) := by decide +kernel
theorem dJ2_getChar_3b067_3 : decode cJ2_getChar_3b067 3 = .ok (.ifCond .ne 25, 3) := by decide +kernel
theorem dJ2_getChar_3b067_6 : decode cJ2_getChar_3b067 6 = .ok (.iload_n 1, 1) := by decide +kernel
theorem dJ2_getChar_3b067_7 : decode cJ2_getChar_3b067 7 = .ok (.ifCond .lt 11, 3) := by decide +kernel
theorem dJ2_getChar_3b067_10 : decode cJ2_getChar_3b067 10 = .ok (.iload_n 1, 1) := by decide +kernel
theorem dJ2_getChar_3b067_11 : decode cJ2_getChar_3b067 11 = .ok (.aload_n 0, 1) := by decide +kernel
theorem dJ2_getChar_3b067_12 : decode cJ2_getChar_3b067 12 = .ok (.invokestatic 48, 3) := by decide +kernel
theorem dJ2_getChar_3b067_15 : decode cJ2_getChar_3b067 15 = .ok (.if_icmp .lt 13, 3) := by decide +kernel
theorem dJ2_getChar_3b067_18 : decode cJ2_getChar_3b067 18 = .ok (.new 52, 3) := by decide +kernel
theorem dJ2_getChar_3b067_21 : decode cJ2_getChar_3b067 21 = .ok (.dup, 1) := by decide +kernel
theorem dJ2_getChar_3b067_22 : decode cJ2_getChar_3b067 22 = .ok (.ldc 54, 2) := by decide +kernel
theorem dJ2_getChar_3b067_24 : decode cJ2_getChar_3b067 24 = .ok (.invokespecial 56, 3) := by decide +kernel
theorem dJ2_getChar_3b067_27 : decode cJ2_getChar_3b067 27 = .ok (.athrow, 1) := by decide +kernel
theorem dJ2_getChar_3b067_28 : decode cJ2_getChar_3b067 28 = .ok (.iload_n 1, 1) := by decide +kernel
theorem dJ2_getChar_3b067_29 : decode cJ2_getChar_3b067 29 = .ok (.iconst 1, 1) := by decide +kernel
theorem dJ2_getChar_3b067_30 : decode cJ2_getChar_3b067 30 = .ok (.ishl, 1) := by decide +kernel
theorem dJ2_getChar_3b067_31 : decode cJ2_getChar_3b067 31 = .ok (.istore_n 1, 1) := by decide +kernel
theorem dJ2_getChar_3b067_32 : decode cJ2_getChar_3b067 32 = .ok (.aload_n 0, 1) := by decide +kernel
theorem dJ2_getChar_3b067_33 : decode cJ2_getChar_3b067 33 = .ok (.iload_n 1, 1) := by decide +kernel
theorem dJ2_getChar_3b067_34 : decode cJ2_getChar_3b067 34 = .ok (.iinc 1 1, 3) := by decide +kernel
theorem dJ2_getChar_3b067_37 : decode cJ2_getChar_3b067 37 = .ok (.baload, 1) := by decide +kernel
theorem dJ2_getChar_3b067_38 : decode cJ2_getChar_3b067 38 = .ok (.sipush 255, 3) := by decide +kernel
theorem dJ2_getChar_3b067_41 : decode cJ2_getChar_3b067 41 = .ok (.iand, 1) := by decide +kernel
theorem dJ2_getChar_3b067_42 : decode cJ2_getChar_3b067 42 = .ok (.getstatic 59, 3) := by decide +kernel
theorem dJ2_getChar_3b067_45 : decode cJ2_getChar_3b067 45 = .ok (.ishl, 1) := by decide +kernel
theorem dJ2_getChar_3b067_46 : decode cJ2_getChar_3b067 46 = .ok (.aload_n 0, 1) := by decide +kernel
theorem dJ2_getChar_3b067_47 : decode cJ2_getChar_3b067 47 = .ok (.iload_n 1, 1) := by decide +kernel
theorem dJ2_getChar_3b067_48 : decode cJ2_getChar_3b067 48 = .ok (.baload, 1) := by decide +kernel
theorem dJ2_getChar_3b067_49 : decode cJ2_getChar_3b067 49 = .ok (.sipush 255, 3) := by decide +kernel
theorem dJ2_getChar_3b067_52 : decode cJ2_getChar_3b067 52 = .ok (.iand, 1) := by decide +kernel
theorem dJ2_getChar_3b067_53 : decode cJ2_getChar_3b067 53 = .ok (.getstatic 63, 3) := by decide +kernel
theorem dJ2_getChar_3b067_56 : decode cJ2_getChar_3b067 56 = .ok (.ishl, 1) := by decide +kernel
theorem dJ2_getChar_3b067_57 : decode cJ2_getChar_3b067 57 = .ok (.ior, 1) := by decide +kernel
theorem dJ2_getChar_3b067_58 : decode cJ2_getChar_3b067 58 = .ok (.i2c, 1) := by decide +kernel
theorem dJ2_getChar_3b067_59 : decode cJ2_getChar_3b067 59 = .ok (.ireturn, 1) := by decide +kernel
theorem dJ2_length_9d52b_0 : decode cJ2_length_9d52b 0 = .ok (.aload_n 0, 1) := by decide +kernel
theorem dJ2_length_9d52b_1 : decode cJ2_length_9d52b 1 = .ok (.arraylength, 1) := by decide +kernel
theorem dJ2_length_9d52b_2 : decode cJ2_length_9d52b 2 = .ok (.iconst 1, 1) := by decide +kernel
theorem dJ2_length_9d52b_3 : decode cJ2_length_9d52b 3 = .ok (.ishr, 1) := by decide +kernel
theorem dJ2_length_9d52b_4 : decode cJ2_length_9d52b 4 = .ok (.ireturn, 1) := by decide +kernel
theorem dJ2_charAt_3b067_0 : decode cJ2_charAt_3b067 0 = .ok (.iload_n 1, 1) := by decide +kernel
theorem dJ2_charAt_3b067_1 : decode cJ2_charAt_3b067 1 = .ok (.aload_n 0, 1) := by decide +kernel
theorem dJ2_charAt_3b067_2 : decode cJ2_charAt_3b067 2 = .ok (.invokestatic 67, 3) := by decide +kernel
theorem dJ2_charAt_3b067_5 : decode cJ2_charAt_3b067 5 = .ok (.aload_n 0, 1) := by decide +kernel
theorem dJ2_charAt_3b067_6 : decode cJ2_charAt_3b067 6 = .ok (.iload_n 1, 1) := by decide +kernel
theorem dJ2_charAt_3b067_7 : decode cJ2_charAt_3b067 7 = .ok (.invokestatic 71, 3) := by decide +kernel
theorem dJ2_charAt_3b067_10 : decode cJ2_charAt_3b067 10 = .ok (.ireturn, 1) := by decide +kernel
theorem dJ2_checkIndex_2214a_0 : decode cJ2_checkIndex_2214a 0 = .ok (.iload_n 0, 1) := by decide +kernel
theorem dJ2_checkIndex_2214a_1 : decode cJ2_checkIndex_2214a 1 = .ok (.aload_n 1, 1) := by decide +kernel
theorem dJ2_checkIndex_2214a_2 : decode cJ2_checkIndex_2214a 2 = .ok (.invokestatic 48, 3) := by decide +kernel
theorem dJ2_checkIndex_2214a_5 : decode cJ2_checkIndex_2214a 5 = .ok (.invokestatic 414, 3) := by decide +kernel
theorem dJ2_checkIndex_2214a_8 : decode cJ2_checkIndex_2214a 8 = .ok (.return_, 1) := by decide +kernel
theorem dJ3_checkIndex_8e157_0 : decode cJ3_checkIndex_8e157 0 = .ok (.iload_n 0, 1) := by decide +kernel
theorem dJ3_checkIndex_8e157_1 : decode cJ3_checkIndex_8e157 1 = .ok (.ifCond .lt 8, 3) := by decide +kernel
theorem dJ3_checkIndex_8e157_4 : decode cJ3_checkIndex_8e157 4 = .ok (.iload_n 0, 1) := by decide +kernel
theorem dJ3_checkIndex_8e157_5 : decode cJ3_checkIndex_8e157 5 = .ok (.iload_n 1, 1) := by decide +kernel
theorem dJ3_checkIndex_8e157_6 : decode cJ3_checkIndex_8e157 6 = .ok (.if_icmp .lt 10, 3) := by decide +kernel
theorem dJ3_checkIndex_8e157_9 : decode cJ3_checkIndex_8e157 9 = .ok (.aload_n 2, 1) := by decide +kernel
theorem dJ3_checkIndex_8e157_10 : decode cJ3_checkIndex_8e157 10 = .ok (.iload_n 0, 1) := by decide +kernel
theorem dJ3_checkIndex_8e157_11 : decode cJ3_checkIndex_8e157 11 = .ok (.iload_n 1, 1) := by decide +kernel
theorem dJ3_checkIndex_8e157_12 : decode cJ3_checkIndex_8e157 12 = .ok (.invokestatic 95, 3) := by decide +kernel
theorem dJ3_checkIndex_8e157_15 : decode cJ3_checkIndex_8e157 15 = .ok (.athrow, 1) := by decide +kernel
theorem dJ3_checkIndex_8e157_16 : decode cJ3_checkIndex_8e157 16 = .ok (.iload_n 0, 1) := by decide +kernel
theorem dJ3_checkIndex_8e157_17 : decode cJ3_checkIndex_8e157 17 = .ok (.ireturn, 1) := by decide +kernel
