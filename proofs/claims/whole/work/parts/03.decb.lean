theorem dX10_init_0 : decode cX10_init 0 = .ok (.aload_n 0, 1) := by decide +kernel
theorem dX10_init_1 : decode cX10_init 1 = .ok (.invokespecial 1, 3) := by decide +kernel
theorem dX10_init_4 : decode cX10_init 4 = .ok (.aload_n 0, 1) := by decide +kernel
theorem dX10_init_5 : decode cX10_init 5 = .ok (.sipush 700, 3) := by decide +kernel
theorem dX10_init_8 : decode cX10_init 8 = .ok (.newarray .int, 2) := by decide +kernel
theorem dX10_init_10 : decode cX10_init 10 = .ok (.putfield 7, 3) := by decide +kernel
theorem dX10_init_13 : decode cX10_init 13 = .ok (.aload_n 0, 1) := by decide +kernel
theorem dX10_init_14 : decode cX10_init 14 = .ok (.bipush 20, 2) := by decide +kernel
theorem dX10_init_16 : decode cX10_init 16 = .ok (.newarray .int, 2) := by decide +kernel
theorem dX10_init_18 : decode cX10_init 18 = .ok (.putfield 13, 3) := by decide +kernel
theorem dX10_init_21 : decode cX10_init 21 = .ok (.aload_n 0, 1) := by decide +kernel
theorem dX10_init_22 : decode cX10_init 22 = .ok (.iconst 5, 1) := by decide +kernel
theorem dX10_init_23 : decode cX10_init 23 = .ok (.newarray .boolean, 2) := by decide +kernel
theorem dX10_init_25 : decode cX10_init 25 = .ok (.putfield 16, 3) := by decide +kernel
theorem dX10_init_28 : decode cX10_init 28 = .ok (.aload_n 0, 1) := by decide +kernel
theorem dX10_init_29 : decode cX10_init 29 = .ok (.bipush 80, 2) := by decide +kernel
theorem dX10_init_31 : decode cX10_init 31 = .ok (.newarray .int, 2) := by decide +kernel
theorem dX10_init_33 : decode cX10_init 33 = .ok (.putfield 20, 3) := by decide +kernel
theorem dX10_init_36 : decode cX10_init 36 = .ok (.aload_n 0, 1) := by decide +kernel
theorem dX10_init_37 : decode cX10_init 37 = .ok (.bipush 80, 2) := by decide +kernel
theorem dX10_init_39 : decode cX10_init 39 = .ok (.newarray .int, 2) := by decide +kernel
theorem dX10_init_41 : decode cX10_init 41 = .ok (.putfield 23, 3) := by decide +kernel
theorem dX10_init_44 : decode cX10_init 44 = .ok (.aload_n 0, 1) := by decide +kernel
theorem dX10_init_45 : decode cX10_init 45 = .ok (.bipush 80, 2) := by decide +kernel
theorem dX10_init_47 : decode cX10_init 47 = .ok (.newarray .int, 2) := by decide +kernel
theorem dX10_init_49 : decode cX10_init 49 = .ok (.putfield 26, 3) := by decide +kernel
theorem dX10_init_52 : decode cX10_init 52 = .ok (.aload_n 0, 1) := by decide +kernel
theorem dX10_init_53 : decode cX10_init 53 = .ok (.bipush 80, 2) := by decide +kernel
theorem dX10_init_55 : decode cX10_init 55 = .ok (.newarray .int, 2) := by decide +kernel
theorem dX10_init_57 : decode cX10_init 57 = .ok (.putfield 29, 3) := by decide +kernel
theorem dX10_init_60 : decode cX10_init 60 = .ok (.aload_n 0, 1) := by decide +kernel
theorem dX10_init_61 : decode cX10_init 61 = .ok (.bipush 80, 2) := by decide +kernel
theorem dX10_init_63 : decode cX10_init 63 = .ok (.newarray .int, 2) := by decide +kernel
theorem dX10_init_65 : decode cX10_init 65 = .ok (.putfield 32, 3) := by decide +kernel
theorem dX10_init_68 : decode cX10_init 68 = .ok (.aload_n 0, 1) := by decide +kernel
theorem dX10_init_69 : decode cX10_init 69 = .ok (.bipush 80, 2) := by decide +kernel
theorem dX10_init_71 : decode cX10_init 71 = .ok (.newarray .int, 2) := by decide +kernel
theorem dX10_init_73 : decode cX10_init 73 = .ok (.putfield 35, 3) := by decide +kernel
theorem dX10_init_76 : decode cX10_init 76 = .ok (.aload_n 0, 1) := by decide +kernel
theorem dX10_init_77 : decode cX10_init 77 = .ok (.bipush 80, 2) := by decide +kernel
theorem dX10_init_79 : decode cX10_init 79 = .ok (.newarray .int, 2) := by decide +kernel
theorem dX10_init_81 : decode cX10_init 81 = .ok (.putfield 38, 3) := by decide +kernel
theorem dX10_init_84 : decode cX10_init 84 = .ok (.aload_n 0, 1) := by decide +kernel
theorem dX10_init_85 : decode cX10_init 85 = .ok (.sipush 280, 3) := by decide +kernel
theorem dX10_init_88 : decode cX10_init 88 = .ok (.newarray .int, 2) := by decide +kernel
theorem dX10_init_90 : decode cX10_init 90 = .ok (.putfield 41, 3) := by decide +kernel
theorem dX10_init_93 : decode cX10_init 93 = .ok (.aload_n 0, 1) := by decide +kernel
theorem dX10_init_94 : decode cX10_init 94 = .ok (.sipush 280, 3) := by decide +kernel
theorem dX10_init_97 : decode cX10_init 97 = .ok (.newarray .int, 2) := by decide +kernel
theorem dX10_init_99 : decode cX10_init 99 = .ok (.putfield 44, 3) := by decide +kernel
theorem dX10_init_102 : decode cX10_init 102 = .ok (.aload_n 0, 1) := by decide +kernel
theorem dX10_init_103 : decode cX10_init 103 = .ok (.bipush 64, 2) := by decide +kernel
theorem dX10_init_105 : decode cX10_init 105 = .ok (.newarray .int, 2) := by decide +kernel
theorem dX10_init_107 : decode cX10_init 107 = .ok (.putfield 47, 3) := by decide +kernel
theorem dX10_init_110 : decode cX10_init 110 = .ok (.aload_n 0, 1) := by decide +kernel
theorem dX10_init_111 : decode cX10_init 111 = .ok (.bipush 32, 2) := by decide +kernel
theorem dX10_init_113 : decode cX10_init 113 = .ok (.newarray .boolean, 2) := by decide +kernel
theorem dX10_init_115 : decode cX10_init 115 = .ok (.putfield 50, 3) := by decide +kernel
theorem dX10_init_118 : decode cX10_init 118 = .ok (.aload_n 0, 1) := by decide +kernel
theorem dX10_init_119 : decode cX10_init 119 = .ok (.iconst (-1), 1) := by decide +kernel
theorem dX10_init_120 : decode cX10_init 120 = .ok (.putfield 53, 3) := by decide +kernel
theorem dX10_init_123 : decode cX10_init 123 = .ok (.aload_n 0, 1) := by decide +kernel
theorem dX10_init_124 : decode cX10_init 124 = .ok (.sipush 314, 3) := by decide +kernel
theorem dX10_init_127 : decode cX10_init 127 = .ok (.newarray .int, 2) := by decide +kernel
theorem dX10_init_129 : decode cX10_init 129 = .ok (.putfield 57, 3) := by decide +kernel
theorem dX10_init_132 : decode cX10_init 132 = .ok (.aload_n 0, 1) := by decide +kernel
theorem dX10_init_133 : decode cX10_init 133 = .ok (.sipush 314, 3) := by decide +kernel
theorem dX10_init_136 : decode cX10_init 136 = .ok (.newarray .int, 2) := by decide +kernel
theorem dX10_init_138 : decode cX10_init 138 = .ok (.putfield 60, 3) := by decide +kernel
theorem dX10_init_141 : decode cX10_init 141 = .ok (.aload_n 0, 1) := by decide +kernel
theorem dX10_init_142 : decode cX10_init 142 = .ok (.sipush 314, 3) := by decide +kernel
theorem dX10_init_145 : decode cX10_init 145 = .ok (.newarray .int, 2) := by decide +kernel
theorem dX10_init_147 : decode cX10_init 147 = .ok (.putfield 63, 3) := by decide +kernel
theorem dX10_init_150 : decode cX10_init 150 = .ok (.aload_n 0, 1) := by decide +kernel
theorem dX10_init_151 : decode cX10_init 151 = .ok (.sipush 314, 3) := by decide +kernel
theorem dX10_init_154 : decode cX10_init 154 = .ok (.newarray .int, 2) := by decide +kernel
theorem dX10_init_156 : decode cX10_init 156 = .ok (.putfield 66, 3) := by decide +kernel
theorem dX10_init_159 : decode cX10_init 159 = .ok (.aload_n 0, 1) := by decide +kernel
theorem dX10_init_160 : decode cX10_init 160 = .ok (.iconst 3, 1) := by decide +kernel
theorem dX10_init_161 : decode cX10_init 161 = .ok (.newarray .int, 2) := by decide +kernel
theorem dX10_init_163 : decode cX10_init 163 = .ok (.putfield 69, 3) := by decide +kernel
theorem dX10_init_166 : decode cX10_init 166 = .ok (.aload_n 0, 1) := by decide +kernel
theorem dX10_init_167 : decode cX10_init 167 = .ok (.bipush 8, 2) := by decide +kernel
theorem dX10_init_169 : decode cX10_init 169 = .ok (.newarray .int, 2) := by decide +kernel
theorem dX10_init_171 : decode cX10_init 171 = .ok (.putfield 72, 3) := by decide +kernel
theorem dX10_init_174 : decode cX10_init 174 = .ok (.aload_n 0, 1) := by decide +kernel
theorem dX10_init_175 : decode cX10_init 175 = .ok (.iconst 4, 1) := by decide +kernel
theorem dX10_init_176 : decode cX10_init 176 = .ok (.newarray .int, 2) := by decide +kernel
theorem dX10_init_178 : decode cX10_init 178 = .ok (.putfield 75, 3) := by decide +kernel
theorem dX10_init_181 : decode cX10_init 181 = .ok (.aload_n 0, 1) := by decide +kernel
theorem dX10_init_182 : decode cX10_init 182 = .ok (.bipush 32, 2) := by decide +kernel
theorem dX10_init_184 : decode cX10_init 184 = .ok (.newarray .int, 2) := by decide +kernel
theorem dX10_init_186 : decode cX10_init 186 = .ok (.putfield 78, 3) := by decide +kernel
theorem dX10_init_189 : decode cX10_init 189 = .ok (.aload_n 0, 1) := by decide +kernel
theorem dX10_init_190 : decode cX10_init 190 = .ok (.sipush 999, 3) := by decide +kernel
theorem dX10_init_193 : decode cX10_init 193 = .ok (.newarray .int, 2) := by decide +kernel
theorem dX10_init_195 : decode cX10_init 195 = .ok (.putfield 81, 3) := by decide +kernel
theorem dX10_init_198 : decode cX10_init 198 = .ok (.aload_n 0, 1) := by decide +kernel
theorem dX10_init_199 : decode cX10_init 199 = .ok (.invokevirtual 84, 3) := by decide +kernel
theorem dX10_init_202 : decode cX10_init 202 = .ok (.aload_n 0, 1) := by decide +kernel
theorem dX10_init_203 : decode cX10_init 203 = .ok (.invokevirtual 87, 3) := by decide +kernel
theorem dX10_init_206 : decode cX10_init 206 = .ok (.return_, 1) := by decide +kernel
theorem dX10_thrown_0 : decode cX10_thrown 0 = .ok (.aload_n 0, 1) := by decide +kernel
theorem dX10_thrown_1 : decode cX10_thrown 1 = .ok (.getfield 90, 3) := by decide +kernel
theorem dX10_thrown_4 : decode cX10_thrown 4 = .ok (.ireturn, 1) := by decide +kernel
theorem dX10_feed_0 : decode cX10_feed 0 = .ok (.aload_n 0, 1) := by decide +kernel
theorem dX10_feed_1 : decode cX10_feed 1 = .ok (.iconst 0, 1) := by decide +kernel
theorem dX10_feed_2 : decode cX10_feed 2 = .ok (.putfield 90, 3) := by decide +kernel
theorem dX10_feed_5 : decode cX10_feed 5 = .ok (.aload_n 0, 1) := by decide +kernel
theorem dX10_feed_6 : decode cX10_feed 6 = .ok (.getfield 93, 3) := by decide +kernel
theorem dX10_feed_9 : decode cX10_feed 9 = .ok (.sipush 680, 3) := by decide +kernel
theorem dX10_feed_12 : decode cX10_feed 12 = .ok (.if_icmp .le 5, 3) := by decide +kernel
theorem dX10_feed_15 : decode cX10_feed 15 = .ok (.iconst (-1), 1) := by decide +kernel
theorem dX10_feed_16 : decode cX10_feed 16 = .ok (.ireturn, 1) := by decide +kernel
theorem dX10_feed_17 : decode cX10_feed 17 = .ok (.iconst 0, 1) := by decide +kernel
theorem dX10_feed_18 : decode cX10_feed 18 = .ok (.istore 6, 2) := by decide +kernel
theorem dX10_feed_20 : decode cX10_feed 20 = .ok (.iload 6, 2) := by decide +kernel
theorem dX10_feed_22 : decode cX10_feed 22 = .ok (.bipush 20, 2) := by decide +kernel
theorem dX10_feed_24 : decode cX10_feed 24 = .ok (.if_icmp .ge 86, 3) := by decide +kernel
theorem dX10_feed_27 : decode cX10_feed 27 = .ok (.iload 6, 2) := by decide +kernel
theorem dX10_feed_29 : decode cX10_feed 29 = .ok (.iconst 4, 1) := by decide +kernel
theorem dX10_feed_30 : decode cX10_feed 30 = .ok (.if_icmp .ge 7, 3) := by decide +kernel
theorem dX10_feed_33 : decode cX10_feed 33 = .ok (.iload_n 1, 1) := by decide +kernel
theorem dX10_feed_34 : decode cX10_feed 34 = .ok (.goto 39, 3) := by decide +kernel
theorem dX10_feed_37 : decode cX10_feed 37 = .ok (.iload 6, 2) := by decide +kernel
theorem dX10_feed_39 : decode cX10_feed 39 = .ok (.bipush 8, 2) := by decide +kernel
theorem dX10_feed_41 : decode cX10_feed 41 = .ok (.if_icmp .ge 7, 3) := by decide +kernel
theorem dX10_feed_44 : decode cX10_feed 44 = .ok (.iload_n 2, 1) := by decide +kernel
theorem dX10_feed_45 : decode cX10_feed 45 = .ok (.goto 28, 3) := by decide +kernel
theorem dX10_feed_48 : decode cX10_feed 48 = .ok (.iload 6, 2) := by decide +kernel
theorem dX10_feed_50 : decode cX10_feed 50 = .ok (.bipush 12, 2) := by decide +kernel
theorem dX10_feed_52 : decode cX10_feed 52 = .ok (.if_icmp .ge 7, 3) := by decide +kernel
theorem dX10_feed_55 : decode cX10_feed 55 = .ok (.iload_n 3, 1) := by decide +kernel
theorem dX10_feed_56 : decode cX10_feed 56 = .ok (.goto 17, 3) := by decide +kernel
theorem dX10_feed_59 : decode cX10_feed 59 = .ok (.iload 6, 2) := by decide +kernel
theorem dX10_feed_61 : decode cX10_feed 61 = .ok (.bipush 16, 2) := by decide +kernel
theorem dX10_feed_63 : decode cX10_feed 63 = .ok (.if_icmp .ge 8, 3) := by decide +kernel
theorem dX10_feed_66 : decode cX10_feed 66 = .ok (.iload 4, 2) := by decide +kernel
theorem dX10_feed_68 : decode cX10_feed 68 = .ok (.goto 5, 3) := by decide +kernel
theorem dX10_feed_71 : decode cX10_feed 71 = .ok (.iload 5, 2) := by decide +kernel
theorem dX10_feed_73 : decode cX10_feed 73 = .ok (.istore 7, 2) := by decide +kernel
theorem dX10_feed_75 : decode cX10_feed 75 = .ok (.aload_n 0, 1) := by decide +kernel
theorem dX10_feed_76 : decode cX10_feed 76 = .ok (.getfield 7, 3) := by decide +kernel
theorem dX10_feed_79 : decode cX10_feed 79 = .ok (.aload_n 0, 1) := by decide +kernel
theorem dX10_feed_80 : decode cX10_feed 80 = .ok (.getfield 93, 3) := by decide +kernel
theorem dX10_feed_83 : decode cX10_feed 83 = .ok (.iload 6, 2) := by decide +kernel
theorem dX10_feed_85 : decode cX10_feed 85 = .ok (.iadd, 1) := by decide +kernel
theorem dX10_feed_86 : decode cX10_feed 86 = .ok (.iload 7, 2) := by decide +kernel
theorem dX10_feed_88 : decode cX10_feed 88 = .ok (.bipush 24, 2) := by decide +kernel
theorem dX10_feed_90 : decode cX10_feed 90 = .ok (.bipush 8, 2) := by decide +kernel
theorem dX10_feed_92 : decode cX10_feed 92 = .ok (.iload 6, 2) := by decide +kernel
theorem dX10_feed_94 : decode cX10_feed 94 = .ok (.iconst 4, 1) := by decide +kernel
theorem dX10_feed_95 : decode cX10_feed 95 = .ok (.irem, 1) := by decide +kernel
theorem dX10_feed_96 : decode cX10_feed 96 = .ok (.imul, 1) := by decide +kernel
theorem dX10_feed_97 : decode cX10_feed 97 = .ok (.isub, 1) := by decide +kernel
theorem dX10_feed_98 : decode cX10_feed 98 = .ok (.ishr, 1) := by decide +kernel
theorem dX10_feed_99 : decode cX10_feed 99 = .ok (.sipush 255, 3) := by decide +kernel
theorem dX10_feed_102 : decode cX10_feed 102 = .ok (.iand, 1) := by decide +kernel
theorem dX10_feed_103 : decode cX10_feed 103 = .ok (.iastore, 1) := by decide +kernel
theorem dX10_feed_104 : decode cX10_feed 104 = .ok (.iinc 6 1, 3) := by decide +kernel
theorem dX10_feed_107 : decode cX10_feed 107 = .ok (.goto (-87), 3) := by decide +kernel
theorem dX10_feed_110 : decode cX10_feed 110 = .ok (.aload_n 0, 1) := by decide +kernel
theorem dX10_feed_111 : decode cX10_feed 111 = .ok (.dup, 1) := by decide +kernel
theorem dX10_feed_112 : decode cX10_feed 112 = .ok (.getfield 93, 3) := by decide +kernel
theorem dX10_feed_115 : decode cX10_feed 115 = .ok (.bipush 20, 2) := by decide +kernel
theorem dX10_feed_117 : decode cX10_feed 117 = .ok (.iadd, 1) := by decide +kernel
theorem dX10_feed_118 : decode cX10_feed 118 = .ok (.putfield 93, 3) := by decide +kernel
theorem dX10_feed_121 : decode cX10_feed 121 = .ok (.aload_n 0, 1) := by decide +kernel
theorem dX10_feed_122 : decode cX10_feed 122 = .ok (.getfield 93, 3) := by decide +kernel
theorem dX10_feed_125 : decode cX10_feed 125 = .ok (.ireturn, 1) := by decide +kernel
theorem dX10_here_0 : decode cX10_here 0 = .ok (.aload_n 0, 1) := by decide +kernel
theorem dX10_here_1 : decode cX10_here 1 = .ok (.getfield 96, 3) := by decide +kernel
theorem dX10_here_4 : decode cX10_here 4 = .ok (.aload_n 0, 1) := by decide +kernel
theorem dX10_here_5 : decode cX10_here 5 = .ok (.getfield 99, 3) := by decide +kernel
theorem dX10_here_8 : decode cX10_here 8 = .ok (.if_icmp .ge 15, 3) := by decide +kernel
theorem dX10_here_11 : decode cX10_here 11 = .ok (.aload_n 0, 1) := by decide +kernel
theorem dX10_here_12 : decode cX10_here 12 = .ok (.getfield 7, 3) := by decide +kernel
theorem dX10_here_15 : decode cX10_here 15 = .ok (.aload_n 0, 1) := by decide +kernel
theorem dX10_here_16 : decode cX10_here 16 = .ok (.getfield 96, 3) := by decide +kernel
theorem dX10_here_19 : decode cX10_here 19 = .ok (.iaload, 1) := by decide +kernel
theorem dX10_here_20 : decode cX10_here 20 = .ok (.goto 4, 3) := by decide +kernel
theorem dX10_here_23 : decode cX10_here 23 = .ok (.iconst (-1), 1) := by decide +kernel
theorem dX10_here_24 : decode cX10_here 24 = .ok (.ireturn, 1) := by decide +kernel
theorem dX10_isSmall_0 : decode cX10_isSmall 0 = .ok (.iload_n 0, 1) := by decide +kernel
theorem dX10_isSmall_1 : decode cX10_isSmall 1 = .ok (.bipush 97, 2) := by decide +kernel
theorem dX10_isSmall_3 : decode cX10_isSmall 3 = .ok (.if_icmp .lt 13, 3) := by decide +kernel
theorem dX10_isSmall_6 : decode cX10_isSmall 6 = .ok (.iload_n 0, 1) := by decide +kernel
theorem dX10_isSmall_7 : decode cX10_isSmall 7 = .ok (.bipush 122, 2) := by decide +kernel
theorem dX10_isSmall_9 : decode cX10_isSmall 9 = .ok (.if_icmp .gt 7, 3) := by decide +kernel
theorem dX10_isSmall_12 : decode cX10_isSmall 12 = .ok (.iconst 1, 1) := by decide +kernel
theorem dX10_isSmall_13 : decode cX10_isSmall 13 = .ok (.goto 4, 3) := by decide +kernel
theorem dX10_isSmall_16 : decode cX10_isSmall 16 = .ok (.iconst 0, 1) := by decide +kernel
theorem dX10_isSmall_17 : decode cX10_isSmall 17 = .ok (.ireturn, 1) := by decide +kernel
theorem dX10_isDigit_0 : decode cX10_isDigit 0 = .ok (.iload_n 0, 1) := by decide +kernel
theorem dX10_isDigit_1 : decode cX10_isDigit 1 = .ok (.bipush 48, 2) := by decide +kernel
theorem dX10_isDigit_3 : decode cX10_isDigit 3 = .ok (.if_icmp .lt 13, 3) := by decide +kernel
theorem dX10_isDigit_6 : decode cX10_isDigit 6 = .ok (.iload_n 0, 1) := by decide +kernel
theorem dX10_isDigit_7 : decode cX10_isDigit 7 = .ok (.bipush 57, 2) := by decide +kernel
theorem dX10_isDigit_9 : decode cX10_isDigit 9 = .ok (.if_icmp .gt 7, 3) := by decide +kernel
theorem dX10_isDigit_12 : decode cX10_isDigit 12 = .ok (.iconst 1, 1) := by decide +kernel
theorem dX10_isDigit_13 : decode cX10_isDigit 13 = .ok (.goto 4, 3) := by decide +kernel
theorem dX10_isDigit_16 : decode cX10_isDigit 16 = .ok (.iconst 0, 1) := by decide +kernel
theorem dX10_isDigit_17 : decode cX10_isDigit 17 = .ok (.ireturn, 1) := by decide +kernel
theorem dX10_token_0 : decode cX10_token 0 = .ok (.aload_n 0, 1) := by decide +kernel
theorem dX10_token_1 : decode cX10_token 1 = .ok (.invokevirtual 102, 3) := by decide +kernel
theorem dX10_token_4 : decode cX10_token 4 = .ok (.bipush 10, 2) := by decide +kernel
theorem dX10_token_6 : decode cX10_token 6 = .ok (.if_icmp .eq 12, 3) := by decide +kernel
theorem dX10_token_9 : decode cX10_token 9 = .ok (.aload_n 0, 1) := by decide +kernel
theorem dX10_token_10 : decode cX10_token 10 = .ok (.invokevirtual 102, 3) := by decide +kernel
theorem dX10_token_13 : decode cX10_token 13 = .ok (.bipush 32, 2) := by decide +kernel
theorem dX10_token_15 : decode cX10_token 15 = .ok (.if_icmp .ne 16, 3) := by decide +kernel
theorem dX10_token_18 : decode cX10_token 18 = .ok (.aload_n 0, 1) := by decide +kernel
theorem dX10_token_19 : decode cX10_token 19 = .ok (.dup, 1) := by decide +kernel
theorem dX10_token_20 : decode cX10_token 20 = .ok (.getfield 96, 3) := by decide +kernel
theorem dX10_token_23 : decode cX10_token 23 = .ok (.iconst 1, 1) := by decide +kernel
theorem dX10_token_24 : decode cX10_token 24 = .ok (.iadd, 1) := by decide +kernel
theorem dX10_token_25 : decode cX10_token 25 = .ok (.putfield 96, 3) := by decide +kernel
theorem dX10_token_28 : decode cX10_token 28 = .ok (.goto (-28), 3) := by decide +kernel
theorem dX10_token_31 : decode cX10_token 31 = .ok (.aload_n 0, 1) := by decide +kernel
theorem dX10_token_32 : decode cX10_token 32 = .ok (.aload_n 0, 1) := by decide +kernel
theorem dX10_token_33 : decode cX10_token 33 = .ok (.getfield 96, 3) := by decide +kernel
theorem dX10_token_36 : decode cX10_token 36 = .ok (.putfield 106, 3) := by decide +kernel
theorem dX10_token_39 : decode cX10_token 39 = .ok (.aload_n 0, 1) := by decide +kernel
theorem dX10_token_40 : decode cX10_token 40 = .ok (.invokevirtual 102, 3) := by decide +kernel
theorem dX10_token_43 : decode cX10_token 43 = .ok (.istore_n 1, 1) := by decide +kernel
theorem dX10_token_44 : decode cX10_token 44 = .ok (.iload_n 1, 1) := by decide +kernel
theorem dX10_token_45 : decode cX10_token 45 = .ok (.iconst (-1), 1) := by decide +kernel
theorem dX10_token_46 : decode cX10_token 46 = .ok (.if_icmp .ne 11, 3) := by decide +kernel
theorem dX10_token_49 : decode cX10_token 49 = .ok (.aload_n 0, 1) := by decide +kernel
theorem dX10_token_50 : decode cX10_token 50 = .ok (.iconst 4, 1) := by decide +kernel
theorem dX10_token_51 : decode cX10_token 51 = .ok (.putfield 109, 3) := by decide +kernel
theorem dX10_token_54 : decode cX10_token 54 = .ok (.goto 191, 3) := by decide +kernel
theorem dX10_token_57 : decode cX10_token 57 = .ok (.iload_n 1, 1) := by decide +kernel
theorem dX10_token_58 : decode cX10_token 58 = .ok (.invokestatic 112, 3) := by decide +kernel
theorem dX10_token_61 : decode cX10_token 61 = .ok (.ifCond .eq 84, 3) := by decide +kernel
theorem dX10_token_64 : decode cX10_token 64 = .ok (.aload_n 0, 1) := by decide +kernel
theorem dX10_token_65 : decode cX10_token 65 = .ok (.invokevirtual 102, 3) := by decide +kernel
theorem dX10_token_68 : decode cX10_token 68 = .ok (.invokestatic 112, 3) := by decide +kernel
theorem dX10_token_71 : decode cX10_token 71 = .ok (.ifCond .eq 16, 3) := by decide +kernel
theorem dX10_token_74 : decode cX10_token 74 = .ok (.aload_n 0, 1) := by decide +kernel
theorem dX10_token_75 : decode cX10_token 75 = .ok (.dup, 1) := by decide +kernel
theorem dX10_token_76 : decode cX10_token 76 = .ok (.getfield 96, 3) := by decide +kernel
theorem dX10_token_79 : decode cX10_token 79 = .ok (.iconst 1, 1) := by decide +kernel
theorem dX10_token_80 : decode cX10_token 80 = .ok (.iadd, 1) := by decide +kernel
theorem dX10_token_81 : decode cX10_token 81 = .ok (.putfield 96, 3) := by decide +kernel
theorem dX10_token_84 : decode cX10_token 84 = .ok (.goto (-20), 3) := by decide +kernel
theorem dX10_token_87 : decode cX10_token 87 = .ok (.aload_n 0, 1) := by decide +kernel
theorem dX10_token_88 : decode cX10_token 88 = .ok (.aload_n 0, 1) := by decide +kernel
theorem dX10_token_89 : decode cX10_token 89 = .ok (.invokevirtual 116, 3) := by decide +kernel
theorem dX10_token_92 : decode cX10_token 92 = .ok (.putfield 119, 3) := by decide +kernel
theorem dX10_token_95 : decode cX10_token 95 = .ok (.aload_n 0, 1) := by decide +kernel
theorem dX10_token_96 : decode cX10_token 96 = .ok (.aload_n 0, 1) := by decide +kernel
theorem dX10_token_97 : decode cX10_token 97 = .ok (.getfield 119, 3) := by decide +kernel
theorem dX10_token_100 : decode cX10_token 100 = .ok (.iconst (-1), 1) := by decide +kernel
theorem dX10_token_101 : decode cX10_token 101 = .ok (.if_icmp .eq 7, 3) := by decide +kernel
theorem dX10_token_104 : decode cX10_token 104 = .ok (.iconst 0, 1) := by decide +kernel
theorem dX10_token_105 : decode cX10_token 105 = .ok (.goto 22, 3) := by decide +kernel
theorem dX10_token_108 : decode cX10_token 108 = .ok (.aload_n 0, 1) := by decide +kernel
theorem dX10_token_109 : decode cX10_token 109 = .ok (.getfield 96, 3) := by decide +kernel
theorem dX10_token_112 : decode cX10_token 112 = .ok (.aload_n 0, 1) := by decide +kernel
theorem dX10_token_113 : decode cX10_token 113 = .ok (.getfield 106, 3) := by decide +kernel
theorem dX10_token_116 : decode cX10_token 116 = .ok (.isub, 1) := by decide +kernel
theorem dX10_token_117 : decode cX10_token 117 = .ok (.bipush 6, 2) := by decide +kernel
theorem dX10_token_119 : decode cX10_token 119 = .ok (.if_icmp .le 7, 3) := by decide +kernel
theorem dX10_token_122 : decode cX10_token 122 = .ok (.iconst 5, 1) := by decide +kernel
theorem dX10_token_123 : decode cX10_token 123 = .ok (.goto 4, 3) := by decide +kernel
theorem dX10_token_126 : decode cX10_token 126 = .ok (.iconst 1, 1) := by decide +kernel
theorem dX10_token_127 : decode cX10_token 127 = .ok (.putfield 109, 3) := by decide +kernel
theorem dX10_token_130 : decode cX10_token 130 = .ok (.aload_n 0, 1) := by decide +kernel
theorem dX10_token_131 : decode cX10_token 131 = .ok (.getfield 109, 3) := by decide +kernel
theorem dX10_token_134 : decode cX10_token 134 = .ok (.iconst 1, 1) := by decide +kernel
theorem dX10_token_135 : decode cX10_token 135 = .ok (.if_icmp .ne 110, 3) := by decide +kernel
theorem dX10_token_138 : decode cX10_token 138 = .ok (.aload_n 0, 1) := by decide +kernel
theorem dX10_token_139 : decode cX10_token 139 = .ok (.invokevirtual 122, 3) := by decide +kernel
theorem dX10_token_142 : decode cX10_token 142 = .ok (.goto 103, 3) := by decide +kernel
theorem dX10_token_145 : decode cX10_token 145 = .ok (.iload_n 1, 1) := by decide +kernel
theorem dX10_token_146 : decode cX10_token 146 = .ok (.invokestatic 125, 3) := by decide +kernel
theorem dX10_token_149 : decode cX10_token 149 = .ok (.ifCond .eq 71, 3) := by decide +kernel
theorem dX10_token_152 : decode cX10_token 152 = .ok (.aload_n 0, 1) := by decide +kernel
theorem dX10_token_153 : decode cX10_token 153 = .ok (.iconst 2, 1) := by decide +kernel
theorem dX10_token_154 : decode cX10_token 154 = .ok (.putfield 109, 3) := by decide +kernel
theorem dX10_token_157 : decode cX10_token 157 = .ok (.aload_n 0, 1) := by decide +kernel
theorem dX10_token_158 : decode cX10_token 158 = .ok (.iconst 0, 1) := by decide +kernel
theorem dX10_token_159 : decode cX10_token 159 = .ok (.putfield 119, 3) := by decide +kernel
theorem dX10_token_162 : decode cX10_token 162 = .ok (.aload_n 0, 1) := by decide +kernel
theorem dX10_token_163 : decode cX10_token 163 = .ok (.invokevirtual 102, 3) := by decide +kernel
theorem dX10_token_166 : decode cX10_token 166 = .ok (.invokestatic 125, 3) := by decide +kernel
theorem dX10_token_169 : decode cX10_token 169 = .ok (.ifCond .eq 76, 3) := by decide +kernel
theorem dX10_token_172 : decode cX10_token 172 = .ok (.aload_n 0, 1) := by decide +kernel
theorem dX10_token_173 : decode cX10_token 173 = .ok (.aload_n 0, 1) := by decide +kernel
theorem dX10_token_174 : decode cX10_token 174 = .ok (.getfield 119, 3) := by decide +kernel
theorem dX10_token_177 : decode cX10_token 177 = .ok (.ldc 128, 2) := by decide +kernel
theorem dX10_token_179 : decode cX10_token 179 = .ok (.if_icmp .le 10, 3) := by decide +kernel
theorem dX10_token_182 : decode cX10_token 182 = .ok (.aload_n 0, 1) := by decide +kernel
theorem dX10_token_183 : decode cX10_token 183 = .ok (.getfield 119, 3) := by decide +kernel
theorem dX10_token_186 : decode cX10_token 186 = .ok (.goto 18, 3) := by decide +kernel
theorem dX10_token_189 : decode cX10_token 189 = .ok (.bipush 10, 2) := by decide +kernel
theorem dX10_token_191 : decode cX10_token 191 = .ok (.aload_n 0, 1) := by decide +kernel
theorem dX10_token_192 : decode cX10_token 192 = .ok (.getfield 119, 3) := by decide +kernel
theorem dX10_token_195 : decode cX10_token 195 = .ok (.imul, 1) := by decide +kernel
theorem dX10_token_196 : decode cX10_token 196 = .ok (.aload_n 0, 1) := by decide +kernel
theorem dX10_token_197 : decode cX10_token 197 = .ok (.invokevirtual 102, 3) := by decide +kernel
theorem dX10_token_200 : decode cX10_token 200 = .ok (.iadd, 1) := by decide +kernel
theorem dX10_token_201 : decode cX10_token 201 = .ok (.bipush 48, 2) := by decide +kernel
theorem dX10_token_203 : decode cX10_token 203 = .ok (.isub, 1) := by decide +kernel
theorem dX10_token_204 : decode cX10_token 204 = .ok (.putfield 119, 3) := by decide +kernel
theorem dX10_token_207 : decode cX10_token 207 = .ok (.aload_n 0, 1) := by decide +kernel
theorem dX10_token_208 : decode cX10_token 208 = .ok (.dup, 1) := by decide +kernel
theorem dX10_token_209 : decode cX10_token 209 = .ok (.getfield 96, 3) := by decide +kernel
theorem dX10_token_212 : decode cX10_token 212 = .ok (.iconst 1, 1) := by decide +kernel
theorem dX10_token_213 : decode cX10_token 213 = .ok (.iadd, 1) := by decide +kernel
theorem dX10_token_214 : decode cX10_token 214 = .ok (.putfield 96, 3) := by decide +kernel
theorem dX10_token_217 : decode cX10_token 217 = .ok (.goto (-55), 3) := by decide +kernel
theorem dX10_token_220 : decode cX10_token 220 = .ok (.aload_n 0, 1) := by decide +kernel
theorem dX10_token_221 : decode cX10_token 221 = .ok (.iload_n 1, 1) := by decide +kernel
theorem dX10_token_222 : decode cX10_token 222 = .ok (.bipush 59, 2) := by decide +kernel
theorem dX10_token_224 : decode cX10_token 224 = .ok (.if_icmp .ne 7, 3) := by decide +kernel
theorem dX10_token_227 : decode cX10_token 227 = .ok (.iconst 3, 1) := by decide +kernel
theorem dX10_token_228 : decode cX10_token 228 = .ok (.goto 4, 3) := by decide +kernel
theorem dX10_token_231 : decode cX10_token 231 = .ok (.iconst 5, 1) := by decide +kernel
theorem dX10_token_232 : decode cX10_token 232 = .ok (.putfield 109, 3) := by decide +kernel
theorem dX10_token_235 : decode cX10_token 235 = .ok (.aload_n 0, 1) := by decide +kernel
theorem dX10_token_236 : decode cX10_token 236 = .ok (.dup, 1) := by decide +kernel
theorem dX10_token_237 : decode cX10_token 237 = .ok (.getfield 96, 3) := by decide +kernel
theorem dX10_token_240 : decode cX10_token 240 = .ok (.iconst 1, 1) := by decide +kernel
theorem dX10_token_241 : decode cX10_token 241 = .ok (.iadd, 1) := by decide +kernel
theorem dX10_token_242 : decode cX10_token 242 = .ok (.putfield 96, 3) := by decide +kernel
theorem dX10_token_245 : decode cX10_token 245 = .ok (.return_, 1) := by decide +kernel
theorem dX10_wordHere_0 : decode cX10_wordHere 0 = .ok (.iconst 0, 1) := by decide +kernel
theorem dX10_wordHere_1 : decode cX10_wordHere 1 = .ok (.istore_n 1, 1) := by decide +kernel
theorem dX10_wordHere_2 : decode cX10_wordHere 2 = .ok (.iconst 0, 1) := by decide +kernel
theorem dX10_wordHere_3 : decode cX10_wordHere 3 = .ok (.istore_n 2, 1) := by decide +kernel
theorem dX10_wordHere_4 : decode cX10_wordHere 4 = .ok (.iload_n 2, 1) := by decide +kernel
theorem dX10_wordHere_5 : decode cX10_wordHere 5 = .ok (.ldc 129, 2) := by decide +kernel
theorem dX10_wordHere_7 : decode cX10_wordHere 7 = .ok (.invokevirtual 131, 3) := by decide +kernel
theorem dX10_wordHere_10 : decode cX10_wordHere 10 = .ok (.if_icmp .ge 113, 3) := by decide +kernel
theorem dX10_wordHere_13 : decode cX10_wordHere 13 = .ok (.iconst 0, 1) := by decide +kernel
theorem dX10_wordHere_14 : decode cX10_wordHere 14 = .ok (.istore_n 3, 1) := by decide +kernel
theorem dX10_wordHere_15 : decode cX10_wordHere 15 = .ok (.ldc 129, 2) := by decide +kernel
theorem dX10_wordHere_17 : decode cX10_wordHere 17 = .ok (.iload_n 2, 1) := by decide +kernel
theorem dX10_wordHere_18 : decode cX10_wordHere 18 = .ok (.iload_n 3, 1) := by decide +kernel
theorem dX10_wordHere_19 : decode cX10_wordHere 19 = .ok (.iadd, 1) := by decide +kernel
theorem dX10_wordHere_20 : decode cX10_wordHere 20 = .ok (.invokevirtual 136, 3) := by decide +kernel
theorem dX10_wordHere_23 : decode cX10_wordHere 23 = .ok (.bipush 32, 2) := by decide +kernel
theorem dX10_wordHere_25 : decode cX10_wordHere 25 = .ok (.if_icmp .eq 44, 3) := by decide +kernel
theorem dX10_wordHere_28 : decode cX10_wordHere 28 = .ok (.aload_n 0, 1) := by decide +kernel
theorem dX10_wordHere_29 : decode cX10_wordHere 29 = .ok (.getfield 106, 3) := by decide +kernel
theorem dX10_wordHere_32 : decode cX10_wordHere 32 = .ok (.iload_n 3, 1) := by decide +kernel
theorem dX10_wordHere_33 : decode cX10_wordHere 33 = .ok (.iadd, 1) := by decide +kernel
theorem dX10_wordHere_34 : decode cX10_wordHere 34 = .ok (.aload_n 0, 1) := by decide +kernel
theorem dX10_wordHere_35 : decode cX10_wordHere 35 = .ok (.getfield 96, 3) := by decide +kernel
theorem dX10_wordHere_38 : decode cX10_wordHere 38 = .ok (.if_icmp .ge 31, 3) := by decide +kernel
theorem dX10_wordHere_41 : decode cX10_wordHere 41 = .ok (.aload_n 0, 1) := by decide +kernel
theorem dX10_wordHere_42 : decode cX10_wordHere 42 = .ok (.getfield 7, 3) := by decide +kernel
theorem dX10_wordHere_45 : decode cX10_wordHere 45 = .ok (.aload_n 0, 1) := by decide +kernel
theorem dX10_wordHere_46 : decode cX10_wordHere 46 = .ok (.getfield 106, 3) := by decide +kernel
theorem dX10_wordHere_49 : decode cX10_wordHere 49 = .ok (.iload_n 3, 1) := by decide +kernel
theorem dX10_wordHere_50 : decode cX10_wordHere 50 = .ok (.iadd, 1) := by decide +kernel
theorem dX10_wordHere_51 : decode cX10_wordHere 51 = .ok (.iaload, 1) := by decide +kernel
theorem dX10_wordHere_52 : decode cX10_wordHere 52 = .ok (.ldc 129, 2) := by decide +kernel
theorem dX10_wordHere_54 : decode cX10_wordHere 54 = .ok (.iload_n 2, 1) := by decide +kernel
theorem dX10_wordHere_55 : decode cX10_wordHere 55 = .ok (.iload_n 3, 1) := by decide +kernel
theorem dX10_wordHere_56 : decode cX10_wordHere 56 = .ok (.iadd, 1) := by decide +kernel
theorem dX10_wordHere_57 : decode cX10_wordHere 57 = .ok (.invokevirtual 136, 3) := by decide +kernel
theorem dX10_wordHere_60 : decode cX10_wordHere 60 = .ok (.if_icmp .ne 9, 3) := by decide +kernel
theorem dX10_wordHere_63 : decode cX10_wordHere 63 = .ok (.iinc 3 1, 3) := by decide +kernel
theorem dX10_wordHere_66 : decode cX10_wordHere 66 = .ok (.goto (-51), 3) := by decide +kernel
theorem dX10_wordHere_69 : decode cX10_wordHere 69 = .ok (.ldc 129, 2) := by decide +kernel
theorem dX10_wordHere_71 : decode cX10_wordHere 71 = .ok (.iload_n 2, 1) := by decide +kernel
theorem dX10_wordHere_72 : decode cX10_wordHere 72 = .ok (.iload_n 3, 1) := by decide +kernel
theorem dX10_wordHere_73 : decode cX10_wordHere 73 = .ok (.iadd, 1) := by decide +kernel
theorem dX10_wordHere_74 : decode cX10_wordHere 74 = .ok (.invokevirtual 136, 3) := by decide +kernel
theorem dX10_wordHere_77 : decode cX10_wordHere 77 = .ok (.bipush 32, 2) := by decide +kernel
theorem dX10_wordHere_79 : decode cX10_wordHere 79 = .ok (.if_icmp .ne 18, 3) := by decide +kernel
theorem dX10_wordHere_82 : decode cX10_wordHere 82 = .ok (.aload_n 0, 1) := by decide +kernel
theorem dX10_wordHere_83 : decode cX10_wordHere 83 = .ok (.getfield 106, 3) := by decide +kernel
theorem dX10_wordHere_86 : decode cX10_wordHere 86 = .ok (.iload_n 3, 1) := by decide +kernel
theorem dX10_wordHere_87 : decode cX10_wordHere 87 = .ok (.iadd, 1) := by decide +kernel
theorem dX10_wordHere_88 : decode cX10_wordHere 88 = .ok (.aload_n 0, 1) := by decide +kernel
theorem dX10_wordHere_89 : decode cX10_wordHere 89 = .ok (.getfield 96, 3) := by decide +kernel
theorem dX10_wordHere_92 : decode cX10_wordHere 92 = .ok (.if_icmp .ne 5, 3) := by decide +kernel
theorem dX10_wordHere_95 : decode cX10_wordHere 95 = .ok (.iload_n 1, 1) := by decide +kernel
theorem dX10_wordHere_96 : decode cX10_wordHere 96 = .ok (.ireturn, 1) := by decide +kernel
theorem dX10_wordHere_97 : decode cX10_wordHere 97 = .ok (.ldc 129, 2) := by decide +kernel
theorem dX10_wordHere_99 : decode cX10_wordHere 99 = .ok (.iload_n 2, 1) := by decide +kernel
theorem dX10_wordHere_100 : decode cX10_wordHere 100 = .ok (.invokevirtual 136, 3) := by decide +kernel
theorem dX10_wordHere_103 : decode cX10_wordHere 103 = .ok (.bipush 32, 2) := by decide +kernel
theorem dX10_wordHere_105 : decode cX10_wordHere 105 = .ok (.if_icmp .eq 9, 3) := by decide +kernel
theorem dX10_wordHere_108 : decode cX10_wordHere 108 = .ok (.iinc 2 1, 3) := by decide +kernel
theorem dX10_wordHere_111 : decode cX10_wordHere 111 = .ok (.goto (-14), 3) := by decide +kernel
theorem dX10_wordHere_114 : decode cX10_wordHere 114 = .ok (.iinc 2 1, 3) := by decide +kernel
theorem dX10_wordHere_117 : decode cX10_wordHere 117 = .ok (.iinc 1 1, 3) := by decide +kernel
theorem dX10_wordHere_120 : decode cX10_wordHere 120 = .ok (.goto (-116), 3) := by decide +kernel
theorem dX10_wordHere_123 : decode cX10_wordHere 123 = .ok (.iconst (-1), 1) := by decide +kernel
theorem dX10_wordHere_124 : decode cX10_wordHere 124 = .ok (.ireturn, 1) := by decide +kernel
theorem dX10_nameHere_0 : decode cX10_nameHere 0 = .ok (.aload_n 0, 1) := by decide +kernel
theorem dX10_nameHere_1 : decode cX10_nameHere 1 = .ok (.iconst 0, 1) := by decide +kernel
theorem dX10_nameHere_2 : decode cX10_nameHere 2 = .ok (.putfield 119, 3) := by decide +kernel
theorem dX10_nameHere_5 : decode cX10_nameHere 5 = .ok (.iconst 0, 1) := by decide +kernel
theorem dX10_nameHere_6 : decode cX10_nameHere 6 = .ok (.istore_n 1, 1) := by decide +kernel
theorem dX10_nameHere_7 : decode cX10_nameHere 7 = .ok (.iload_n 1, 1) := by decide +kernel
theorem dX10_nameHere_8 : decode cX10_nameHere 8 = .ok (.bipush 6, 2) := by decide +kernel
theorem dX10_nameHere_10 : decode cX10_nameHere 10 = .ok (.if_icmp .ge 53, 3) := by decide +kernel
theorem dX10_nameHere_13 : decode cX10_nameHere 13 = .ok (.aload_n 0, 1) := by decide +kernel
theorem dX10_nameHere_14 : decode cX10_nameHere 14 = .ok (.aload_n 0, 1) := by decide +kernel
theorem dX10_nameHere_15 : decode cX10_nameHere 15 = .ok (.getfield 119, 3) := by decide +kernel
theorem dX10_nameHere_18 : decode cX10_nameHere 18 = .ok (.iconst 5, 1) := by decide +kernel
theorem dX10_nameHere_19 : decode cX10_nameHere 19 = .ok (.ishl, 1) := by decide +kernel
theorem dX10_nameHere_20 : decode cX10_nameHere 20 = .ok (.aload_n 0, 1) := by decide +kernel
theorem dX10_nameHere_21 : decode cX10_nameHere 21 = .ok (.getfield 106, 3) := by decide +kernel
theorem dX10_nameHere_24 : decode cX10_nameHere 24 = .ok (.iload_n 1, 1) := by decide +kernel
theorem dX10_nameHere_25 : decode cX10_nameHere 25 = .ok (.iadd, 1) := by decide +kernel
theorem dX10_nameHere_26 : decode cX10_nameHere 26 = .ok (.aload_n 0, 1) := by decide +kernel
theorem dX10_nameHere_27 : decode cX10_nameHere 27 = .ok (.getfield 96, 3) := by decide +kernel
theorem dX10_nameHere_30 : decode cX10_nameHere 30 = .ok (.if_icmp .ge 22, 3) := by decide +kernel
theorem dX10_nameHere_33 : decode cX10_nameHere 33 = .ok (.aload_n 0, 1) := by decide +kernel
theorem dX10_nameHere_34 : decode cX10_nameHere 34 = .ok (.getfield 7, 3) := by decide +kernel
theorem dX10_nameHere_37 : decode cX10_nameHere 37 = .ok (.aload_n 0, 1) := by decide +kernel
theorem dX10_nameHere_38 : decode cX10_nameHere 38 = .ok (.getfield 106, 3) := by decide +kernel
theorem dX10_nameHere_41 : decode cX10_nameHere 41 = .ok (.iload_n 1, 1) := by decide +kernel
theorem dX10_nameHere_42 : decode cX10_nameHere 42 = .ok (.iadd, 1) := by decide +kernel
theorem dX10_nameHere_43 : decode cX10_nameHere 43 = .ok (.iaload, 1) := by decide +kernel
theorem dX10_nameHere_44 : decode cX10_nameHere 44 = .ok (.bipush 97, 2) := by decide +kernel
theorem dX10_nameHere_46 : decode cX10_nameHere 46 = .ok (.isub, 1) := by decide +kernel
theorem dX10_nameHere_47 : decode cX10_nameHere 47 = .ok (.iconst 1, 1) := by decide +kernel
theorem dX10_nameHere_48 : decode cX10_nameHere 48 = .ok (.iadd, 1) := by decide +kernel
theorem dX10_nameHere_49 : decode cX10_nameHere 49 = .ok (.goto 4, 3) := by decide +kernel
theorem dX10_nameHere_52 : decode cX10_nameHere 52 = .ok (.iconst 0, 1) := by decide +kernel
theorem dX10_nameHere_53 : decode cX10_nameHere 53 = .ok (.ior, 1) := by decide +kernel
theorem dX10_nameHere_54 : decode cX10_nameHere 54 = .ok (.putfield 119, 3) := by decide +kernel
theorem dX10_nameHere_57 : decode cX10_nameHere 57 = .ok (.iinc 1 1, 3) := by decide +kernel
theorem dX10_nameHere_60 : decode cX10_nameHere 60 = .ok (.goto (-53), 3) := by decide +kernel
theorem dX10_nameHere_63 : decode cX10_nameHere 63 = .ok (.return_, 1) := by decide +kernel
theorem dX10_wrongAt_0 : decode cX10_wrongAt 0 = .ok (.aload_n 0, 1) := by decide +kernel
theorem dX10_wrongAt_1 : decode cX10_wrongAt 1 = .ok (.getfield 140, 3) := by decide +kernel
theorem dX10_wrongAt_4 : decode cX10_wrongAt 4 = .ok (.ifCond .eq 4, 3) := by decide +kernel
theorem dX10_wrongAt_7 : decode cX10_wrongAt 7 = .ok (.return_, 1) := by decide +kernel
theorem dX10_wrongAt_8 : decode cX10_wrongAt 8 = .ok (.aload_n 0, 1) := by decide +kernel
theorem dX10_wrongAt_9 : decode cX10_wrongAt 9 = .ok (.iload_n 1, 1) := by decide +kernel
theorem dX10_wrongAt_10 : decode cX10_wrongAt 10 = .ok (.putfield 140, 3) := by decide +kernel
theorem dX10_wrongAt_13 : decode cX10_wrongAt 13 = .ok (.aload_n 0, 1) := by decide +kernel
theorem dX10_wrongAt_14 : decode cX10_wrongAt 14 = .ok (.iload_n 2, 1) := by decide +kernel
theorem dX10_wrongAt_15 : decode cX10_wrongAt 15 = .ok (.putfield 143, 3) := by decide +kernel
theorem dX10_wrongAt_18 : decode cX10_wrongAt 18 = .ok (.return_, 1) := by decide +kernel
theorem dX10_wrong_0 : decode cX10_wrong 0 = .ok (.aload_n 0, 1) := by decide +kernel
theorem dX10_wrong_1 : decode cX10_wrong 1 = .ok (.iload_n 1, 1) := by decide +kernel
theorem dX10_wrong_2 : decode cX10_wrong 2 = .ok (.aload_n 0, 1) := by decide +kernel
theorem dX10_wrong_3 : decode cX10_wrong 3 = .ok (.getfield 106, 3) := by decide +kernel
theorem dX10_wrong_6 : decode cX10_wrong 6 = .ok (.invokevirtual 146, 3) := by decide +kernel
theorem dX10_wrong_9 : decode cX10_wrong 9 = .ok (.return_, 1) := by decide +kernel
theorem dX10_goOn_0 : decode cX10_goOn 0 = .ok (.aload_n 0, 1) := by decide +kernel
theorem dX10_goOn_1 : decode cX10_goOn 1 = .ok (.getfield 140, 3) := by decide +kernel
theorem dX10_goOn_4 : decode cX10_goOn 4 = .ok (.ifCond .ne 7, 3) := by decide +kernel
theorem dX10_goOn_7 : decode cX10_goOn 7 = .ok (.aload_n 0, 1) := by decide +kernel
theorem dX10_goOn_8 : decode cX10_goOn 8 = .ok (.invokevirtual 150, 3) := by decide +kernel
theorem dX10_goOn_11 : decode cX10_goOn 11 = .ok (.return_, 1) := by decide +kernel
theorem dX10_numberAtHand_0 : decode cX10_numberAtHand 0 = .ok (.aload_n 0, 1) := by decide +kernel
theorem dX10_numberAtHand_1 : decode cX10_numberAtHand 1 = .ok (.getfield 140, 3) := by decide +kernel
theorem dX10_numberAtHand_4 : decode cX10_numberAtHand 4 = .ok (.ifCond .eq 5, 3) := by decide +kernel
theorem dX10_numberAtHand_7 : decode cX10_numberAtHand 7 = .ok (.iload_n 1, 1) := by decide +kernel
theorem dX10_numberAtHand_8 : decode cX10_numberAtHand 8 = .ok (.ireturn, 1) := by decide +kernel
theorem dX10_numberAtHand_9 : decode cX10_numberAtHand 9 = .ok (.aload_n 0, 1) := by decide +kernel
theorem dX10_numberAtHand_10 : decode cX10_numberAtHand 10 = .ok (.getfield 109, 3) := by decide +kernel
theorem dX10_numberAtHand_13 : decode cX10_numberAtHand 13 = .ok (.iconst 2, 1) := by decide +kernel
theorem dX10_numberAtHand_14 : decode cX10_numberAtHand 14 = .ok (.if_icmp .eq 11, 3) := by decide +kernel
theorem dX10_numberAtHand_17 : decode cX10_numberAtHand 17 = .ok (.aload_n 0, 1) := by decide +kernel
theorem dX10_numberAtHand_18 : decode cX10_numberAtHand 18 = .ok (.iconst 1, 1) := by decide +kernel
theorem dX10_numberAtHand_19 : decode cX10_numberAtHand 19 = .ok (.invokevirtual 153, 3) := by decide +kernel
theorem dX10_numberAtHand_22 : decode cX10_numberAtHand 22 = .ok (.goto 24, 3) := by decide +kernel
theorem dX10_numberAtHand_25 : decode cX10_numberAtHand 25 = .ok (.aload_n 0, 1) := by decide +kernel
theorem dX10_numberAtHand_26 : decode cX10_numberAtHand 26 = .ok (.getfield 119, 3) := by decide +kernel
theorem dX10_numberAtHand_29 : decode cX10_numberAtHand 29 = .ok (.iload_n 1, 1) := by decide +kernel
theorem dX10_numberAtHand_30 : decode cX10_numberAtHand 30 = .ok (.if_icmp .lt 11, 3) := by decide +kernel
theorem dX10_numberAtHand_33 : decode cX10_numberAtHand 33 = .ok (.aload_n 0, 1) := by decide +kernel
theorem dX10_numberAtHand_34 : decode cX10_numberAtHand 34 = .ok (.getfield 119, 3) := by decide +kernel
theorem dX10_numberAtHand_37 : decode cX10_numberAtHand 37 = .ok (.iload_n 2, 1) := by decide +kernel
theorem dX10_numberAtHand_38 : decode cX10_numberAtHand 38 = .ok (.if_icmp .le 8, 3) := by decide +kernel
theorem dX10_numberAtHand_41 : decode cX10_numberAtHand 41 = .ok (.aload_n 0, 1) := by decide +kernel
theorem dX10_numberAtHand_42 : decode cX10_numberAtHand 42 = .ok (.iconst 2, 1) := by decide +kernel
theorem dX10_numberAtHand_43 : decode cX10_numberAtHand 43 = .ok (.invokevirtual 153, 3) := by decide +kernel
theorem dX10_numberAtHand_46 : decode cX10_numberAtHand 46 = .ok (.aload_n 0, 1) := by decide +kernel
theorem dX10_numberAtHand_47 : decode cX10_numberAtHand 47 = .ok (.getfield 140, 3) := by decide +kernel
theorem dX10_numberAtHand_50 : decode cX10_numberAtHand 50 = .ok (.ifCond .ne 10, 3) := by decide +kernel
theorem dX10_numberAtHand_53 : decode cX10_numberAtHand 53 = .ok (.aload_n 0, 1) := by decide +kernel
theorem dX10_numberAtHand_54 : decode cX10_numberAtHand 54 = .ok (.getfield 119, 3) := by decide +kernel
theorem dX10_numberAtHand_57 : decode cX10_numberAtHand 57 = .ok (.goto 4, 3) := by decide +kernel
theorem dX10_numberAtHand_60 : decode cX10_numberAtHand 60 = .ok (.iload_n 1, 1) := by decide +kernel
theorem dX10_numberAtHand_61 : decode cX10_numberAtHand 61 = .ok (.ireturn, 1) := by decide +kernel
theorem dX10_numeral_0 : decode cX10_numeral 0 = .ok (.aload_n 0, 1) := by decide +kernel
theorem dX10_numeral_1 : decode cX10_numeral 1 = .ok (.iload_n 1, 1) := by decide +kernel
theorem dX10_numeral_2 : decode cX10_numeral 2 = .ok (.iload_n 2, 1) := by decide +kernel
theorem dX10_numeral_3 : decode cX10_numeral 3 = .ok (.invokevirtual 157, 3) := by decide +kernel
theorem dX10_numeral_6 : decode cX10_numeral 6 = .ok (.istore_n 3, 1) := by decide +kernel
theorem dX10_numeral_7 : decode cX10_numeral 7 = .ok (.aload_n 0, 1) := by decide +kernel
theorem dX10_numeral_8 : decode cX10_numeral 8 = .ok (.invokevirtual 161, 3) := by decide +kernel
theorem dX10_numeral_11 : decode cX10_numeral 11 = .ok (.iload_n 3, 1) := by decide +kernel
theorem dX10_numeral_12 : decode cX10_numeral 12 = .ok (.ireturn, 1) := by decide +kernel
theorem dX10_reading_0 : decode cX10_reading 0 = .ok (.aload_n 0, 1) := by decide +kernel
theorem dX10_reading_1 : decode cX10_reading 1 = .ok (.getfield 13, 3) := by decide +kernel
theorem dX10_reading_4 : decode cX10_reading 4 = .ok (.bipush 10, 2) := by decide +kernel
theorem dX10_reading_6 : decode cX10_reading 6 = .ok (.iload_n 1, 1) := by decide +kernel
theorem dX10_reading_7 : decode cX10_reading 7 = .ok (.iadd, 1) := by decide +kernel
theorem dX10_reading_8 : decode cX10_reading 8 = .ok (.iaload, 1) := by decide +kernel
theorem dX10_reading_9 : decode cX10_reading 9 = .ok (.ireturn, 1) := by decide +kernel
theorem dX10_reads_0 : decode cX10_reads 0 = .ok (.aload_n 0, 1) := by decide +kernel
theorem dX10_reads_1 : decode cX10_reads 1 = .ok (.getfield 13, 3) := by decide +kernel
theorem dX10_reads_4 : decode cX10_reads 4 = .ok (.bipush 10, 2) := by decide +kernel
theorem dX10_reads_6 : decode cX10_reads 6 = .ok (.iload_n 1, 1) := by decide +kernel
theorem dX10_reads_7 : decode cX10_reads 7 = .ok (.iadd, 1) := by decide +kernel
theorem dX10_reads_8 : decode cX10_reads 8 = .ok (.iload_n 2, 1) := by decide +kernel
theorem dX10_reads_9 : decode cX10_reads 9 = .ok (.iastore, 1) := by decide +kernel
theorem dX10_reads_10 : decode cX10_reads 10 = .ok (.return_, 1) := by decide +kernel
theorem dX10_once_0 : decode cX10_once 0 = .ok (.aload_n 0, 1) := by decide +kernel
theorem dX10_once_1 : decode cX10_once 1 = .ok (.getfield 16, 3) := by decide +kernel
theorem dX10_once_4 : decode cX10_once 4 = .ok (.iload_n 1, 1) := by decide +kernel
theorem dX10_once_5 : decode cX10_once 5 = .ok (.baload, 1) := by decide +kernel
theorem dX10_once_6 : decode cX10_once 6 = .ok (.ifCond .eq 8, 3) := by decide +kernel
theorem dX10_once_9 : decode cX10_once 9 = .ok (.aload_n 0, 1) := by decide +kernel
theorem dX10_once_10 : decode cX10_once 10 = .ok (.iconst 3, 1) := by decide +kernel
theorem dX10_once_11 : decode cX10_once 11 = .ok (.invokevirtual 153, 3) := by decide +kernel
theorem dX10_once_14 : decode cX10_once 14 = .ok (.aload_n 0, 1) := by decide +kernel
theorem dX10_once_15 : decode cX10_once 15 = .ok (.getfield 16, 3) := by decide +kernel
theorem dX10_once_18 : decode cX10_once 18 = .ok (.iload_n 1, 1) := by decide +kernel
theorem dX10_once_19 : decode cX10_once 19 = .ok (.iconst 1, 1) := by decide +kernel
theorem dX10_once_20 : decode cX10_once 20 = .ok (.bastore, 1) := by decide +kernel
theorem dX10_once_21 : decode cX10_once 21 = .ok (.aload_n 0, 1) := by decide +kernel
theorem dX10_once_22 : decode cX10_once 22 = .ok (.invokevirtual 161, 3) := by decide +kernel
theorem dX10_once_25 : decode cX10_once 25 = .ok (.return_, 1) := by decide +kernel
theorem dX10_readSlack_0 : decode cX10_readSlack 0 = .ok (.aload_n 0, 1) := by decide +kernel
theorem dX10_readSlack_1 : decode cX10_readSlack 1 = .ok (.iconst 1, 1) := by decide +kernel
theorem dX10_readSlack_2 : decode cX10_readSlack 2 = .ok (.invokevirtual 164, 3) := by decide +kernel
theorem dX10_readSlack_5 : decode cX10_readSlack 5 = .ok (.aload_n 0, 1) := by decide +kernel
theorem dX10_readSlack_6 : decode cX10_readSlack 6 = .ok (.iconst 0, 1) := by decide +kernel
theorem dX10_readSlack_7 : decode cX10_readSlack 7 = .ok (.bipush 8, 2) := by decide +kernel
theorem dX10_readSlack_9 : decode cX10_readSlack 9 = .ok (.invokevirtual 167, 3) := by decide +kernel
theorem dX10_readSlack_12 : decode cX10_readSlack 12 = .ok (.istore_n 1, 1) := by decide +kernel
theorem dX10_readSlack_13 : decode cX10_readSlack 13 = .ok (.aload_n 0, 1) := by decide +kernel
theorem dX10_readSlack_14 : decode cX10_readSlack 14 = .ok (.iconst 1, 1) := by decide +kernel
theorem dX10_readSlack_15 : decode cX10_readSlack 15 = .ok (.iload_n 1, 1) := by decide +kernel
theorem dX10_readSlack_16 : decode cX10_readSlack 16 = .ok (.invokevirtual 170, 3) := by decide +kernel
theorem dX10_readSlack_19 : decode cX10_readSlack 19 = .ok (.aload_n 0, 1) := by decide +kernel
theorem dX10_readSlack_20 : decode cX10_readSlack 20 = .ok (.iconst 1, 1) := by decide +kernel
theorem dX10_readSlack_21 : decode cX10_readSlack 21 = .ok (.bipush 9, 2) := by decide +kernel
theorem dX10_readSlack_23 : decode cX10_readSlack 23 = .ok (.invokevirtual 157, 3) := by decide +kernel
theorem dX10_readSlack_26 : decode cX10_readSlack 26 = .ok (.istore_n 2, 1) := by decide +kernel
theorem dX10_readSlack_27 : decode cX10_readSlack 27 = .ok (.aload_n 0, 1) := by decide +kernel
theorem dX10_readSlack_28 : decode cX10_readSlack 28 = .ok (.getfield 140, 3) := by decide +kernel
theorem dX10_readSlack_31 : decode cX10_readSlack 31 = .ok (.ifCond .ne 13, 3) := by decide +kernel
theorem dX10_readSlack_34 : decode cX10_readSlack 34 = .ok (.iload_n 2, 1) := by decide +kernel
theorem dX10_readSlack_35 : decode cX10_readSlack 35 = .ok (.iload_n 1, 1) := by decide +kernel
theorem dX10_readSlack_36 : decode cX10_readSlack 36 = .ok (.if_icmp .gt 8, 3) := by decide +kernel
theorem dX10_readSlack_39 : decode cX10_readSlack 39 = .ok (.aload_n 0, 1) := by decide +kernel
theorem dX10_readSlack_40 : decode cX10_readSlack 40 = .ok (.iconst 2, 1) := by decide +kernel
theorem dX10_readSlack_41 : decode cX10_readSlack 41 = .ok (.invokevirtual 153, 3) := by decide +kernel
theorem dX10_readSlack_44 : decode cX10_readSlack 44 = .ok (.aload_n 0, 1) := by decide +kernel
theorem dX10_readSlack_45 : decode cX10_readSlack 45 = .ok (.invokevirtual 161, 3) := by decide +kernel
theorem dX10_readSlack_48 : decode cX10_readSlack 48 = .ok (.aload_n 0, 1) := by decide +kernel
theorem dX10_readSlack_49 : decode cX10_readSlack 49 = .ok (.iconst 2, 1) := by decide +kernel
theorem dX10_readSlack_50 : decode cX10_readSlack 50 = .ok (.iload_n 2, 1) := by decide +kernel
theorem dX10_readSlack_51 : decode cX10_readSlack 51 = .ok (.invokevirtual 170, 3) := by decide +kernel
theorem dX10_readSlack_54 : decode cX10_readSlack 54 = .ok (.return_, 1) := by decide +kernel
theorem dX10_readQueues_0 : decode cX10_readQueues 0 = .ok (.aload_n 0, 1) := by decide +kernel
theorem dX10_readQueues_1 : decode cX10_readQueues 1 = .ok (.iconst 2, 1) := by decide +kernel
theorem dX10_readQueues_2 : decode cX10_readQueues 2 = .ok (.invokevirtual 164, 3) := by decide +kernel
theorem dX10_readQueues_5 : decode cX10_readQueues 5 = .ok (.iconst 0, 1) := by decide +kernel
theorem dX10_readQueues_6 : decode cX10_readQueues 6 = .ok (.istore_n 1, 1) := by decide +kernel
theorem dX10_readQueues_7 : decode cX10_readQueues 7 = .ok (.iload_n 1, 1) := by decide +kernel
theorem dX10_readQueues_8 : decode cX10_readQueues 8 = .ok (.iconst 3, 1) := by decide +kernel
theorem dX10_readQueues_9 : decode cX10_readQueues 9 = .ok (.if_icmp .ge 23, 3) := by decide +kernel
theorem dX10_readQueues_12 : decode cX10_readQueues 12 = .ok (.aload_n 0, 1) := by decide +kernel
theorem dX10_readQueues_13 : decode cX10_readQueues 13 = .ok (.iconst 3, 1) := by decide +kernel
theorem dX10_readQueues_14 : decode cX10_readQueues 14 = .ok (.iload_n 1, 1) := by decide +kernel
theorem dX10_readQueues_15 : decode cX10_readQueues 15 = .ok (.iadd, 1) := by decide +kernel
theorem dX10_readQueues_16 : decode cX10_readQueues 16 = .ok (.aload_n 0, 1) := by decide +kernel
theorem dX10_readQueues_17 : decode cX10_readQueues 17 = .ok (.iconst 1, 1) := by decide +kernel
theorem dX10_readQueues_18 : decode cX10_readQueues 18 = .ok (.bipush 8, 2) := by decide +kernel
theorem dX10_readQueues_20 : decode cX10_readQueues 20 = .ok (.invokevirtual 167, 3) := by decide +kernel
theorem dX10_readQueues_23 : decode cX10_readQueues 23 = .ok (.invokevirtual 170, 3) := by decide +kernel
theorem dX10_readQueues_26 : decode cX10_readQueues 26 = .ok (.iinc 1 1, 3) := by decide +kernel
theorem dX10_readQueues_29 : decode cX10_readQueues 29 = .ok (.goto (-22), 3) := by decide +kernel
theorem dX10_readQueues_32 : decode cX10_readQueues 32 = .ok (.return_, 1) := by decide +kernel
theorem dX10_readData_0 : decode cX10_readData 0 = .ok (.aload_n 0, 1) := by decide +kernel
theorem dX10_readData_1 : decode cX10_readData 1 = .ok (.invokevirtual 161, 3) := by decide +kernel
theorem dX10_readData_4 : decode cX10_readData 4 = .ok (.aload_n 0, 1) := by decide +kernel
theorem dX10_readData_5 : decode cX10_readData 5 = .ok (.iconst 0, 1) := by decide +kernel
theorem dX10_readData_6 : decode cX10_readData 6 = .ok (.bipush 31, 2) := by decide +kernel
theorem dX10_readData_8 : decode cX10_readData 8 = .ok (.invokevirtual 157, 3) := by decide +kernel
theorem dX10_readData_11 : decode cX10_readData 11 = .ok (.istore_n 1, 1) := by decide +kernel
theorem dX10_readData_12 : decode cX10_readData 12 = .ok (.aload_n 0, 1) := by decide +kernel
theorem dX10_readData_13 : decode cX10_readData 13 = .ok (.getfield 140, 3) := by decide +kernel
theorem dX10_readData_16 : decode cX10_readData 16 = .ok (.ifCond .ne 17, 3) := by decide +kernel
theorem dX10_readData_19 : decode cX10_readData 19 = .ok (.aload_n 0, 1) := by decide +kernel
theorem dX10_readData_20 : decode cX10_readData 20 = .ok (.getfield 50, 3) := by decide +kernel
theorem dX10_readData_23 : decode cX10_readData 23 = .ok (.iload_n 1, 1) := by decide +kernel
theorem dX10_readData_24 : decode cX10_readData 24 = .ok (.baload, 1) := by decide +kernel
theorem dX10_readData_25 : decode cX10_readData 25 = .ok (.ifCond .eq 8, 3) := by decide +kernel
theorem dX10_readData_28 : decode cX10_readData 28 = .ok (.aload_n 0, 1) := by decide +kernel
theorem dX10_readData_29 : decode cX10_readData 29 = .ok (.iconst 3, 1) := by decide +kernel
theorem dX10_readData_30 : decode cX10_readData 30 = .ok (.invokevirtual 153, 3) := by decide +kernel
theorem dX10_readData_33 : decode cX10_readData 33 = .ok (.aload_n 0, 1) := by decide +kernel
theorem dX10_readData_34 : decode cX10_readData 34 = .ok (.invokevirtual 161, 3) := by decide +kernel
theorem dX10_readData_37 : decode cX10_readData 37 = .ok (.aload_n 0, 1) := by decide +kernel
theorem dX10_readData_38 : decode cX10_readData 38 = .ok (.iconst 0, 1) := by decide +kernel
theorem dX10_readData_39 : decode cX10_readData 39 = .ok (.ldc 128, 2) := by decide +kernel
theorem dX10_readData_41 : decode cX10_readData 41 = .ok (.invokevirtual 167, 3) := by decide +kernel
theorem dX10_readData_44 : decode cX10_readData 44 = .ok (.istore_n 2, 1) := by decide +kernel
theorem dX10_readData_45 : decode cX10_readData 45 = .ok (.aload_n 0, 1) := by decide +kernel
theorem dX10_readData_46 : decode cX10_readData 46 = .ok (.getfield 140, 3) := by decide +kernel
theorem dX10_readData_49 : decode cX10_readData 49 = .ok (.ifCond .eq 4, 3) := by decide +kernel
theorem dX10_readData_52 : decode cX10_readData 52 = .ok (.return_, 1) := by decide +kernel
theorem dX10_readData_53 : decode cX10_readData 53 = .ok (.aload_n 0, 1) := by decide +kernel
theorem dX10_readData_54 : decode cX10_readData 54 = .ok (.getfield 50, 3) := by decide +kernel
theorem dX10_readData_57 : decode cX10_readData 57 = .ok (.iload_n 1, 1) := by decide +kernel
theorem dX10_readData_58 : decode cX10_readData 58 = .ok (.iconst 1, 1) := by decide +kernel
theorem dX10_readData_59 : decode cX10_readData 59 = .ok (.bastore, 1) := by decide +kernel
theorem dX10_readData_60 : decode cX10_readData 60 = .ok (.aload_n 0, 1) := by decide +kernel
theorem dX10_readData_61 : decode cX10_readData 61 = .ok (.getfield 47, 3) := by decide +kernel
theorem dX10_readData_64 : decode cX10_readData 64 = .ok (.bipush 32, 2) := by decide +kernel
theorem dX10_readData_66 : decode cX10_readData 66 = .ok (.iload_n 1, 1) := by decide +kernel
theorem dX10_readData_67 : decode cX10_readData 67 = .ok (.iadd, 1) := by decide +kernel
theorem dX10_readData_68 : decode cX10_readData 68 = .ok (.iload_n 2, 1) := by decide +kernel
theorem dX10_readData_69 : decode cX10_readData 69 = .ok (.iastore, 1) := by decide +kernel
theorem dX10_readData_70 : decode cX10_readData 70 = .ok (.return_, 1) := by decide +kernel
theorem dX10_labelled_0 : decode cX10_labelled 0 = .ok (.iconst 0, 1) := by decide +kernel
theorem dX10_labelled_1 : decode cX10_labelled 1 = .ok (.istore 4, 2) := by decide +kernel
theorem dX10_labelled_3 : decode cX10_labelled 3 = .ok (.iload 4, 2) := by decide +kernel
theorem dX10_labelled_5 : decode cX10_labelled 5 = .ok (.iload_n 2, 1) := by decide +kernel
theorem dX10_labelled_6 : decode cX10_labelled 6 = .ok (.if_icmp .ge 25, 3) := by decide +kernel
theorem dX10_labelled_9 : decode cX10_labelled 9 = .ok (.aload_n 0, 1) := by decide +kernel
theorem dX10_labelled_10 : decode cX10_labelled 10 = .ok (.getfield 41, 3) := by decide +kernel
theorem dX10_labelled_13 : decode cX10_labelled 13 = .ok (.iload_n 1, 1) := by decide +kernel
theorem dX10_labelled_14 : decode cX10_labelled 14 = .ok (.iload 4, 2) := by decide +kernel
theorem dX10_labelled_16 : decode cX10_labelled 16 = .ok (.iadd, 1) := by decide +kernel
theorem dX10_labelled_17 : decode cX10_labelled 17 = .ok (.iaload, 1) := by decide +kernel
theorem dX10_labelled_18 : decode cX10_labelled 18 = .ok (.iload_n 3, 1) := by decide +kernel
theorem dX10_labelled_19 : decode cX10_labelled 19 = .ok (.if_icmp .ne 6, 3) := by decide +kernel
theorem dX10_labelled_22 : decode cX10_labelled 22 = .ok (.iload 4, 2) := by decide +kernel
theorem dX10_labelled_24 : decode cX10_labelled 24 = .ok (.ireturn, 1) := by decide +kernel
theorem dX10_labelled_25 : decode cX10_labelled 25 = .ok (.iinc 4 1, 3) := by decide +kernel
theorem dX10_labelled_28 : decode cX10_labelled 28 = .ok (.goto (-25), 3) := by decide +kernel
theorem dX10_labelled_31 : decode cX10_labelled 31 = .ok (.iconst (-1), 1) := by decide +kernel
theorem dX10_labelled_32 : decode cX10_labelled 32 = .ok (.ireturn, 1) := by decide +kernel
theorem dX10_readLabel_0 : decode cX10_readLabel 0 = .ok (.aload_n 0, 1) := by decide +kernel
theorem dX10_readLabel_1 : decode cX10_readLabel 1 = .ok (.invokevirtual 161, 3) := by decide +kernel
theorem dX10_readLabel_4 : decode cX10_readLabel 4 = .ok (.aload_n 0, 1) := by decide +kernel
theorem dX10_readLabel_5 : decode cX10_readLabel 5 = .ok (.getfield 140, 3) := by decide +kernel
theorem dX10_readLabel_8 : decode cX10_readLabel 8 = .ok (.ifCond .eq 4, 3) := by decide +kernel
theorem dX10_readLabel_11 : decode cX10_readLabel 11 = .ok (.return_, 1) := by decide +kernel
theorem dX10_readLabel_12 : decode cX10_readLabel 12 = .ok (.aload_n 0, 1) := by decide +kernel
theorem dX10_readLabel_13 : decode cX10_readLabel 13 = .ok (.getfield 109, 3) := by decide +kernel
theorem dX10_readLabel_16 : decode cX10_readLabel 16 = .ok (.iconst 1, 1) := by decide +kernel
theorem dX10_readLabel_17 : decode cX10_readLabel 17 = .ok (.if_icmp .eq 11, 3) := by decide +kernel
theorem dX10_readLabel_20 : decode cX10_readLabel 20 = .ok (.aload_n 0, 1) := by decide +kernel
theorem dX10_readLabel_21 : decode cX10_readLabel 21 = .ok (.iconst 1, 1) := by decide +kernel
theorem dX10_readLabel_22 : decode cX10_readLabel 22 = .ok (.invokevirtual 153, 3) := by decide +kernel
theorem dX10_readLabel_25 : decode cX10_readLabel 25 = .ok (.goto 29, 3) := by decide +kernel
theorem dX10_readLabel_28 : decode cX10_readLabel 28 = .ok (.aload_n 0, 1) := by decide +kernel
theorem dX10_readLabel_29 : decode cX10_readLabel 29 = .ok (.sipush 140, 3) := by decide +kernel
theorem dX10_readLabel_32 : decode cX10_readLabel 32 = .ok (.aload_n 0, 1) := by decide +kernel
theorem dX10_readLabel_33 : decode cX10_readLabel 33 = .ok (.bipush 9, 2) := by decide +kernel
theorem dX10_readLabel_35 : decode cX10_readLabel 35 = .ok (.invokevirtual 173, 3) := by decide +kernel
theorem dX10_readLabel_38 : decode cX10_readLabel 38 = .ok (.aload_n 0, 1) := by decide +kernel
theorem dX10_readLabel_39 : decode cX10_readLabel 39 = .ok (.getfield 119, 3) := by decide +kernel
theorem dX10_readLabel_42 : decode cX10_readLabel 42 = .ok (.invokevirtual 177, 3) := by decide +kernel
theorem dX10_readLabel_45 : decode cX10_readLabel 45 = .ok (.iconst (-1), 1) := by decide +kernel
theorem dX10_readLabel_46 : decode cX10_readLabel 46 = .ok (.if_icmp .eq 8, 3) := by decide +kernel
theorem dX10_readLabel_49 : decode cX10_readLabel 49 = .ok (.aload_n 0, 1) := by decide +kernel
theorem dX10_readLabel_50 : decode cX10_readLabel 50 = .ok (.iconst 3, 1) := by decide +kernel
theorem dX10_readLabel_51 : decode cX10_readLabel 51 = .ok (.invokevirtual 153, 3) := by decide +kernel
theorem dX10_readLabel_54 : decode cX10_readLabel 54 = .ok (.aload_n 0, 1) := by decide +kernel
theorem dX10_readLabel_55 : decode cX10_readLabel 55 = .ok (.getfield 140, 3) := by decide +kernel
theorem dX10_readLabel_58 : decode cX10_readLabel 58 = .ok (.ifCond .eq 4, 3) := by decide +kernel
theorem dX10_readLabel_61 : decode cX10_readLabel 61 = .ok (.return_, 1) := by decide +kernel
theorem dX10_readLabel_62 : decode cX10_readLabel 62 = .ok (.aload_n 0, 1) := by decide +kernel
theorem dX10_readLabel_63 : decode cX10_readLabel 63 = .ok (.getfield 41, 3) := by decide +kernel
theorem dX10_readLabel_66 : decode cX10_readLabel 66 = .ok (.sipush 140, 3) := by decide +kernel
theorem dX10_readLabel_69 : decode cX10_readLabel 69 = .ok (.aload_n 0, 1) := by decide +kernel
theorem dX10_readLabel_70 : decode cX10_readLabel 70 = .ok (.bipush 9, 2) := by decide +kernel
theorem dX10_readLabel_72 : decode cX10_readLabel 72 = .ok (.invokevirtual 173, 3) := by decide +kernel
theorem dX10_readLabel_75 : decode cX10_readLabel 75 = .ok (.iadd, 1) := by decide +kernel
theorem dX10_readLabel_76 : decode cX10_readLabel 76 = .ok (.aload_n 0, 1) := by decide +kernel
theorem dX10_readLabel_77 : decode cX10_readLabel 77 = .ok (.getfield 119, 3) := by decide +kernel
theorem dX10_readLabel_80 : decode cX10_readLabel 80 = .ok (.iastore, 1) := by decide +kernel
theorem dX10_readLabel_81 : decode cX10_readLabel 81 = .ok (.aload_n 0, 1) := by decide +kernel
theorem dX10_readLabel_82 : decode cX10_readLabel 82 = .ok (.getfield 44, 3) := by decide +kernel
theorem dX10_readLabel_85 : decode cX10_readLabel 85 = .ok (.sipush 140, 3) := by decide +kernel
theorem dX10_readLabel_88 : decode cX10_readLabel 88 = .ok (.aload_n 0, 1) := by decide +kernel
theorem dX10_readLabel_89 : decode cX10_readLabel 89 = .ok (.bipush 9, 2) := by decide +kernel
theorem dX10_readLabel_91 : decode cX10_readLabel 91 = .ok (.invokevirtual 173, 3) := by decide +kernel
theorem dX10_readLabel_94 : decode cX10_readLabel 94 = .ok (.iadd, 1) := by decide +kernel
theorem dX10_readLabel_95 : decode cX10_readLabel 95 = .ok (.aload_n 0, 1) := by decide +kernel
theorem dX10_readLabel_96 : decode cX10_readLabel 96 = .ok (.bipush 8, 2) := by decide +kernel
theorem dX10_readLabel_98 : decode cX10_readLabel 98 = .ok (.invokevirtual 173, 3) := by decide +kernel
theorem dX10_readLabel_101 : decode cX10_readLabel 101 = .ok (.iastore, 1) := by decide +kernel
theorem dX10_readLabel_102 : decode cX10_readLabel 102 = .ok (.aload_n 0, 1) := by decide +kernel
theorem dX10_readLabel_103 : decode cX10_readLabel 103 = .ok (.bipush 9, 2) := by decide +kernel
theorem dX10_readLabel_105 : decode cX10_readLabel 105 = .ok (.aload_n 0, 1) := by decide +kernel
theorem dX10_readLabel_106 : decode cX10_readLabel 106 = .ok (.bipush 9, 2) := by decide +kernel
theorem dX10_readLabel_108 : decode cX10_readLabel 108 = .ok (.invokevirtual 173, 3) := by decide +kernel
theorem dX10_readLabel_111 : decode cX10_readLabel 111 = .ok (.iconst 1, 1) := by decide +kernel
theorem dX10_readLabel_112 : decode cX10_readLabel 112 = .ok (.iadd, 1) := by decide +kernel
theorem dX10_readLabel_113 : decode cX10_readLabel 113 = .ok (.invokevirtual 170, 3) := by decide +kernel
theorem dX10_readLabel_116 : decode cX10_readLabel 116 = .ok (.aload_n 0, 1) := by decide +kernel
theorem dX10_readLabel_117 : decode cX10_readLabel 117 = .ok (.invokevirtual 150, 3) := by decide +kernel
theorem dX10_readLabel_120 : decode cX10_readLabel 120 = .ok (.return_, 1) := by decide +kernel
theorem dX10_isJump_0 : decode cX10_isJump 0 = .ok (.iload_n 0, 1) := by decide +kernel
theorem dX10_isJump_1 : decode cX10_isJump 1 = .ok (.bipush 20, 2) := by decide +kernel
theorem dX10_isJump_3 : decode cX10_isJump 3 = .ok (.if_icmp .lt 13, 3) := by decide +kernel
theorem dX10_isJump_6 : decode cX10_isJump 6 = .ok (.iload_n 0, 1) := by decide +kernel
theorem dX10_isJump_7 : decode cX10_isJump 7 = .ok (.bipush 23, 2) := by decide +kernel
theorem dX10_isJump_9 : decode cX10_isJump 9 = .ok (.if_icmp .gt 7, 3) := by decide +kernel
theorem dX10_isJump_12 : decode cX10_isJump 12 = .ok (.iconst 1, 1) := by decide +kernel
theorem dX10_isJump_13 : decode cX10_isJump 13 = .ok (.goto 4, 3) := by decide +kernel
theorem dX10_isJump_16 : decode cX10_isJump 16 = .ok (.iconst 0, 1) := by decide +kernel
theorem dX10_isJump_17 : decode cX10_isJump 17 = .ok (.ireturn, 1) := by decide +kernel
theorem dX10_register_0 : decode cX10_register 0 = .ok (.aload_n 0, 1) := by decide +kernel
theorem dX10_register_1 : decode cX10_register 1 = .ok (.iconst 0, 1) := by decide +kernel
theorem dX10_register_2 : decode cX10_register 2 = .ok (.bipush 7, 2) := by decide +kernel
theorem dX10_register_4 : decode cX10_register 4 = .ok (.invokevirtual 167, 3) := by decide +kernel
theorem dX10_register_7 : decode cX10_register 7 = .ok (.ireturn, 1) := by decide +kernel
theorem dX10_floatNumber_0 : decode cX10_floatNumber 0 = .ok (.aload_n 0, 1) := by decide +kernel
theorem dX10_floatNumber_1 : decode cX10_floatNumber 1 = .ok (.iconst 0, 1) := by decide +kernel
theorem dX10_floatNumber_2 : decode cX10_floatNumber 2 = .ok (.iconst 3, 1) := by decide +kernel
theorem dX10_floatNumber_3 : decode cX10_floatNumber 3 = .ok (.invokevirtual 167, 3) := by decide +kernel
theorem dX10_floatNumber_6 : decode cX10_floatNumber 6 = .ok (.ireturn, 1) := by decide +kernel
theorem dX10_readCode_0 : decode cX10_readCode 0 = .ok (.aload_n 0, 1) := by decide +kernel
theorem dX10_readCode_1 : decode cX10_readCode 1 = .ok (.bipush 8, 2) := by decide +kernel
theorem dX10_readCode_3 : decode cX10_readCode 3 = .ok (.invokevirtual 173, 3) := by decide +kernel
theorem dX10_readCode_6 : decode cX10_readCode 6 = .ok (.bipush 40, 2) := by decide +kernel
theorem dX10_readCode_8 : decode cX10_readCode 8 = .ok (.if_icmp .ne 8, 3) := by decide +kernel
theorem dX10_readCode_11 : decode cX10_readCode 11 = .ok (.aload_n 0, 1) := by decide +kernel
theorem dX10_readCode_12 : decode cX10_readCode 12 = .ok (.iconst 2, 1) := by decide +kernel
theorem dX10_readCode_13 : decode cX10_readCode 13 = .ok (.invokevirtual 153, 3) := by decide +kernel
theorem dX10_readCode_16 : decode cX10_readCode 16 = .ok (.bipush 40, 2) := by decide +kernel
theorem dX10_readCode_18 : decode cX10_readCode 18 = .ok (.aload_n 0, 1) := by decide +kernel
theorem dX10_readCode_19 : decode cX10_readCode 19 = .ok (.bipush 8, 2) := by decide +kernel
theorem dX10_readCode_21 : decode cX10_readCode 21 = .ok (.invokevirtual 173, 3) := by decide +kernel
theorem dX10_readCode_24 : decode cX10_readCode 24 = .ok (.iadd, 1) := by decide +kernel
theorem dX10_readCode_25 : decode cX10_readCode 25 = .ok (.istore_n 2, 1) := by decide +kernel
theorem dX10_readCode_26 : decode cX10_readCode 26 = .ok (.aload_n 0, 1) := by decide +kernel
theorem dX10_readCode_27 : decode cX10_readCode 27 = .ok (.invokevirtual 161, 3) := by decide +kernel
theorem dX10_readCode_30 : decode cX10_readCode 30 = .ok (.aload_n 0, 1) := by decide +kernel
theorem dX10_readCode_31 : decode cX10_readCode 31 = .ok (.getfield 140, 3) := by decide +kernel
theorem dX10_readCode_34 : decode cX10_readCode 34 = .ok (.ifCond .eq 4, 3) := by decide +kernel
theorem dX10_readCode_37 : decode cX10_readCode 37 = .ok (.return_, 1) := by decide +kernel
theorem dX10_readCode_38 : decode cX10_readCode 38 = .ok (.aload_n 0, 1) := by decide +kernel
theorem dX10_readCode_39 : decode cX10_readCode 39 = .ok (.getfield 20, 3) := by decide +kernel
theorem dX10_readCode_42 : decode cX10_readCode 42 = .ok (.iload_n 2, 1) := by decide +kernel
theorem dX10_readCode_43 : decode cX10_readCode 43 = .ok (.iload_n 1, 1) := by decide +kernel
theorem dX10_readCode_44 : decode cX10_readCode 44 = .ok (.iastore, 1) := by decide +kernel
theorem dX10_readCode_45 : decode cX10_readCode 45 = .ok (.aload_n 0, 1) := by decide +kernel
theorem dX10_readCode_46 : decode cX10_readCode 46 = .ok (.getfield 23, 3) := by decide +kernel
theorem dX10_readCode_49 : decode cX10_readCode 49 = .ok (.iload_n 2, 1) := by decide +kernel
theorem dX10_readCode_50 : decode cX10_readCode 50 = .ok (.iconst 0, 1) := by decide +kernel
theorem dX10_readCode_51 : decode cX10_readCode 51 = .ok (.iastore, 1) := by decide +kernel
theorem dX10_readCode_52 : decode cX10_readCode 52 = .ok (.aload_n 0, 1) := by decide +kernel
theorem dX10_readCode_53 : decode cX10_readCode 53 = .ok (.getfield 26, 3) := by decide +kernel
theorem dX10_readCode_56 : decode cX10_readCode 56 = .ok (.iload_n 2, 1) := by decide +kernel
theorem dX10_readCode_57 : decode cX10_readCode 57 = .ok (.iconst 0, 1) := by decide +kernel
theorem dX10_readCode_58 : decode cX10_readCode 58 = .ok (.iastore, 1) := by decide +kernel
theorem dX10_readCode_59 : decode cX10_readCode 59 = .ok (.aload_n 0, 1) := by decide +kernel
theorem dX10_readCode_60 : decode cX10_readCode 60 = .ok (.getfield 29, 3) := by decide +kernel
theorem dX10_readCode_63 : decode cX10_readCode 63 = .ok (.iload_n 2, 1) := by decide +kernel
theorem dX10_readCode_64 : decode cX10_readCode 64 = .ok (.iconst 0, 1) := by decide +kernel
theorem dX10_readCode_65 : decode cX10_readCode 65 = .ok (.iastore, 1) := by decide +kernel
theorem dX10_readCode_66 : decode cX10_readCode 66 = .ok (.iload_n 1, 1) := by decide +kernel
theorem dX10_readCode_67 : decode cX10_readCode 67 = .ok (.bipush 7, 2) := by decide +kernel
theorem dX10_readCode_69 : decode cX10_readCode 69 = .ok (.if_icmp .lt 19, 3) := by decide +kernel
theorem dX10_readCode_72 : decode cX10_readCode 72 = .ok (.iload_n 1, 1) := by decide +kernel
theorem dX10_readCode_73 : decode cX10_readCode 73 = .ok (.bipush 14, 2) := by decide +kernel
theorem dX10_readCode_75 : decode cX10_readCode 75 = .ok (.if_icmp .gt 13, 3) := by decide +kernel
theorem dX10_readCode_78 : decode cX10_readCode 78 = .ok (.aload_n 0, 1) := by decide +kernel
theorem dX10_readCode_79 : decode cX10_readCode 79 = .ok (.getfield 23, 3) := by decide +kernel
theorem dX10_readCode_82 : decode cX10_readCode 82 = .ok (.iload_n 2, 1) := by decide +kernel
theorem dX10_readCode_83 : decode cX10_readCode 83 = .ok (.aload_n 0, 1) := by decide +kernel
theorem dX10_readCode_84 : decode cX10_readCode 84 = .ok (.invokevirtual 181, 3) := by decide +kernel
theorem dX10_readCode_87 : decode cX10_readCode 87 = .ok (.iastore, 1) := by decide +kernel
theorem dX10_readCode_88 : decode cX10_readCode 88 = .ok (.iload_n 1, 1) := by decide +kernel
theorem dX10_readCode_89 : decode cX10_readCode 89 = .ok (.bipush 7, 2) := by decide +kernel
theorem dX10_readCode_91 : decode cX10_readCode 91 = .ok (.if_icmp .ne 16, 3) := by decide +kernel
theorem dX10_readCode_94 : decode cX10_readCode 94 = .ok (.aload_n 0, 1) := by decide +kernel
theorem dX10_readCode_95 : decode cX10_readCode 95 = .ok (.getfield 26, 3) := by decide +kernel
theorem dX10_readCode_98 : decode cX10_readCode 98 = .ok (.iload_n 2, 1) := by decide +kernel
theorem dX10_readCode_99 : decode cX10_readCode 99 = .ok (.aload_n 0, 1) := by decide +kernel
theorem dX10_readCode_100 : decode cX10_readCode 100 = .ok (.iconst 0, 1) := by decide +kernel
theorem dX10_readCode_101 : decode cX10_readCode 101 = .ok (.ldc 128, 2) := by decide +kernel
theorem dX10_readCode_103 : decode cX10_readCode 103 = .ok (.invokevirtual 167, 3) := by decide +kernel
theorem dX10_readCode_106 : decode cX10_readCode 106 = .ok (.iastore, 1) := by decide +kernel
theorem dX10_readCode_107 : decode cX10_readCode 107 = .ok (.iload_n 1, 1) := by decide +kernel
theorem dX10_readCode_108 : decode cX10_readCode 108 = .ok (.bipush 8, 2) := by decide +kernel
theorem dX10_readCode_110 : decode cX10_readCode 110 = .ok (.if_icmp .lt 19, 3) := by decide +kernel
theorem dX10_readCode_113 : decode cX10_readCode 113 = .ok (.iload_n 1, 1) := by decide +kernel
theorem dX10_readCode_114 : decode cX10_readCode 114 = .ok (.bipush 13, 2) := by decide +kernel
theorem dX10_readCode_116 : decode cX10_readCode 116 = .ok (.if_icmp .gt 13, 3) := by decide +kernel
theorem dX10_readCode_119 : decode cX10_readCode 119 = .ok (.aload_n 0, 1) := by decide +kernel
theorem dX10_readCode_120 : decode cX10_readCode 120 = .ok (.getfield 26, 3) := by decide +kernel
theorem dX10_readCode_123 : decode cX10_readCode 123 = .ok (.iload_n 2, 1) := by decide +kernel
theorem dX10_readCode_124 : decode cX10_readCode 124 = .ok (.aload_n 0, 1) := by decide +kernel
theorem dX10_readCode_125 : decode cX10_readCode 125 = .ok (.invokevirtual 181, 3) := by decide +kernel
theorem dX10_readCode_128 : decode cX10_readCode 128 = .ok (.iastore, 1) := by decide +kernel
theorem dX10_readCode_129 : decode cX10_readCode 129 = .ok (.iload_n 1, 1) := by decide +kernel
theorem dX10_readCode_130 : decode cX10_readCode 130 = .ok (.bipush 8, 2) := by decide +kernel
theorem dX10_readCode_132 : decode cX10_readCode 132 = .ok (.if_icmp .lt 19, 3) := by decide +kernel
theorem dX10_readCode_135 : decode cX10_readCode 135 = .ok (.iload_n 1, 1) := by decide +kernel
theorem dX10_readCode_136 : decode cX10_readCode 136 = .ok (.bipush 11, 2) := by decide +kernel
theorem dX10_readCode_138 : decode cX10_readCode 138 = .ok (.if_icmp .gt 13, 3) := by decide +kernel
theorem dX10_readCode_141 : decode cX10_readCode 141 = .ok (.aload_n 0, 1) := by decide +kernel
theorem dX10_readCode_142 : decode cX10_readCode 142 = .ok (.getfield 29, 3) := by decide +kernel
theorem dX10_readCode_145 : decode cX10_readCode 145 = .ok (.iload_n 2, 1) := by decide +kernel
theorem dX10_readCode_146 : decode cX10_readCode 146 = .ok (.aload_n 0, 1) := by decide +kernel
theorem dX10_readCode_147 : decode cX10_readCode 147 = .ok (.invokevirtual 181, 3) := by decide +kernel
theorem dX10_readCode_150 : decode cX10_readCode 150 = .ok (.iastore, 1) := by decide +kernel
theorem dX10_readCode_151 : decode cX10_readCode 151 = .ok (.iload_n 1, 1) := by decide +kernel
theorem dX10_readCode_152 : decode cX10_readCode 152 = .ok (.bipush 12, 2) := by decide +kernel
theorem dX10_readCode_154 : decode cX10_readCode 154 = .ok (.if_icmp .eq 9, 3) := by decide +kernel
theorem dX10_readCode_157 : decode cX10_readCode 157 = .ok (.iload_n 1, 1) := by decide +kernel
theorem dX10_readCode_158 : decode cX10_readCode 158 = .ok (.bipush 13, 2) := by decide +kernel
theorem dX10_readCode_160 : decode cX10_readCode 160 = .ok (.if_icmp .ne 16, 3) := by decide +kernel
theorem dX10_readCode_163 : decode cX10_readCode 163 = .ok (.aload_n 0, 1) := by decide +kernel
theorem dX10_readCode_164 : decode cX10_readCode 164 = .ok (.getfield 29, 3) := by decide +kernel
theorem dX10_readCode_167 : decode cX10_readCode 167 = .ok (.iload_n 2, 1) := by decide +kernel
theorem dX10_readCode_168 : decode cX10_readCode 168 = .ok (.aload_n 0, 1) := by decide +kernel
theorem dX10_readCode_169 : decode cX10_readCode 169 = .ok (.iconst 0, 1) := by decide +kernel
theorem dX10_readCode_170 : decode cX10_readCode 170 = .ok (.bipush 31, 2) := by decide +kernel
theorem dX10_readCode_172 : decode cX10_readCode 172 = .ok (.invokevirtual 167, 3) := by decide +kernel
theorem dX10_readCode_175 : decode cX10_readCode 175 = .ok (.iastore, 1) := by decide +kernel
theorem dX10_readCode_176 : decode cX10_readCode 176 = .ok (.iload_n 1, 1) := by decide +kernel
theorem dX10_readCode_177 : decode cX10_readCode 177 = .ok (.bipush 16, 2) := by decide +kernel
theorem dX10_readCode_179 : decode cX10_readCode 179 = .ok (.if_icmp .eq 21, 3) := by decide +kernel
theorem dX10_readCode_182 : decode cX10_readCode 182 = .ok (.iload_n 1, 1) := by decide +kernel
theorem dX10_readCode_183 : decode cX10_readCode 183 = .ok (.bipush 17, 2) := by decide +kernel
theorem dX10_readCode_185 : decode cX10_readCode 185 = .ok (.if_icmp .eq 15, 3) := by decide +kernel
theorem dX10_readCode_188 : decode cX10_readCode 188 = .ok (.iload_n 1, 1) := by decide +kernel
theorem dX10_readCode_189 : decode cX10_readCode 189 = .ok (.bipush 21, 2) := by decide +kernel
theorem dX10_readCode_191 : decode cX10_readCode 191 = .ok (.if_icmp .eq 9, 3) := by decide +kernel
theorem dX10_readCode_194 : decode cX10_readCode 194 = .ok (.iload_n 1, 1) := by decide +kernel
theorem dX10_readCode_195 : decode cX10_readCode 195 = .ok (.bipush 22, 2) := by decide +kernel
theorem dX10_readCode_197 : decode cX10_readCode 197 = .ok (.if_icmp .ne 13, 3) := by decide +kernel
theorem dX10_readCode_200 : decode cX10_readCode 200 = .ok (.aload_n 0, 1) := by decide +kernel
theorem dX10_readCode_201 : decode cX10_readCode 201 = .ok (.getfield 23, 3) := by decide +kernel
theorem dX10_readCode_204 : decode cX10_readCode 204 = .ok (.iload_n 2, 1) := by decide +kernel
theorem dX10_readCode_205 : decode cX10_readCode 205 = .ok (.aload_n 0, 1) := by decide +kernel
theorem dX10_readCode_206 : decode cX10_readCode 206 = .ok (.invokevirtual 181, 3) := by decide +kernel
theorem dX10_readCode_209 : decode cX10_readCode 209 = .ok (.iastore, 1) := by decide +kernel
theorem dX10_readCode_210 : decode cX10_readCode 210 = .ok (.iload_n 1, 1) := by decide +kernel
theorem dX10_readCode_211 : decode cX10_readCode 211 = .ok (.bipush 15, 2) := by decide +kernel
theorem dX10_readCode_213 : decode cX10_readCode 213 = .ok (.if_icmp .eq 21, 3) := by decide +kernel
theorem dX10_readCode_216 : decode cX10_readCode 216 = .ok (.iload_n 1, 1) := by decide +kernel
theorem dX10_readCode_217 : decode cX10_readCode 217 = .ok (.bipush 18, 2) := by decide +kernel
theorem dX10_readCode_219 : decode cX10_readCode 219 = .ok (.if_icmp .eq 15, 3) := by decide +kernel
theorem dX10_readCode_222 : decode cX10_readCode 222 = .ok (.iload_n 1, 1) := by decide +kernel
theorem dX10_readCode_223 : decode cX10_readCode 223 = .ok (.bipush 19, 2) := by decide +kernel
theorem dX10_readCode_225 : decode cX10_readCode 225 = .ok (.if_icmp .eq 9, 3) := by decide +kernel
theorem dX10_readCode_228 : decode cX10_readCode 228 = .ok (.iload_n 1, 1) := by decide +kernel
theorem dX10_readCode_229 : decode cX10_readCode 229 = .ok (.bipush 23, 2) := by decide +kernel
theorem dX10_readCode_231 : decode cX10_readCode 231 = .ok (.if_icmp .ne 13, 3) := by decide +kernel
theorem dX10_readCode_234 : decode cX10_readCode 234 = .ok (.aload_n 0, 1) := by decide +kernel
theorem dX10_readCode_235 : decode cX10_readCode 235 = .ok (.getfield 23, 3) := by decide +kernel
theorem dX10_readCode_238 : decode cX10_readCode 238 = .ok (.iload_n 2, 1) := by decide +kernel
theorem dX10_readCode_239 : decode cX10_readCode 239 = .ok (.aload_n 0, 1) := by decide +kernel
theorem dX10_readCode_240 : decode cX10_readCode 240 = .ok (.invokevirtual 184, 3) := by decide +kernel
theorem dX10_readCode_243 : decode cX10_readCode 243 = .ok (.iastore, 1) := by decide +kernel
theorem dX10_readCode_244 : decode cX10_readCode 244 = .ok (.iload_n 1, 1) := by decide +kernel
theorem dX10_readCode_245 : decode cX10_readCode 245 = .ok (.bipush 15, 2) := by decide +kernel
theorem dX10_readCode_247 : decode cX10_readCode 247 = .ok (.if_icmp .eq 9, 3) := by decide +kernel
theorem dX10_readCode_250 : decode cX10_readCode 250 = .ok (.iload_n 1, 1) := by decide +kernel
theorem dX10_readCode_251 : decode cX10_readCode 251 = .ok (.bipush 22, 2) := by decide +kernel
theorem dX10_readCode_253 : decode cX10_readCode 253 = .ok (.if_icmp .ne 13, 3) := by decide +kernel
theorem dX10_readCode_256 : decode cX10_readCode 256 = .ok (.aload_n 0, 1) := by decide +kernel
theorem dX10_readCode_257 : decode cX10_readCode 257 = .ok (.getfield 26, 3) := by decide +kernel
theorem dX10_readCode_260 : decode cX10_readCode 260 = .ok (.iload_n 2, 1) := by decide +kernel
theorem dX10_readCode_261 : decode cX10_readCode 261 = .ok (.aload_n 0, 1) := by decide +kernel
theorem dX10_readCode_262 : decode cX10_readCode 262 = .ok (.invokevirtual 181, 3) := by decide +kernel
theorem dX10_readCode_265 : decode cX10_readCode 265 = .ok (.iastore, 1) := by decide +kernel
theorem dX10_readCode_266 : decode cX10_readCode 266 = .ok (.iload_n 1, 1) := by decide +kernel
theorem dX10_readCode_267 : decode cX10_readCode 267 = .ok (.bipush 16, 2) := by decide +kernel
theorem dX10_readCode_269 : decode cX10_readCode 269 = .ok (.if_icmp .eq 27, 3) := by decide +kernel
theorem dX10_readCode_272 : decode cX10_readCode 272 = .ok (.iload_n 1, 1) := by decide +kernel
theorem dX10_readCode_273 : decode cX10_readCode 273 = .ok (.bipush 17, 2) := by decide +kernel
theorem dX10_readCode_275 : decode cX10_readCode 275 = .ok (.if_icmp .eq 21, 3) := by decide +kernel
theorem dX10_readCode_278 : decode cX10_readCode 278 = .ok (.iload_n 1, 1) := by decide +kernel
theorem dX10_readCode_279 : decode cX10_readCode 279 = .ok (.bipush 18, 2) := by decide +kernel
theorem dX10_readCode_281 : decode cX10_readCode 281 = .ok (.if_icmp .eq 15, 3) := by decide +kernel
theorem dX10_readCode_284 : decode cX10_readCode 284 = .ok (.iload_n 1, 1) := by decide +kernel
theorem dX10_readCode_285 : decode cX10_readCode 285 = .ok (.bipush 19, 2) := by decide +kernel
theorem dX10_readCode_287 : decode cX10_readCode 287 = .ok (.if_icmp .eq 9, 3) := by decide +kernel
theorem dX10_readCode_290 : decode cX10_readCode 290 = .ok (.iload_n 1, 1) := by decide +kernel
theorem dX10_readCode_291 : decode cX10_readCode 291 = .ok (.bipush 23, 2) := by decide +kernel
theorem dX10_readCode_293 : decode cX10_readCode 293 = .ok (.if_icmp .ne 13, 3) := by decide +kernel
theorem dX10_readCode_296 : decode cX10_readCode 296 = .ok (.aload_n 0, 1) := by decide +kernel
theorem dX10_readCode_297 : decode cX10_readCode 297 = .ok (.getfield 26, 3) := by decide +kernel
theorem dX10_readCode_300 : decode cX10_readCode 300 = .ok (.iload_n 2, 1) := by decide +kernel
theorem dX10_readCode_301 : decode cX10_readCode 301 = .ok (.aload_n 0, 1) := by decide +kernel
theorem dX10_readCode_302 : decode cX10_readCode 302 = .ok (.invokevirtual 184, 3) := by decide +kernel
theorem dX10_readCode_305 : decode cX10_readCode 305 = .ok (.iastore, 1) := by decide +kernel
theorem dX10_readCode_306 : decode cX10_readCode 306 = .ok (.iload_n 1, 1) := by decide +kernel
theorem dX10_readCode_307 : decode cX10_readCode 307 = .ok (.bipush 18, 2) := by decide +kernel
theorem dX10_readCode_309 : decode cX10_readCode 309 = .ok (.if_icmp .eq 9, 3) := by decide +kernel
theorem dX10_readCode_312 : decode cX10_readCode 312 = .ok (.iload_n 1, 1) := by decide +kernel
theorem dX10_readCode_313 : decode cX10_readCode 313 = .ok (.bipush 19, 2) := by decide +kernel
theorem dX10_readCode_315 : decode cX10_readCode 315 = .ok (.if_icmp .ne 13, 3) := by decide +kernel
theorem dX10_readCode_318 : decode cX10_readCode 318 = .ok (.aload_n 0, 1) := by decide +kernel
theorem dX10_readCode_319 : decode cX10_readCode 319 = .ok (.getfield 29, 3) := by decide +kernel
theorem dX10_readCode_322 : decode cX10_readCode 322 = .ok (.iload_n 2, 1) := by decide +kernel
theorem dX10_readCode_323 : decode cX10_readCode 323 = .ok (.aload_n 0, 1) := by decide +kernel
theorem dX10_readCode_324 : decode cX10_readCode 324 = .ok (.invokevirtual 184, 3) := by decide +kernel
theorem dX10_readCode_327 : decode cX10_readCode 327 = .ok (.iastore, 1) := by decide +kernel
theorem dX10_readCode_328 : decode cX10_readCode 328 = .ok (.iload_n 1, 1) := by decide +kernel
theorem dX10_readCode_329 : decode cX10_readCode 329 = .ok (.invokestatic 187, 3) := by decide +kernel
theorem dX10_readCode_332 : decode cX10_readCode 332 = .ok (.ifCond .eq 8, 3) := by decide +kernel
theorem dX10_readCode_335 : decode cX10_readCode 335 = .ok (.aload_n 0, 1) := by decide +kernel
theorem dX10_readCode_336 : decode cX10_readCode 336 = .ok (.iload_n 2, 1) := by decide +kernel
theorem dX10_readCode_337 : decode cX10_readCode 337 = .ok (.invokevirtual 190, 3) := by decide +kernel
theorem dX10_readCode_340 : decode cX10_readCode 340 = .ok (.aload_n 0, 1) := by decide +kernel
theorem dX10_readCode_341 : decode cX10_readCode 341 = .ok (.bipush 8, 2) := by decide +kernel
theorem dX10_readCode_343 : decode cX10_readCode 343 = .ok (.aload_n 0, 1) := by decide +kernel
theorem dX10_readCode_344 : decode cX10_readCode 344 = .ok (.bipush 8, 2) := by decide +kernel
theorem dX10_readCode_346 : decode cX10_readCode 346 = .ok (.invokevirtual 173, 3) := by decide +kernel
theorem dX10_readCode_349 : decode cX10_readCode 349 = .ok (.iconst 1, 1) := by decide +kernel
theorem dX10_readCode_350 : decode cX10_readCode 350 = .ok (.iadd, 1) := by decide +kernel
theorem dX10_readCode_351 : decode cX10_readCode 351 = .ok (.invokevirtual 170, 3) := by decide +kernel
theorem dX10_readCode_354 : decode cX10_readCode 354 = .ok (.return_, 1) := by decide +kernel
theorem dX10_readTarget_0 : decode cX10_readTarget 0 = .ok (.aload_n 0, 1) := by decide +kernel
theorem dX10_readTarget_1 : decode cX10_readTarget 1 = .ok (.getfield 140, 3) := by decide +kernel
theorem dX10_readTarget_4 : decode cX10_readTarget 4 = .ok (.ifCond .eq 4, 3) := by decide +kernel
theorem dX10_readTarget_7 : decode cX10_readTarget 7 = .ok (.return_, 1) := by decide +kernel
theorem dX10_readTarget_8 : decode cX10_readTarget 8 = .ok (.aload_n 0, 1) := by decide +kernel
theorem dX10_readTarget_9 : decode cX10_readTarget 9 = .ok (.getfield 109, 3) := by decide +kernel
theorem dX10_readTarget_12 : decode cX10_readTarget 12 = .ok (.iconst 1, 1) := by decide +kernel
theorem dX10_readTarget_13 : decode cX10_readTarget 13 = .ok (.if_icmp .eq 8, 3) := by decide +kernel
theorem dX10_readTarget_16 : decode cX10_readTarget 16 = .ok (.aload_n 0, 1) := by decide +kernel
theorem dX10_readTarget_17 : decode cX10_readTarget 17 = .ok (.iconst 1, 1) := by decide +kernel
theorem dX10_readTarget_18 : decode cX10_readTarget 18 = .ok (.invokevirtual 153, 3) := by decide +kernel
theorem dX10_readTarget_21 : decode cX10_readTarget 21 = .ok (.aload_n 0, 1) := by decide +kernel
theorem dX10_readTarget_22 : decode cX10_readTarget 22 = .ok (.getfield 32, 3) := by decide +kernel
theorem dX10_readTarget_25 : decode cX10_readTarget 25 = .ok (.iload_n 1, 1) := by decide +kernel
theorem dX10_readTarget_26 : decode cX10_readTarget 26 = .ok (.aload_n 0, 1) := by decide +kernel
theorem dX10_readTarget_27 : decode cX10_readTarget 27 = .ok (.getfield 119, 3) := by decide +kernel
theorem dX10_readTarget_30 : decode cX10_readTarget 30 = .ok (.iastore, 1) := by decide +kernel
theorem dX10_readTarget_31 : decode cX10_readTarget 31 = .ok (.aload_n 0, 1) := by decide +kernel
theorem dX10_readTarget_32 : decode cX10_readTarget 32 = .ok (.getfield 35, 3) := by decide +kernel
theorem dX10_readTarget_35 : decode cX10_readTarget 35 = .ok (.iload_n 1, 1) := by decide +kernel
theorem dX10_readTarget_36 : decode cX10_readTarget 36 = .ok (.aload_n 0, 1) := by decide +kernel
theorem dX10_readTarget_37 : decode cX10_readTarget 37 = .ok (.getfield 106, 3) := by decide +kernel
theorem dX10_readTarget_40 : decode cX10_readTarget 40 = .ok (.iastore, 1) := by decide +kernel
theorem dX10_readTarget_41 : decode cX10_readTarget 41 = .ok (.aload_n 0, 1) := by decide +kernel
theorem dX10_readTarget_42 : decode cX10_readTarget 42 = .ok (.invokevirtual 161, 3) := by decide +kernel
theorem dX10_readTarget_45 : decode cX10_readTarget 45 = .ok (.return_, 1) := by decide +kernel
theorem dX10_readLine_0 : decode cX10_readLine 0 = .ok (.aload_n 0, 1) := by decide +kernel
theorem dX10_readLine_1 : decode cX10_readLine 1 = .ok (.getfield 109, 3) := by decide +kernel
theorem dX10_readLine_4 : decode cX10_readLine 4 = .ok (.ifCond .eq 11, 3) := by decide +kernel
theorem dX10_readLine_7 : decode cX10_readLine 7 = .ok (.aload_n 0, 1) := by decide +kernel
theorem dX10_readLine_8 : decode cX10_readLine 8 = .ok (.iconst 1, 1) := by decide +kernel
theorem dX10_readLine_9 : decode cX10_readLine 9 = .ok (.invokevirtual 153, 3) := by decide +kernel
theorem dX10_readLine_12 : decode cX10_readLine 12 = .ok (.goto 157, 3) := by decide +kernel
theorem dX10_readLine_15 : decode cX10_readLine 15 = .ok (.aload_n 0, 1) := by decide +kernel
theorem dX10_readLine_16 : decode cX10_readLine 16 = .ok (.getfield 119, 3) := by decide +kernel
theorem dX10_readLine_19 : decode cX10_readLine 19 = .ok (.ifCond .ne 23, 3) := by decide +kernel
theorem dX10_readLine_22 : decode cX10_readLine 22 = .ok (.aload_n 0, 1) := by decide +kernel
theorem dX10_readLine_23 : decode cX10_readLine 23 = .ok (.iconst 0, 1) := by decide +kernel
theorem dX10_readLine_24 : decode cX10_readLine 24 = .ok (.invokevirtual 164, 3) := by decide +kernel
theorem dX10_readLine_27 : decode cX10_readLine 27 = .ok (.aload_n 0, 1) := by decide +kernel
theorem dX10_readLine_28 : decode cX10_readLine 28 = .ok (.iconst 0, 1) := by decide +kernel
theorem dX10_readLine_29 : decode cX10_readLine 29 = .ok (.aload_n 0, 1) := by decide +kernel
theorem dX10_readLine_30 : decode cX10_readLine 30 = .ok (.iconst 1, 1) := by decide +kernel
theorem dX10_readLine_31 : decode cX10_readLine 31 = .ok (.bipush 40, 2) := by decide +kernel
theorem dX10_readLine_33 : decode cX10_readLine 33 = .ok (.invokevirtual 167, 3) := by decide +kernel
theorem dX10_readLine_36 : decode cX10_readLine 36 = .ok (.invokevirtual 170, 3) := by decide +kernel
theorem dX10_readLine_39 : decode cX10_readLine 39 = .ok (.goto 130, 3) := by decide +kernel
theorem dX10_readLine_42 : decode cX10_readLine 42 = .ok (.aload_n 0, 1) := by decide +kernel
theorem dX10_readLine_43 : decode cX10_readLine 43 = .ok (.getfield 119, 3) := by decide +kernel
theorem dX10_readLine_46 : decode cX10_readLine 46 = .ok (.iconst 1, 1) := by decide +kernel
theorem dX10_readLine_47 : decode cX10_readLine 47 = .ok (.if_icmp .ne 10, 3) := by decide +kernel
theorem dX10_readLine_50 : decode cX10_readLine 50 = .ok (.aload_n 0, 1) := by decide +kernel
theorem dX10_readLine_51 : decode cX10_readLine 51 = .ok (.invokevirtual 193, 3) := by decide +kernel
theorem dX10_readLine_54 : decode cX10_readLine 54 = .ok (.goto 115, 3) := by decide +kernel
theorem dX10_readLine_57 : decode cX10_readLine 57 = .ok (.aload_n 0, 1) := by decide +kernel
theorem dX10_readLine_58 : decode cX10_readLine 58 = .ok (.getfield 119, 3) := by decide +kernel
theorem dX10_readLine_61 : decode cX10_readLine 61 = .ok (.iconst 2, 1) := by decide +kernel
theorem dX10_readLine_62 : decode cX10_readLine 62 = .ok (.if_icmp .ne 10, 3) := by decide +kernel
theorem dX10_readLine_65 : decode cX10_readLine 65 = .ok (.aload_n 0, 1) := by decide +kernel
theorem dX10_readLine_66 : decode cX10_readLine 66 = .ok (.invokevirtual 196, 3) := by decide +kernel
theorem dX10_readLine_69 : decode cX10_readLine 69 = .ok (.goto 100, 3) := by decide +kernel
theorem dX10_readLine_72 : decode cX10_readLine 72 = .ok (.aload_n 0, 1) := by decide +kernel
theorem dX10_readLine_73 : decode cX10_readLine 73 = .ok (.getfield 119, 3) := by decide +kernel
theorem dX10_readLine_76 : decode cX10_readLine 76 = .ok (.iconst 3, 1) := by decide +kernel
theorem dX10_readLine_77 : decode cX10_readLine 77 = .ok (.if_icmp .ne 24, 3) := by decide +kernel
theorem dX10_readLine_80 : decode cX10_readLine 80 = .ok (.aload_n 0, 1) := by decide +kernel
theorem dX10_readLine_81 : decode cX10_readLine 81 = .ok (.iconst 3, 1) := by decide +kernel
theorem dX10_readLine_82 : decode cX10_readLine 82 = .ok (.invokevirtual 164, 3) := by decide +kernel
theorem dX10_readLine_85 : decode cX10_readLine 85 = .ok (.aload_n 0, 1) := by decide +kernel
theorem dX10_readLine_86 : decode cX10_readLine 86 = .ok (.bipush 6, 2) := by decide +kernel
theorem dX10_readLine_88 : decode cX10_readLine 88 = .ok (.aload_n 0, 1) := by decide +kernel
theorem dX10_readLine_89 : decode cX10_readLine 89 = .ok (.iconst 1, 1) := by decide +kernel
theorem dX10_readLine_90 : decode cX10_readLine 90 = .ok (.bipush 9, 2) := by decide +kernel
theorem dX10_readLine_92 : decode cX10_readLine 92 = .ok (.invokevirtual 167, 3) := by decide +kernel
theorem dX10_readLine_95 : decode cX10_readLine 95 = .ok (.invokevirtual 170, 3) := by decide +kernel
theorem dX10_readLine_98 : decode cX10_readLine 98 = .ok (.goto 71, 3) := by decide +kernel
theorem dX10_readLine_101 : decode cX10_readLine 101 = .ok (.aload_n 0, 1) := by decide +kernel
theorem dX10_readLine_102 : decode cX10_readLine 102 = .ok (.getfield 119, 3) := by decide +kernel
theorem dX10_readLine_105 : decode cX10_readLine 105 = .ok (.iconst 4, 1) := by decide +kernel
theorem dX10_readLine_106 : decode cX10_readLine 106 = .ok (.if_icmp .ne 24, 3) := by decide +kernel
theorem dX10_readLine_109 : decode cX10_readLine 109 = .ok (.aload_n 0, 1) := by decide +kernel
theorem dX10_readLine_110 : decode cX10_readLine 110 = .ok (.iconst 4, 1) := by decide +kernel
theorem dX10_readLine_111 : decode cX10_readLine 111 = .ok (.invokevirtual 164, 3) := by decide +kernel
theorem dX10_readLine_114 : decode cX10_readLine 114 = .ok (.aload_n 0, 1) := by decide +kernel
theorem dX10_readLine_115 : decode cX10_readLine 115 = .ok (.bipush 7, 2) := by decide +kernel
theorem dX10_readLine_117 : decode cX10_readLine 117 = .ok (.aload_n 0, 1) := by decide +kernel
theorem dX10_readLine_118 : decode cX10_readLine 118 = .ok (.iconst 0, 1) := by decide +kernel
theorem dX10_readLine_119 : decode cX10_readLine 119 = .ok (.ldc 128, 2) := by decide +kernel
theorem dX10_readLine_121 : decode cX10_readLine 121 = .ok (.invokevirtual 167, 3) := by decide +kernel
theorem dX10_readLine_124 : decode cX10_readLine 124 = .ok (.invokevirtual 170, 3) := by decide +kernel
theorem dX10_readLine_127 : decode cX10_readLine 127 = .ok (.goto 42, 3) := by decide +kernel
theorem dX10_readLine_130 : decode cX10_readLine 130 = .ok (.aload_n 0, 1) := by decide +kernel
theorem dX10_readLine_131 : decode cX10_readLine 131 = .ok (.getfield 119, 3) := by decide +kernel
theorem dX10_readLine_134 : decode cX10_readLine 134 = .ok (.iconst 5, 1) := by decide +kernel
theorem dX10_readLine_135 : decode cX10_readLine 135 = .ok (.if_icmp .ne 10, 3) := by decide +kernel
theorem dX10_readLine_138 : decode cX10_readLine 138 = .ok (.aload_n 0, 1) := by decide +kernel
theorem dX10_readLine_139 : decode cX10_readLine 139 = .ok (.invokevirtual 199, 3) := by decide +kernel
theorem dX10_readLine_142 : decode cX10_readLine 142 = .ok (.goto 27, 3) := by decide +kernel
theorem dX10_readLine_145 : decode cX10_readLine 145 = .ok (.aload_n 0, 1) := by decide +kernel
theorem dX10_readLine_146 : decode cX10_readLine 146 = .ok (.getfield 119, 3) := by decide +kernel
theorem dX10_readLine_149 : decode cX10_readLine 149 = .ok (.bipush 6, 2) := by decide +kernel
theorem dX10_readLine_151 : decode cX10_readLine 151 = .ok (.if_icmp .ne 10, 3) := by decide +kernel
theorem dX10_readLine_154 : decode cX10_readLine 154 = .ok (.aload_n 0, 1) := by decide +kernel
theorem dX10_readLine_155 : decode cX10_readLine 155 = .ok (.invokevirtual 202, 3) := by decide +kernel
theorem dX10_readLine_158 : decode cX10_readLine 158 = .ok (.goto 11, 3) := by decide +kernel
theorem dX10_readLine_161 : decode cX10_readLine 161 = .ok (.aload_n 0, 1) := by decide +kernel
theorem dX10_readLine_162 : decode cX10_readLine 162 = .ok (.aload_n 0, 1) := by decide +kernel
theorem dX10_readLine_163 : decode cX10_readLine 163 = .ok (.getfield 119, 3) := by decide +kernel
theorem dX10_readLine_166 : decode cX10_readLine 166 = .ok (.invokevirtual 205, 3) := by decide +kernel
theorem dX10_readLine_169 : decode cX10_readLine 169 = .ok (.aload_n 0, 1) := by decide +kernel
theorem dX10_readLine_170 : decode cX10_readLine 170 = .ok (.getfield 140, 3) := by decide +kernel
theorem dX10_readLine_173 : decode cX10_readLine 173 = .ok (.ifCond .ne 16, 3) := by decide +kernel
theorem dX10_readLine_176 : decode cX10_readLine 176 = .ok (.aload_n 0, 1) := by decide +kernel
theorem dX10_readLine_177 : decode cX10_readLine 177 = .ok (.getfield 109, 3) := by decide +kernel
theorem dX10_readLine_180 : decode cX10_readLine 180 = .ok (.iconst 3, 1) := by decide +kernel
theorem dX10_readLine_181 : decode cX10_readLine 181 = .ok (.if_icmp .eq 8, 3) := by decide +kernel
theorem dX10_readLine_184 : decode cX10_readLine 184 = .ok (.aload_n 0, 1) := by decide +kernel
theorem dX10_readLine_185 : decode cX10_readLine 185 = .ok (.iconst 1, 1) := by decide +kernel
theorem dX10_readLine_186 : decode cX10_readLine 186 = .ok (.invokevirtual 153, 3) := by decide +kernel
theorem dX10_readLine_189 : decode cX10_readLine 189 = .ok (.aload_n 0, 1) := by decide +kernel
theorem dX10_readLine_190 : decode cX10_readLine 190 = .ok (.invokevirtual 161, 3) := by decide +kernel
theorem dX10_readLine_193 : decode cX10_readLine 193 = .ok (.aload_n 0, 1) := by decide +kernel
theorem dX10_readLine_194 : decode cX10_readLine 194 = .ok (.dup, 1) := by decide +kernel
theorem dX10_readLine_195 : decode cX10_readLine 195 = .ok (.getfield 208, 3) := by decide +kernel
theorem dX10_readLine_198 : decode cX10_readLine 198 = .ok (.iconst 1, 1) := by decide +kernel
theorem dX10_readLine_199 : decode cX10_readLine 199 = .ok (.iadd, 1) := by decide +kernel
theorem dX10_readLine_200 : decode cX10_readLine 200 = .ok (.putfield 208, 3) := by decide +kernel
theorem dX10_readLine_203 : decode cX10_readLine 203 = .ok (.return_, 1) := by decide +kernel
theorem dX10_readText_0 : decode cX10_readText 0 = .ok (.aload_n 0, 1) := by decide +kernel
theorem dX10_readText_1 : decode cX10_readText 1 = .ok (.iload_n 1, 1) := by decide +kernel
theorem dX10_readText_2 : decode cX10_readText 2 = .ok (.putfield 99, 3) := by decide +kernel
theorem dX10_readText_5 : decode cX10_readText 5 = .ok (.aload_n 0, 1) := by decide +kernel
theorem dX10_readText_6 : decode cX10_readText 6 = .ok (.iconst 0, 1) := by decide +kernel
theorem dX10_readText_7 : decode cX10_readText 7 = .ok (.putfield 96, 3) := by decide +kernel
theorem dX10_readText_10 : decode cX10_readText 10 = .ok (.aload_n 0, 1) := by decide +kernel
theorem dX10_readText_11 : decode cX10_readText 11 = .ok (.iconst 0, 1) := by decide +kernel
theorem dX10_readText_12 : decode cX10_readText 12 = .ok (.putfield 140, 3) := by decide +kernel
theorem dX10_readText_15 : decode cX10_readText 15 = .ok (.aload_n 0, 1) := by decide +kernel
theorem dX10_readText_16 : decode cX10_readText 16 = .ok (.iconst 0, 1) := by decide +kernel
theorem dX10_readText_17 : decode cX10_readText 17 = .ok (.putfield 208, 3) := by decide +kernel
theorem dX10_readText_20 : decode cX10_readText 20 = .ok (.aload_n 0, 1) := by decide +kernel
theorem dX10_readText_21 : decode cX10_readText 21 = .ok (.invokevirtual 211, 3) := by decide +kernel
theorem dX10_readText_24 : decode cX10_readText 24 = .ok (.aload_n 0, 1) := by decide +kernel
theorem dX10_readText_25 : decode cX10_readText 25 = .ok (.invokevirtual 150, 3) := by decide +kernel
theorem dX10_readText_28 : decode cX10_readText 28 = .ok (.aload_n 0, 1) := by decide +kernel
theorem dX10_readText_29 : decode cX10_readText 29 = .ok (.getfield 140, 3) := by decide +kernel
theorem dX10_readText_32 : decode cX10_readText 32 = .ok (.ifCond .ne 18, 3) := by decide +kernel
theorem dX10_readText_35 : decode cX10_readText 35 = .ok (.aload_n 0, 1) := by decide +kernel
theorem dX10_readText_36 : decode cX10_readText 36 = .ok (.getfield 109, 3) := by decide +kernel
theorem dX10_readText_39 : decode cX10_readText 39 = .ok (.iconst 4, 1) := by decide +kernel
theorem dX10_readText_40 : decode cX10_readText 40 = .ok (.if_icmp .eq 10, 3) := by decide +kernel
theorem dX10_readText_43 : decode cX10_readText 43 = .ok (.aload_n 0, 1) := by decide +kernel
theorem dX10_readText_44 : decode cX10_readText 44 = .ok (.invokevirtual 214, 3) := by decide +kernel
theorem dX10_readText_47 : decode cX10_readText 47 = .ok (.goto (-19), 3) := by decide +kernel
theorem dX10_readText_50 : decode cX10_readText 50 = .ok (.iconst 0, 1) := by decide +kernel
theorem dX10_readText_51 : decode cX10_readText 51 = .ok (.istore_n 2, 1) := by decide +kernel
theorem dX10_readText_52 : decode cX10_readText 52 = .ok (.iload_n 2, 1) := by decide +kernel
theorem dX10_readText_53 : decode cX10_readText 53 = .ok (.aload_n 0, 1) := by decide +kernel
theorem dX10_readText_54 : decode cX10_readText 54 = .ok (.bipush 8, 2) := by decide +kernel
theorem dX10_readText_56 : decode cX10_readText 56 = .ok (.invokevirtual 173, 3) := by decide +kernel
theorem dX10_readText_59 : decode cX10_readText 59 = .ok (.if_icmp .ge 98, 3) := by decide +kernel
theorem dX10_readText_62 : decode cX10_readText 62 = .ok (.aload_n 0, 1) := by decide +kernel
theorem dX10_readText_63 : decode cX10_readText 63 = .ok (.getfield 140, 3) := by decide +kernel
theorem dX10_readText_66 : decode cX10_readText 66 = .ok (.ifCond .ne 91, 3) := by decide +kernel
theorem dX10_readText_69 : decode cX10_readText 69 = .ok (.aload_n 0, 1) := by decide +kernel
theorem dX10_readText_70 : decode cX10_readText 70 = .ok (.getfield 20, 3) := by decide +kernel
theorem dX10_readText_73 : decode cX10_readText 73 = .ok (.bipush 40, 2) := by decide +kernel
theorem dX10_readText_75 : decode cX10_readText 75 = .ok (.iload_n 2, 1) := by decide +kernel
theorem dX10_readText_76 : decode cX10_readText 76 = .ok (.iadd, 1) := by decide +kernel
theorem dX10_readText_77 : decode cX10_readText 77 = .ok (.iaload, 1) := by decide +kernel
theorem dX10_readText_78 : decode cX10_readText 78 = .ok (.invokestatic 187, 3) := by decide +kernel
theorem dX10_readText_81 : decode cX10_readText 81 = .ok (.ifCond .ne 6, 3) := by decide +kernel
theorem dX10_readText_84 : decode cX10_readText 84 = .ok (.goto 67, 3) := by decide +kernel
theorem dX10_readText_87 : decode cX10_readText 87 = .ok (.aload_n 0, 1) := by decide +kernel
theorem dX10_readText_88 : decode cX10_readText 88 = .ok (.sipush 140, 3) := by decide +kernel
theorem dX10_readText_91 : decode cX10_readText 91 = .ok (.aload_n 0, 1) := by decide +kernel
theorem dX10_readText_92 : decode cX10_readText 92 = .ok (.bipush 9, 2) := by decide +kernel
theorem dX10_readText_94 : decode cX10_readText 94 = .ok (.invokevirtual 173, 3) := by decide +kernel
theorem dX10_readText_97 : decode cX10_readText 97 = .ok (.aload_n 0, 1) := by decide +kernel
theorem dX10_readText_98 : decode cX10_readText 98 = .ok (.getfield 32, 3) := by decide +kernel
theorem dX10_readText_101 : decode cX10_readText 101 = .ok (.bipush 40, 2) := by decide +kernel
theorem dX10_readText_103 : decode cX10_readText 103 = .ok (.iload_n 2, 1) := by decide +kernel
theorem dX10_readText_104 : decode cX10_readText 104 = .ok (.iadd, 1) := by decide +kernel
theorem dX10_readText_105 : decode cX10_readText 105 = .ok (.iaload, 1) := by decide +kernel
theorem dX10_readText_106 : decode cX10_readText 106 = .ok (.invokevirtual 177, 3) := by decide +kernel
theorem dX10_readText_109 : decode cX10_readText 109 = .ok (.istore_n 3, 1) := by decide +kernel
theorem dX10_readText_110 : decode cX10_readText 110 = .ok (.iload_n 3, 1) := by decide +kernel
theorem dX10_readText_111 : decode cX10_readText 111 = .ok (.iconst (-1), 1) := by decide +kernel
theorem dX10_readText_112 : decode cX10_readText 112 = .ok (.if_icmp .ne 20, 3) := by decide +kernel
theorem dX10_readText_115 : decode cX10_readText 115 = .ok (.aload_n 0, 1) := by decide +kernel
theorem dX10_readText_116 : decode cX10_readText 116 = .ok (.iconst 4, 1) := by decide +kernel
theorem dX10_readText_117 : decode cX10_readText 117 = .ok (.aload_n 0, 1) := by decide +kernel
theorem dX10_readText_118 : decode cX10_readText 118 = .ok (.getfield 35, 3) := by decide +kernel
theorem dX10_readText_121 : decode cX10_readText 121 = .ok (.bipush 40, 2) := by decide +kernel
theorem dX10_readText_123 : decode cX10_readText 123 = .ok (.iload_n 2, 1) := by decide +kernel
theorem dX10_readText_124 : decode cX10_readText 124 = .ok (.iadd, 1) := by decide +kernel
theorem dX10_readText_125 : decode cX10_readText 125 = .ok (.iaload, 1) := by decide +kernel
theorem dX10_readText_126 : decode cX10_readText 126 = .ok (.invokevirtual 146, 3) := by decide +kernel
theorem dX10_readText_129 : decode cX10_readText 129 = .ok (.goto 22, 3) := by decide +kernel
theorem dX10_readText_132 : decode cX10_readText 132 = .ok (.aload_n 0, 1) := by decide +kernel
theorem dX10_readText_133 : decode cX10_readText 133 = .ok (.getfield 38, 3) := by decide +kernel
theorem dX10_readText_136 : decode cX10_readText 136 = .ok (.bipush 40, 2) := by decide +kernel
theorem dX10_readText_138 : decode cX10_readText 138 = .ok (.iload_n 2, 1) := by decide +kernel
theorem dX10_readText_139 : decode cX10_readText 139 = .ok (.iadd, 1) := by decide +kernel
theorem dX10_readText_140 : decode cX10_readText 140 = .ok (.aload_n 0, 1) := by decide +kernel
theorem dX10_readText_141 : decode cX10_readText 141 = .ok (.getfield 44, 3) := by decide +kernel
theorem dX10_readText_144 : decode cX10_readText 144 = .ok (.sipush 140, 3) := by decide +kernel
theorem dX10_readText_147 : decode cX10_readText 147 = .ok (.iload_n 3, 1) := by decide +kernel
theorem dX10_readText_148 : decode cX10_readText 148 = .ok (.iadd, 1) := by decide +kernel
theorem dX10_readText_149 : decode cX10_readText 149 = .ok (.iaload, 1) := by decide +kernel
theorem dX10_readText_150 : decode cX10_readText 150 = .ok (.iastore, 1) := by decide +kernel
theorem dX10_readText_151 : decode cX10_readText 151 = .ok (.iinc 2 1, 3) := by decide +kernel
theorem dX10_readText_154 : decode cX10_readText 154 = .ok (.goto (-102), 3) := by decide +kernel
theorem dX10_readText_157 : decode cX10_readText 157 = .ok (.return_, 1) := by decide +kernel
theorem dX10_freshText_0 : decode cX10_freshText 0 = .ok (.iconst 0, 1) := by decide +kernel
theorem dX10_freshText_1 : decode cX10_freshText 1 = .ok (.istore_n 1, 1) := by decide +kernel
theorem dX10_freshText_2 : decode cX10_freshText 2 = .ok (.iload_n 1, 1) := by decide +kernel
theorem dX10_freshText_3 : decode cX10_freshText 3 = .ok (.bipush 10, 2) := by decide +kernel
theorem dX10_freshText_5 : decode cX10_freshText 5 = .ok (.if_icmp .ge 15, 3) := by decide +kernel
theorem dX10_freshText_8 : decode cX10_freshText 8 = .ok (.aload_n 0, 1) := by decide +kernel
theorem dX10_freshText_9 : decode cX10_freshText 9 = .ok (.iload_n 1, 1) := by decide +kernel
theorem dX10_freshText_10 : decode cX10_freshText 10 = .ok (.iconst 0, 1) := by decide +kernel
theorem dX10_freshText_11 : decode cX10_freshText 11 = .ok (.invokevirtual 170, 3) := by decide +kernel
theorem dX10_freshText_14 : decode cX10_freshText 14 = .ok (.iinc 1 1, 3) := by decide +kernel
theorem dX10_freshText_17 : decode cX10_freshText 17 = .ok (.goto (-15), 3) := by decide +kernel
theorem dX10_freshText_20 : decode cX10_freshText 20 = .ok (.aload_n 0, 1) := by decide +kernel
theorem dX10_freshText_21 : decode cX10_freshText 21 = .ok (.iconst 0, 1) := by decide +kernel
theorem dX10_freshText_22 : decode cX10_freshText 22 = .ok (.bipush 8, 2) := by decide +kernel
theorem dX10_freshText_24 : decode cX10_freshText 24 = .ok (.invokevirtual 170, 3) := by decide +kernel
theorem dX10_freshText_27 : decode cX10_freshText 27 = .ok (.aload_n 0, 1) := by decide +kernel
theorem dX10_freshText_28 : decode cX10_freshText 28 = .ok (.iconst 1, 1) := by decide +kernel
theorem dX10_freshText_29 : decode cX10_freshText 29 = .ok (.iconst 1, 1) := by decide +kernel
theorem dX10_freshText_30 : decode cX10_freshText 30 = .ok (.invokevirtual 170, 3) := by decide +kernel
theorem dX10_freshText_33 : decode cX10_freshText 33 = .ok (.aload_n 0, 1) := by decide +kernel
theorem dX10_freshText_34 : decode cX10_freshText 34 = .ok (.iconst 2, 1) := by decide +kernel
theorem dX10_freshText_35 : decode cX10_freshText 35 = .ok (.iconst 4, 1) := by decide +kernel
theorem dX10_freshText_36 : decode cX10_freshText 36 = .ok (.invokevirtual 170, 3) := by decide +kernel
theorem dX10_freshText_39 : decode cX10_freshText 39 = .ok (.iconst 0, 1) := by decide +kernel
theorem dX10_freshText_40 : decode cX10_freshText 40 = .ok (.istore_n 1, 1) := by decide +kernel
theorem dX10_freshText_41 : decode cX10_freshText 41 = .ok (.iload_n 1, 1) := by decide +kernel
theorem dX10_freshText_42 : decode cX10_freshText 42 = .ok (.iconst 3, 1) := by decide +kernel
theorem dX10_freshText_43 : decode cX10_freshText 43 = .ok (.if_icmp .ge 17, 3) := by decide +kernel
theorem dX10_freshText_46 : decode cX10_freshText 46 = .ok (.aload_n 0, 1) := by decide +kernel
theorem dX10_freshText_47 : decode cX10_freshText 47 = .ok (.iconst 3, 1) := by decide +kernel
theorem dX10_freshText_48 : decode cX10_freshText 48 = .ok (.iload_n 1, 1) := by decide +kernel
theorem dX10_freshText_49 : decode cX10_freshText 49 = .ok (.iadd, 1) := by decide +kernel
theorem dX10_freshText_50 : decode cX10_freshText 50 = .ok (.iconst 4, 1) := by decide +kernel
theorem dX10_freshText_51 : decode cX10_freshText 51 = .ok (.invokevirtual 170, 3) := by decide +kernel
theorem dX10_freshText_54 : decode cX10_freshText 54 = .ok (.iinc 1 1, 3) := by decide +kernel
theorem dX10_freshText_57 : decode cX10_freshText 57 = .ok (.goto (-16), 3) := by decide +kernel
theorem dX10_freshText_60 : decode cX10_freshText 60 = .ok (.aload_n 0, 1) := by decide +kernel
theorem dX10_freshText_61 : decode cX10_freshText 61 = .ok (.bipush 6, 2) := by decide +kernel
theorem dX10_freshText_63 : decode cX10_freshText 63 = .ok (.iconst 3, 1) := by decide +kernel
theorem dX10_freshText_64 : decode cX10_freshText 64 = .ok (.invokevirtual 170, 3) := by decide +kernel
theorem dX10_freshText_67 : decode cX10_freshText 67 = .ok (.iconst 0, 1) := by decide +kernel
theorem dX10_freshText_68 : decode cX10_freshText 68 = .ok (.istore_n 1, 1) := by decide +kernel
theorem dX10_freshText_69 : decode cX10_freshText 69 = .ok (.iload_n 1, 1) := by decide +kernel
theorem dX10_freshText_70 : decode cX10_freshText 70 = .ok (.iconst 5, 1) := by decide +kernel
theorem dX10_freshText_71 : decode cX10_freshText 71 = .ok (.if_icmp .ge 16, 3) := by decide +kernel
theorem dX10_freshText_74 : decode cX10_freshText 74 = .ok (.aload_n 0, 1) := by decide +kernel
theorem dX10_freshText_75 : decode cX10_freshText 75 = .ok (.getfield 16, 3) := by decide +kernel
theorem dX10_freshText_78 : decode cX10_freshText 78 = .ok (.iload_n 1, 1) := by decide +kernel
theorem dX10_freshText_79 : decode cX10_freshText 79 = .ok (.iconst 0, 1) := by decide +kernel
theorem dX10_freshText_80 : decode cX10_freshText 80 = .ok (.bastore, 1) := by decide +kernel
theorem dX10_freshText_81 : decode cX10_freshText 81 = .ok (.iinc 1 1, 3) := by decide +kernel
theorem dX10_freshText_84 : decode cX10_freshText 84 = .ok (.goto (-15), 3) := by decide +kernel
theorem dX10_freshText_87 : decode cX10_freshText 87 = .ok (.iconst 0, 1) := by decide +kernel
theorem dX10_freshText_88 : decode cX10_freshText 88 = .ok (.istore_n 1, 1) := by decide +kernel
theorem dX10_freshText_89 : decode cX10_freshText 89 = .ok (.iload_n 1, 1) := by decide +kernel
theorem dX10_freshText_90 : decode cX10_freshText 90 = .ok (.bipush 32, 2) := by decide +kernel
theorem dX10_freshText_92 : decode cX10_freshText 92 = .ok (.if_icmp .ge 26, 3) := by decide +kernel
theorem dX10_freshText_95 : decode cX10_freshText 95 = .ok (.aload_n 0, 1) := by decide +kernel
theorem dX10_freshText_96 : decode cX10_freshText 96 = .ok (.getfield 50, 3) := by decide +kernel
theorem dX10_freshText_99 : decode cX10_freshText 99 = .ok (.iload_n 1, 1) := by decide +kernel
theorem dX10_freshText_100 : decode cX10_freshText 100 = .ok (.iconst 0, 1) := by decide +kernel
theorem dX10_freshText_101 : decode cX10_freshText 101 = .ok (.bastore, 1) := by decide +kernel
theorem dX10_freshText_102 : decode cX10_freshText 102 = .ok (.aload_n 0, 1) := by decide +kernel
theorem dX10_freshText_103 : decode cX10_freshText 103 = .ok (.getfield 47, 3) := by decide +kernel
theorem dX10_freshText_106 : decode cX10_freshText 106 = .ok (.bipush 32, 2) := by decide +kernel
theorem dX10_freshText_108 : decode cX10_freshText 108 = .ok (.iload_n 1, 1) := by decide +kernel
theorem dX10_freshText_109 : decode cX10_freshText 109 = .ok (.iadd, 1) := by decide +kernel
theorem dX10_freshText_110 : decode cX10_freshText 110 = .ok (.iconst 0, 1) := by decide +kernel
theorem dX10_freshText_111 : decode cX10_freshText 111 = .ok (.iastore, 1) := by decide +kernel
theorem dX10_freshText_112 : decode cX10_freshText 112 = .ok (.iinc 1 1, 3) := by decide +kernel
theorem dX10_freshText_115 : decode cX10_freshText 115 = .ok (.goto (-26), 3) := by decide +kernel
theorem dX10_freshText_118 : decode cX10_freshText 118 = .ok (.return_, 1) := by decide +kernel
theorem dX10_takeText_0 : decode cX10_takeText 0 = .ok (.aload_n 0, 1) := by decide +kernel
theorem dX10_takeText_1 : decode cX10_takeText 1 = .ok (.getfield 208, 3) := by decide +kernel
theorem dX10_takeText_4 : decode cX10_takeText 4 = .ok (.ifCond .ne 7, 3) := by decide +kernel
theorem dX10_takeText_7 : decode cX10_takeText 7 = .ok (.aload_n 0, 1) := by decide +kernel
theorem dX10_takeText_8 : decode cX10_takeText 8 = .ok (.invokevirtual 211, 3) := by decide +kernel
theorem dX10_takeText_11 : decode cX10_takeText 11 = .ok (.iconst 0, 1) := by decide +kernel
theorem dX10_takeText_12 : decode cX10_takeText 12 = .ok (.istore_n 1, 1) := by decide +kernel
theorem dX10_takeText_13 : decode cX10_takeText 13 = .ok (.iload_n 1, 1) := by decide +kernel
theorem dX10_takeText_14 : decode cX10_takeText 14 = .ok (.bipush 10, 2) := by decide +kernel
theorem dX10_takeText_16 : decode cX10_takeText 16 = .ok (.if_icmp .ge 20, 3) := by decide +kernel
theorem dX10_takeText_19 : decode cX10_takeText 19 = .ok (.aload_n 0, 1) := by decide +kernel
theorem dX10_takeText_20 : decode cX10_takeText 20 = .ok (.getfield 13, 3) := by decide +kernel
theorem dX10_takeText_23 : decode cX10_takeText 23 = .ok (.iload_n 1, 1) := by decide +kernel
theorem dX10_takeText_24 : decode cX10_takeText 24 = .ok (.aload_n 0, 1) := by decide +kernel
theorem dX10_takeText_25 : decode cX10_takeText 25 = .ok (.iload_n 1, 1) := by decide +kernel
theorem dX10_takeText_26 : decode cX10_takeText 26 = .ok (.invokevirtual 173, 3) := by decide +kernel
theorem dX10_takeText_29 : decode cX10_takeText 29 = .ok (.iastore, 1) := by decide +kernel
theorem dX10_takeText_30 : decode cX10_takeText 30 = .ok (.iinc 1 1, 3) := by decide +kernel
theorem dX10_takeText_33 : decode cX10_takeText 33 = .ok (.goto (-20), 3) := by decide +kernel
theorem dX10_takeText_36 : decode cX10_takeText 36 = .ok (.iconst 0, 1) := by decide +kernel
theorem dX10_takeText_37 : decode cX10_takeText 37 = .ok (.istore_n 1, 1) := by decide +kernel
theorem dX10_takeText_38 : decode cX10_takeText 38 = .ok (.iload_n 1, 1) := by decide +kernel
theorem dX10_takeText_39 : decode cX10_takeText 39 = .ok (.bipush 40, 2) := by decide +kernel
theorem dX10_takeText_41 : decode cX10_takeText 41 = .ok (.if_icmp .ge 84, 3) := by decide +kernel
theorem dX10_takeText_44 : decode cX10_takeText 44 = .ok (.aload_n 0, 1) := by decide +kernel
theorem dX10_takeText_45 : decode cX10_takeText 45 = .ok (.getfield 20, 3) := by decide +kernel
theorem dX10_takeText_48 : decode cX10_takeText 48 = .ok (.iload_n 1, 1) := by decide +kernel
theorem dX10_takeText_49 : decode cX10_takeText 49 = .ok (.aload_n 0, 1) := by decide +kernel
theorem dX10_takeText_50 : decode cX10_takeText 50 = .ok (.getfield 20, 3) := by decide +kernel
theorem dX10_takeText_53 : decode cX10_takeText 53 = .ok (.bipush 40, 2) := by decide +kernel
theorem dX10_takeText_55 : decode cX10_takeText 55 = .ok (.iload_n 1, 1) := by decide +kernel
theorem dX10_takeText_56 : decode cX10_takeText 56 = .ok (.iadd, 1) := by decide +kernel
theorem dX10_takeText_57 : decode cX10_takeText 57 = .ok (.iaload, 1) := by decide +kernel
theorem dX10_takeText_58 : decode cX10_takeText 58 = .ok (.iastore, 1) := by decide +kernel
theorem dX10_takeText_59 : decode cX10_takeText 59 = .ok (.aload_n 0, 1) := by decide +kernel
theorem dX10_takeText_60 : decode cX10_takeText 60 = .ok (.getfield 23, 3) := by decide +kernel
theorem dX10_takeText_63 : decode cX10_takeText 63 = .ok (.iload_n 1, 1) := by decide +kernel
theorem dX10_takeText_64 : decode cX10_takeText 64 = .ok (.aload_n 0, 1) := by decide +kernel
theorem dX10_takeText_65 : decode cX10_takeText 65 = .ok (.getfield 23, 3) := by decide +kernel
theorem dX10_takeText_68 : decode cX10_takeText 68 = .ok (.bipush 40, 2) := by decide +kernel
theorem dX10_takeText_70 : decode cX10_takeText 70 = .ok (.iload_n 1, 1) := by decide +kernel
theorem dX10_takeText_71 : decode cX10_takeText 71 = .ok (.iadd, 1) := by decide +kernel
theorem dX10_takeText_72 : decode cX10_takeText 72 = .ok (.iaload, 1) := by decide +kernel
theorem dX10_takeText_73 : decode cX10_takeText 73 = .ok (.iastore, 1) := by decide +kernel
theorem dX10_takeText_74 : decode cX10_takeText 74 = .ok (.aload_n 0, 1) := by decide +kernel
theorem dX10_takeText_75 : decode cX10_takeText 75 = .ok (.getfield 26, 3) := by decide +kernel
theorem dX10_takeText_78 : decode cX10_takeText 78 = .ok (.iload_n 1, 1) := by decide +kernel
theorem dX10_takeText_79 : decode cX10_takeText 79 = .ok (.aload_n 0, 1) := by decide +kernel
theorem dX10_takeText_80 : decode cX10_takeText 80 = .ok (.getfield 26, 3) := by decide +kernel
theorem dX10_takeText_83 : decode cX10_takeText 83 = .ok (.bipush 40, 2) := by decide +kernel
theorem dX10_takeText_85 : decode cX10_takeText 85 = .ok (.iload_n 1, 1) := by decide +kernel
theorem dX10_takeText_86 : decode cX10_takeText 86 = .ok (.iadd, 1) := by decide +kernel
theorem dX10_takeText_87 : decode cX10_takeText 87 = .ok (.iaload, 1) := by decide +kernel
theorem dX10_takeText_88 : decode cX10_takeText 88 = .ok (.iastore, 1) := by decide +kernel
theorem dX10_takeText_89 : decode cX10_takeText 89 = .ok (.aload_n 0, 1) := by decide +kernel
theorem dX10_takeText_90 : decode cX10_takeText 90 = .ok (.getfield 29, 3) := by decide +kernel
theorem dX10_takeText_93 : decode cX10_takeText 93 = .ok (.iload_n 1, 1) := by decide +kernel
theorem dX10_takeText_94 : decode cX10_takeText 94 = .ok (.aload_n 0, 1) := by decide +kernel
theorem dX10_takeText_95 : decode cX10_takeText 95 = .ok (.getfield 29, 3) := by decide +kernel
theorem dX10_takeText_98 : decode cX10_takeText 98 = .ok (.bipush 40, 2) := by decide +kernel
theorem dX10_takeText_100 : decode cX10_takeText 100 = .ok (.iload_n 1, 1) := by decide +kernel
theorem dX10_takeText_101 : decode cX10_takeText 101 = .ok (.iadd, 1) := by decide +kernel
theorem dX10_takeText_102 : decode cX10_takeText 102 = .ok (.iaload, 1) := by decide +kernel
theorem dX10_takeText_103 : decode cX10_takeText 103 = .ok (.iastore, 1) := by decide +kernel
theorem dX10_takeText_104 : decode cX10_takeText 104 = .ok (.aload_n 0, 1) := by decide +kernel
theorem dX10_takeText_105 : decode cX10_takeText 105 = .ok (.getfield 38, 3) := by decide +kernel
theorem dX10_takeText_108 : decode cX10_takeText 108 = .ok (.iload_n 1, 1) := by decide +kernel
theorem dX10_takeText_109 : decode cX10_takeText 109 = .ok (.aload_n 0, 1) := by decide +kernel
theorem dX10_takeText_110 : decode cX10_takeText 110 = .ok (.getfield 38, 3) := by decide +kernel
theorem dX10_takeText_113 : decode cX10_takeText 113 = .ok (.bipush 40, 2) := by decide +kernel
theorem dX10_takeText_115 : decode cX10_takeText 115 = .ok (.iload_n 1, 1) := by decide +kernel
theorem dX10_takeText_116 : decode cX10_takeText 116 = .ok (.iadd, 1) := by decide +kernel
theorem dX10_takeText_117 : decode cX10_takeText 117 = .ok (.iaload, 1) := by decide +kernel
theorem dX10_takeText_118 : decode cX10_takeText 118 = .ok (.iastore, 1) := by decide +kernel
theorem dX10_takeText_119 : decode cX10_takeText 119 = .ok (.iinc 1 1, 3) := by decide +kernel
theorem dX10_takeText_122 : decode cX10_takeText 122 = .ok (.goto (-84), 3) := by decide +kernel
theorem dX10_takeText_125 : decode cX10_takeText 125 = .ok (.iconst 0, 1) := by decide +kernel
theorem dX10_takeText_126 : decode cX10_takeText 126 = .ok (.istore_n 1, 1) := by decide +kernel
theorem dX10_takeText_127 : decode cX10_takeText 127 = .ok (.iload_n 1, 1) := by decide +kernel
theorem dX10_takeText_128 : decode cX10_takeText 128 = .ok (.sipush 140, 3) := by decide +kernel
theorem dX10_takeText_131 : decode cX10_takeText 131 = .ok (.if_icmp .ge 41, 3) := by decide +kernel
theorem dX10_takeText_134 : decode cX10_takeText 134 = .ok (.aload_n 0, 1) := by decide +kernel
theorem dX10_takeText_135 : decode cX10_takeText 135 = .ok (.getfield 41, 3) := by decide +kernel
theorem dX10_takeText_138 : decode cX10_takeText 138 = .ok (.iload_n 1, 1) := by decide +kernel
theorem dX10_takeText_139 : decode cX10_takeText 139 = .ok (.aload_n 0, 1) := by decide +kernel
theorem dX10_takeText_140 : decode cX10_takeText 140 = .ok (.getfield 41, 3) := by decide +kernel
theorem dX10_takeText_143 : decode cX10_takeText 143 = .ok (.sipush 140, 3) := by decide +kernel
theorem dX10_takeText_146 : decode cX10_takeText 146 = .ok (.iload_n 1, 1) := by decide +kernel
theorem dX10_takeText_147 : decode cX10_takeText 147 = .ok (.iadd, 1) := by decide +kernel
theorem dX10_takeText_148 : decode cX10_takeText 148 = .ok (.iaload, 1) := by decide +kernel
theorem dX10_takeText_149 : decode cX10_takeText 149 = .ok (.iastore, 1) := by decide +kernel
theorem dX10_takeText_150 : decode cX10_takeText 150 = .ok (.aload_n 0, 1) := by decide +kernel
theorem dX10_takeText_151 : decode cX10_takeText 151 = .ok (.getfield 44, 3) := by decide +kernel
theorem dX10_takeText_154 : decode cX10_takeText 154 = .ok (.iload_n 1, 1) := by decide +kernel
theorem dX10_takeText_155 : decode cX10_takeText 155 = .ok (.aload_n 0, 1) := by decide +kernel
theorem dX10_takeText_156 : decode cX10_takeText 156 = .ok (.getfield 44, 3) := by decide +kernel
theorem dX10_takeText_159 : decode cX10_takeText 159 = .ok (.sipush 140, 3) := by decide +kernel
theorem dX10_takeText_162 : decode cX10_takeText 162 = .ok (.iload_n 1, 1) := by decide +kernel
theorem dX10_takeText_163 : decode cX10_takeText 163 = .ok (.iadd, 1) := by decide +kernel
theorem dX10_takeText_164 : decode cX10_takeText 164 = .ok (.iaload, 1) := by decide +kernel
theorem dX10_takeText_165 : decode cX10_takeText 165 = .ok (.iastore, 1) := by decide +kernel
theorem dX10_takeText_166 : decode cX10_takeText 166 = .ok (.iinc 1 1, 3) := by decide +kernel
theorem dX10_takeText_169 : decode cX10_takeText 169 = .ok (.goto (-42), 3) := by decide +kernel
theorem dX10_takeText_172 : decode cX10_takeText 172 = .ok (.iconst 0, 1) := by decide +kernel
theorem dX10_takeText_173 : decode cX10_takeText 173 = .ok (.istore_n 1, 1) := by decide +kernel
theorem dX10_takeText_174 : decode cX10_takeText 174 = .ok (.iload_n 1, 1) := by decide +kernel
theorem dX10_takeText_175 : decode cX10_takeText 175 = .ok (.bipush 32, 2) := by decide +kernel
theorem dX10_takeText_177 : decode cX10_takeText 177 = .ok (.if_icmp .ge 24, 3) := by decide +kernel
theorem dX10_takeText_180 : decode cX10_takeText 180 = .ok (.aload_n 0, 1) := by decide +kernel
theorem dX10_takeText_181 : decode cX10_takeText 181 = .ok (.getfield 47, 3) := by decide +kernel
theorem dX10_takeText_184 : decode cX10_takeText 184 = .ok (.iload_n 1, 1) := by decide +kernel
theorem dX10_takeText_185 : decode cX10_takeText 185 = .ok (.aload_n 0, 1) := by decide +kernel
theorem dX10_takeText_186 : decode cX10_takeText 186 = .ok (.getfield 47, 3) := by decide +kernel
theorem dX10_takeText_189 : decode cX10_takeText 189 = .ok (.bipush 32, 2) := by decide +kernel
theorem dX10_takeText_191 : decode cX10_takeText 191 = .ok (.iload_n 1, 1) := by decide +kernel
theorem dX10_takeText_192 : decode cX10_takeText 192 = .ok (.iadd, 1) := by decide +kernel
theorem dX10_takeText_193 : decode cX10_takeText 193 = .ok (.iaload, 1) := by decide +kernel
theorem dX10_takeText_194 : decode cX10_takeText 194 = .ok (.iastore, 1) := by decide +kernel
theorem dX10_takeText_195 : decode cX10_takeText 195 = .ok (.iinc 1 1, 3) := by decide +kernel
theorem dX10_takeText_198 : decode cX10_takeText 198 = .ok (.goto (-24), 3) := by decide +kernel
theorem dX10_takeText_201 : decode cX10_takeText 201 = .ok (.return_, 1) := by decide +kernel
theorem dX10_text_0 : decode cX10_text 0 = .ok (.aload_n 0, 1) := by decide +kernel
theorem dX10_text_1 : decode cX10_text 1 = .ok (.iconst 0, 1) := by decide +kernel
theorem dX10_text_2 : decode cX10_text 2 = .ok (.putfield 90, 3) := by decide +kernel
theorem dX10_text_5 : decode cX10_text 5 = .ok (.iload_n 1, 1) := by decide +kernel
theorem dX10_text_6 : decode cX10_text 6 = .ok (.ifCond .lt 11, 3) := by decide +kernel
theorem dX10_text_9 : decode cX10_text 9 = .ok (.iload_n 1, 1) := by decide +kernel
theorem dX10_text_10 : decode cX10_text 10 = .ok (.aload_n 0, 1) := by decide +kernel
theorem dX10_text_11 : decode cX10_text 11 = .ok (.getfield 93, 3) := by decide +kernel
theorem dX10_text_14 : decode cX10_text 14 = .ok (.if_icmp .le 6, 3) := by decide +kernel
theorem dX10_text_17 : decode cX10_text 17 = .ok (.bipush (-2), 2) := by decide +kernel
theorem dX10_text_19 : decode cX10_text 19 = .ok (.ireturn, 1) := by decide +kernel
theorem dX10_text_20 : decode cX10_text 20 = .ok (.aload_n 0, 1) := by decide +kernel
theorem dX10_text_21 : decode cX10_text 21 = .ok (.iload_n 1, 1) := by decide +kernel
theorem dX10_text_22 : decode cX10_text 22 = .ok (.invokevirtual 217, 3) := by decide +kernel
theorem dX10_text_25 : decode cX10_text 25 = .ok (.aload_n 0, 1) := by decide +kernel
theorem dX10_text_26 : decode cX10_text 26 = .ok (.iconst 0, 1) := by decide +kernel
theorem dX10_text_27 : decode cX10_text 27 = .ok (.putfield 93, 3) := by decide +kernel
theorem dX10_text_30 : decode cX10_text 30 = .ok (.aload_n 0, 1) := by decide +kernel
theorem dX10_text_31 : decode cX10_text 31 = .ok (.aload_n 0, 1) := by decide +kernel
theorem dX10_text_32 : decode cX10_text 32 = .ok (.getfield 140, 3) := by decide +kernel
theorem dX10_text_35 : decode cX10_text 35 = .ok (.putfield 220, 3) := by decide +kernel
theorem dX10_text_38 : decode cX10_text 38 = .ok (.aload_n 0, 1) := by decide +kernel
theorem dX10_text_39 : decode cX10_text 39 = .ok (.aload_n 0, 1) := by decide +kernel
theorem dX10_text_40 : decode cX10_text 40 = .ok (.getfield 140, 3) := by decide +kernel
theorem dX10_text_43 : decode cX10_text 43 = .ok (.ifCond .ne 7, 3) := by decide +kernel
theorem dX10_text_46 : decode cX10_text 46 = .ok (.iconst (-1), 1) := by decide +kernel
theorem dX10_text_47 : decode cX10_text 47 = .ok (.goto 7, 3) := by decide +kernel
theorem dX10_text_50 : decode cX10_text 50 = .ok (.aload_n 0, 1) := by decide +kernel
theorem dX10_text_51 : decode cX10_text 51 = .ok (.getfield 143, 3) := by decide +kernel
theorem dX10_text_54 : decode cX10_text 54 = .ok (.putfield 53, 3) := by decide +kernel
theorem dX10_text_57 : decode cX10_text 57 = .ok (.aload_n 0, 1) := by decide +kernel
theorem dX10_text_58 : decode cX10_text 58 = .ok (.getfield 140, 3) := by decide +kernel
theorem dX10_text_61 : decode cX10_text 61 = .ok (.ifCond .eq 5, 3) := by decide +kernel
theorem dX10_text_64 : decode cX10_text 64 = .ok (.iconst (-1), 1) := by decide +kernel
theorem dX10_text_65 : decode cX10_text 65 = .ok (.ireturn, 1) := by decide +kernel
theorem dX10_text_66 : decode cX10_text 66 = .ok (.aload_n 0, 1) := by decide +kernel
theorem dX10_text_67 : decode cX10_text 67 = .ok (.invokevirtual 84, 3) := by decide +kernel
theorem dX10_text_70 : decode cX10_text 70 = .ok (.aload_n 0, 1) := by decide +kernel
theorem dX10_text_71 : decode cX10_text 71 = .ok (.invokevirtual 87, 3) := by decide +kernel
theorem dX10_text_74 : decode cX10_text 74 = .ok (.aload_n 0, 1) := by decide +kernel
theorem dX10_text_75 : decode cX10_text 75 = .ok (.iconst 0, 1) := by decide +kernel
theorem dX10_text_76 : decode cX10_text 76 = .ok (.putfield 223, 3) := by decide +kernel
theorem dX10_text_79 : decode cX10_text 79 = .ok (.aload_n 0, 1) := by decide +kernel
theorem dX10_text_80 : decode cX10_text 80 = .ok (.getfield 208, 3) := by decide +kernel
theorem dX10_text_83 : decode cX10_text 83 = .ok (.ireturn, 1) := by decide +kernel
theorem dX10_fault_0 : decode cX10_fault 0 = .ok (.aload_n 0, 1) := by decide +kernel
theorem dX10_fault_1 : decode cX10_fault 1 = .ok (.iconst 0, 1) := by decide +kernel
theorem dX10_fault_2 : decode cX10_fault 2 = .ok (.putfield 90, 3) := by decide +kernel
theorem dX10_fault_5 : decode cX10_fault 5 = .ok (.iload_n 1, 1) := by decide +kernel
theorem dX10_fault_6 : decode cX10_fault 6 = .ok (.ifCond .ne 10, 3) := by decide +kernel
theorem dX10_fault_9 : decode cX10_fault 9 = .ok (.aload_n 0, 1) := by decide +kernel
theorem dX10_fault_10 : decode cX10_fault 10 = .ok (.getfield 220, 3) := by decide +kernel
theorem dX10_fault_13 : decode cX10_fault 13 = .ok (.goto 16, 3) := by decide +kernel
theorem dX10_fault_16 : decode cX10_fault 16 = .ok (.iload_n 1, 1) := by decide +kernel
theorem dX10_fault_17 : decode cX10_fault 17 = .ok (.iconst 1, 1) := by decide +kernel
theorem dX10_fault_18 : decode cX10_fault 18 = .ok (.if_icmp .ne 10, 3) := by decide +kernel
theorem dX10_fault_21 : decode cX10_fault 21 = .ok (.aload_n 0, 1) := by decide +kernel
theorem dX10_fault_22 : decode cX10_fault 22 = .ok (.getfield 53, 3) := by decide +kernel
theorem dX10_fault_25 : decode cX10_fault 25 = .ok (.goto 4, 3) := by decide +kernel
theorem dX10_fault_28 : decode cX10_fault 28 = .ok (.iconst (-1), 1) := by decide +kernel
theorem dX10_fault_29 : decode cX10_fault 29 = .ok (.ireturn, 1) := by decide +kernel
theorem dX10_named_0 : decode cX10_named 0 = .ok (.aload_n 0, 1) := by decide +kernel
theorem dX10_named_1 : decode cX10_named 1 = .ok (.iconst 0, 1) := by decide +kernel
theorem dX10_named_2 : decode cX10_named 2 = .ok (.putfield 90, 3) := by decide +kernel
theorem dX10_named_5 : decode cX10_named 5 = .ok (.aload_n 0, 1) := by decide +kernel
theorem dX10_named_6 : decode cX10_named 6 = .ok (.iconst 0, 1) := by decide +kernel
theorem dX10_named_7 : decode cX10_named 7 = .ok (.aload_n 0, 1) := by decide +kernel
theorem dX10_named_8 : decode cX10_named 8 = .ok (.getfield 13, 3) := by decide +kernel
theorem dX10_named_11 : decode cX10_named 11 = .ok (.bipush 9, 2) := by decide +kernel
theorem dX10_named_13 : decode cX10_named 13 = .ok (.iaload, 1) := by decide +kernel
theorem dX10_named_14 : decode cX10_named 14 = .ok (.iload_n 1, 1) := by decide +kernel
theorem dX10_named_15 : decode cX10_named 15 = .ok (.invokevirtual 177, 3) := by decide +kernel
theorem dX10_named_18 : decode cX10_named 18 = .ok (.istore_n 2, 1) := by decide +kernel
theorem dX10_named_19 : decode cX10_named 19 = .ok (.iload_n 2, 1) := by decide +kernel
theorem dX10_named_20 : decode cX10_named 20 = .ok (.iconst (-1), 1) := by decide +kernel
theorem dX10_named_21 : decode cX10_named 21 = .ok (.if_icmp .ne 7, 3) := by decide +kernel
theorem dX10_named_24 : decode cX10_named 24 = .ok (.iconst (-1), 1) := by decide +kernel
theorem dX10_named_25 : decode cX10_named 25 = .ok (.goto 9, 3) := by decide +kernel
theorem dX10_named_28 : decode cX10_named 28 = .ok (.aload_n 0, 1) := by decide +kernel
theorem dX10_named_29 : decode cX10_named 29 = .ok (.getfield 44, 3) := by decide +kernel
theorem dX10_named_32 : decode cX10_named 32 = .ok (.iload_n 2, 1) := by decide +kernel
theorem dX10_named_33 : decode cX10_named 33 = .ok (.iaload, 1) := by decide +kernel
theorem dX10_named_34 : decode cX10_named 34 = .ok (.ireturn, 1) := by decide +kernel
theorem dX10_isLost_0 : decode cX10_isLost 0 = .ok (.iload_n 0, 1) := by decide +kernel
theorem dX10_isLost_1 : decode cX10_isLost 1 = .ok (.ldc 227, 2) := by decide +kernel
theorem dX10_isLost_3 : decode cX10_isLost 3 = .ok (.iand, 1) := by decide +kernel
theorem dX10_isLost_4 : decode cX10_isLost 4 = .ok (.ldc 227, 2) := by decide +kernel
theorem dX10_isLost_6 : decode cX10_isLost 6 = .ok (.if_icmp .ne 7, 3) := by decide +kernel
theorem dX10_isLost_9 : decode cX10_isLost 9 = .ok (.iconst 1, 1) := by decide +kernel
theorem dX10_isLost_10 : decode cX10_isLost 10 = .ok (.goto 4, 3) := by decide +kernel
theorem dX10_isLost_13 : decode cX10_isLost 13 = .ok (.iconst 0, 1) := by decide +kernel
theorem dX10_isLost_14 : decode cX10_isLost 14 = .ok (.ireturn, 1) := by decide +kernel
theorem dX10_worth_0 : decode cX10_worth 0 = .ok (.iload_n 0, 1) := by decide +kernel
theorem dX10_worth_1 : decode cX10_worth 1 = .ok (.invokestatic 228, 3) := by decide +kernel
theorem dX10_worth_4 : decode cX10_worth 4 = .ok (.f2d, 1) := by decide +kernel
theorem dX10_worth_5 : decode cX10_worth 5 = .ok (.dreturn, 1) := by decide +kernel
theorem dX10_cut_0 : decode cX10_cut 0 = .ok (.dload_n 0, 1) := by decide +kernel
theorem dX10_cut_1 : decode cX10_cut 1 = .ok (.d2f, 1) := by decide +kernel
theorem dX10_cut_2 : decode cX10_cut 2 = .ok (.invokestatic 234, 3) := by decide +kernel
theorem dX10_cut_5 : decode cX10_cut 5 = .ok (.ireturn, 1) := by decide +kernel
theorem dX10_added_0 : decode cX10_added 0 = .ok (.iload_n 0, 1) := by decide +kernel
theorem dX10_added_1 : decode cX10_added 1 = .ok (.invokestatic 238, 3) := by decide +kernel
theorem dX10_added_4 : decode cX10_added 4 = .ok (.ifCond .ne 10, 3) := by decide +kernel
theorem dX10_added_7 : decode cX10_added 7 = .ok (.iload_n 1, 1) := by decide +kernel
theorem dX10_added_8 : decode cX10_added 8 = .ok (.invokestatic 238, 3) := by decide +kernel
theorem dX10_added_11 : decode cX10_added 11 = .ok (.ifCond .eq 8, 3) := by decide +kernel
theorem dX10_added_14 : decode cX10_added 14 = .ok (.ldc 241, 2) := by decide +kernel
theorem dX10_added_16 : decode cX10_added 16 = .ok (.goto 15, 3) := by decide +kernel
theorem dX10_added_19 : decode cX10_added 19 = .ok (.iload_n 0, 1) := by decide +kernel
theorem dX10_added_20 : decode cX10_added 20 = .ok (.invokestatic 242, 3) := by decide +kernel
theorem dX10_added_23 : decode cX10_added 23 = .ok (.iload_n 1, 1) := by decide +kernel
theorem dX10_added_24 : decode cX10_added 24 = .ok (.invokestatic 242, 3) := by decide +kernel
theorem dX10_added_27 : decode cX10_added 27 = .ok (.dadd, 1) := by decide +kernel
theorem dX10_added_28 : decode cX10_added 28 = .ok (.invokestatic 246, 3) := by decide +kernel
theorem dX10_added_31 : decode cX10_added 31 = .ok (.ireturn, 1) := by decide +kernel
theorem dX10_multiplied_0 : decode cX10_multiplied 0 = .ok (.iload_n 0, 1) := by decide +kernel
theorem dX10_multiplied_1 : decode cX10_multiplied 1 = .ok (.invokestatic 238, 3) := by decide +kernel
theorem dX10_multiplied_4 : decode cX10_multiplied 4 = .ok (.ifCond .ne 10, 3) := by decide +kernel
theorem dX10_multiplied_7 : decode cX10_multiplied 7 = .ok (.iload_n 1, 1) := by decide +kernel
theorem dX10_multiplied_8 : decode cX10_multiplied 8 = .ok (.invokestatic 238, 3) := by decide +kernel
theorem dX10_multiplied_11 : decode cX10_multiplied 11 = .ok (.ifCond .eq 8, 3) := by decide +kernel
theorem dX10_multiplied_14 : decode cX10_multiplied 14 = .ok (.ldc 241, 2) := by decide +kernel
theorem dX10_multiplied_16 : decode cX10_multiplied 16 = .ok (.goto 15, 3) := by decide +kernel
theorem dX10_multiplied_19 : decode cX10_multiplied 19 = .ok (.iload_n 0, 1) := by decide +kernel
theorem dX10_multiplied_20 : decode cX10_multiplied 20 = .ok (.invokestatic 242, 3) := by decide +kernel
theorem dX10_multiplied_23 : decode cX10_multiplied 23 = .ok (.iload_n 1, 1) := by decide +kernel
theorem dX10_multiplied_24 : decode cX10_multiplied 24 = .ok (.invokestatic 242, 3) := by decide +kernel
theorem dX10_multiplied_27 : decode cX10_multiplied 27 = .ok (.dmul, 1) := by decide +kernel
theorem dX10_multiplied_28 : decode cX10_multiplied 28 = .ok (.invokestatic 246, 3) := by decide +kernel
theorem dX10_multiplied_31 : decode cX10_multiplied 31 = .ok (.ireturn, 1) := by decide +kernel
theorem dX10_whole_0 : decode cX10_whole 0 = .ok (.iload_n 0, 1) := by decide +kernel
theorem dX10_whole_1 : decode cX10_whole 1 = .ok (.invokestatic 238, 3) := by decide +kernel
theorem dX10_whole_4 : decode cX10_whole 4 = .ok (.ifCond .eq 7, 3) := by decide +kernel
theorem dX10_whole_7 : decode cX10_whole 7 = .ok (.iconst 0, 1) := by decide +kernel
theorem dX10_whole_8 : decode cX10_whole 8 = .ok (.goto 8, 3) := by decide +kernel
theorem dX10_whole_11 : decode cX10_whole 11 = .ok (.iload_n 0, 1) := by decide +kernel
theorem dX10_whole_12 : decode cX10_whole 12 = .ok (.invokestatic 242, 3) := by decide +kernel
theorem dX10_whole_15 : decode cX10_whole 15 = .ok (.d2i, 1) := by decide +kernel
theorem dX10_whole_16 : decode cX10_whole 16 = .ok (.ireturn, 1) := by decide +kernel
theorem dX10_copies_0 : decode cX10_copies 0 = .ok (.iconst 0, 1) := by decide +kernel
theorem dX10_copies_1 : decode cX10_copies 1 = .ok (.istore_n 2, 1) := by decide +kernel
theorem dX10_copies_2 : decode cX10_copies 2 = .ok (.iload_n 2, 1) := by decide +kernel
theorem dX10_copies_3 : decode cX10_copies 3 = .ok (.sipush 314, 3) := by decide +kernel
theorem dX10_copies_6 : decode cX10_copies 6 = .ok (.if_icmp .ge 15, 3) := by decide +kernel
theorem dX10_copies_9 : decode cX10_copies 9 = .ok (.aload_n 1, 1) := by decide +kernel
theorem dX10_copies_10 : decode cX10_copies 10 = .ok (.iload_n 2, 1) := by decide +kernel
theorem dX10_copies_11 : decode cX10_copies 11 = .ok (.aload_n 0, 1) := by decide +kernel
theorem dX10_copies_12 : decode cX10_copies 12 = .ok (.iload_n 2, 1) := by decide +kernel
theorem dX10_copies_13 : decode cX10_copies 13 = .ok (.iaload, 1) := by decide +kernel
theorem dX10_copies_14 : decode cX10_copies 14 = .ok (.iastore, 1) := by decide +kernel
theorem dX10_copies_15 : decode cX10_copies 15 = .ok (.iinc 2 1, 3) := by decide +kernel
theorem dX10_copies_18 : decode cX10_copies 18 = .ok (.goto (-16), 3) := by decide +kernel
theorem dX10_copies_21 : decode cX10_copies 21 = .ok (.return_, 1) := by decide +kernel
theorem dX10_asTold_0 : decode cX10_asTold 0 = .ok (.aload_n 0, 1) := by decide +kernel
theorem dX10_asTold_1 : decode cX10_asTold 1 = .ok (.aload_n 0, 1) := by decide +kernel
theorem dX10_asTold_2 : decode cX10_asTold 2 = .ok (.getfield 13, 3) := by decide +kernel
theorem dX10_asTold_5 : decode cX10_asTold 5 = .ok (.iconst 0, 1) := by decide +kernel
theorem dX10_asTold_6 : decode cX10_asTold 6 = .ok (.iaload, 1) := by decide +kernel
theorem dX10_asTold_7 : decode cX10_asTold 7 = .ok (.putfield 250, 3) := by decide +kernel
theorem dX10_asTold_10 : decode cX10_asTold 10 = .ok (.iconst 0, 1) := by decide +kernel
theorem dX10_asTold_11 : decode cX10_asTold 11 = .ok (.istore_n 1, 1) := by decide +kernel
theorem dX10_asTold_12 : decode cX10_asTold 12 = .ok (.iload_n 1, 1) := by decide +kernel
theorem dX10_asTold_13 : decode cX10_asTold 13 = .ok (.iconst 3, 1) := by decide +kernel
theorem dX10_asTold_14 : decode cX10_asTold 14 = .ok (.if_icmp .ge 23, 3) := by decide +kernel
theorem dX10_asTold_17 : decode cX10_asTold 17 = .ok (.aload_n 0, 1) := by decide +kernel
theorem dX10_asTold_18 : decode cX10_asTold 18 = .ok (.getfield 69, 3) := by decide +kernel
theorem dX10_asTold_21 : decode cX10_asTold 21 = .ok (.iload_n 1, 1) := by decide +kernel
theorem dX10_asTold_22 : decode cX10_asTold 22 = .ok (.aload_n 0, 1) := by decide +kernel
theorem dX10_asTold_23 : decode cX10_asTold 23 = .ok (.getfield 13, 3) := by decide +kernel
theorem dX10_asTold_26 : decode cX10_asTold 26 = .ok (.iconst 3, 1) := by decide +kernel
theorem dX10_asTold_27 : decode cX10_asTold 27 = .ok (.iload_n 1, 1) := by decide +kernel
theorem dX10_asTold_28 : decode cX10_asTold 28 = .ok (.iadd, 1) := by decide +kernel
theorem dX10_asTold_29 : decode cX10_asTold 29 = .ok (.iaload, 1) := by decide +kernel
theorem dX10_asTold_30 : decode cX10_asTold 30 = .ok (.iastore, 1) := by decide +kernel
theorem dX10_asTold_31 : decode cX10_asTold 31 = .ok (.iinc 1 1, 3) := by decide +kernel
theorem dX10_asTold_34 : decode cX10_asTold 34 = .ok (.goto (-22), 3) := by decide +kernel
theorem dX10_asTold_37 : decode cX10_asTold 37 = .ok (.return_, 1) := by decide +kernel
theorem dX10_begins_0 : decode cX10_begins 0 = .ok (.aload_n 0, 1) := by decide +kernel
theorem dX10_begins_1 : decode cX10_begins 1 = .ok (.invokevirtual 253, 3) := by decide +kernel
theorem dX10_begins_4 : decode cX10_begins 4 = .ok (.iconst 0, 1) := by decide +kernel
theorem dX10_begins_5 : decode cX10_begins 5 = .ok (.istore_n 1, 1) := by decide +kernel
theorem dX10_begins_6 : decode cX10_begins 6 = .ok (.iload_n 1, 1) := by decide +kernel
theorem dX10_begins_7 : decode cX10_begins 7 = .ok (.sipush 314, 3) := by decide +kernel
theorem dX10_begins_10 : decode cX10_begins 10 = .ok (.if_icmp .ge 16, 3) := by decide +kernel
theorem dX10_begins_13 : decode cX10_begins 13 = .ok (.aload_n 0, 1) := by decide +kernel
theorem dX10_begins_14 : decode cX10_begins 14 = .ok (.getfield 57, 3) := by decide +kernel
theorem dX10_begins_17 : decode cX10_begins 17 = .ok (.iload_n 1, 1) := by decide +kernel
theorem dX10_begins_18 : decode cX10_begins 18 = .ok (.iconst 0, 1) := by decide +kernel
theorem dX10_begins_19 : decode cX10_begins 19 = .ok (.iastore, 1) := by decide +kernel
theorem dX10_begins_20 : decode cX10_begins 20 = .ok (.iinc 1 1, 3) := by decide +kernel
theorem dX10_begins_23 : decode cX10_begins 23 = .ok (.goto (-17), 3) := by decide +kernel
theorem dX10_begins_26 : decode cX10_begins 26 = .ok (.iconst 0, 1) := by decide +kernel
theorem dX10_begins_27 : decode cX10_begins 27 = .ok (.istore_n 1, 1) := by decide +kernel
theorem dX10_begins_28 : decode cX10_begins 28 = .ok (.iload_n 1, 1) := by decide +kernel
theorem dX10_begins_29 : decode cX10_begins 29 = .ok (.bipush 32, 2) := by decide +kernel
theorem dX10_begins_31 : decode cX10_begins 31 = .ok (.if_icmp .ge 25, 3) := by decide +kernel
theorem dX10_begins_34 : decode cX10_begins 34 = .ok (.aload_n 0, 1) := by decide +kernel
theorem dX10_begins_35 : decode cX10_begins 35 = .ok (.getfield 57, 3) := by decide +kernel
theorem dX10_begins_38 : decode cX10_begins 38 = .ok (.sipush 146, 3) := by decide +kernel
theorem dX10_begins_41 : decode cX10_begins 41 = .ok (.iload_n 1, 1) := by decide +kernel
theorem dX10_begins_42 : decode cX10_begins 42 = .ok (.iadd, 1) := by decide +kernel
theorem dX10_begins_43 : decode cX10_begins 43 = .ok (.aload_n 0, 1) := by decide +kernel
theorem dX10_begins_44 : decode cX10_begins 44 = .ok (.getfield 47, 3) := by decide +kernel
theorem dX10_begins_47 : decode cX10_begins 47 = .ok (.iload_n 1, 1) := by decide +kernel
theorem dX10_begins_48 : decode cX10_begins 48 = .ok (.iaload, 1) := by decide +kernel
theorem dX10_begins_49 : decode cX10_begins 49 = .ok (.iastore, 1) := by decide +kernel
theorem dX10_begins_50 : decode cX10_begins 50 = .ok (.iinc 1 1, 3) := by decide +kernel
theorem dX10_begins_53 : decode cX10_begins 53 = .ok (.goto (-25), 3) := by decide +kernel
theorem dX10_begins_56 : decode cX10_begins 56 = .ok (.return_, 1) := by decide +kernel
theorem dX10_ahead_0 : decode cX10_ahead 0 = .ok (.aload_n 0, 1) := by decide +kernel
theorem dX10_ahead_1 : decode cX10_ahead 1 = .ok (.getfield 57, 3) := by decide +kernel
theorem dX10_ahead_4 : decode cX10_ahead 4 = .ok (.iconst 2, 1) := by decide +kernel
theorem dX10_ahead_5 : decode cX10_ahead 5 = .ok (.iaload, 1) := by decide +kernel
theorem dX10_ahead_6 : decode cX10_ahead 6 = .ok (.aload_n 0, 1) := by decide +kernel
theorem dX10_ahead_7 : decode cX10_ahead 7 = .ok (.getfield 57, 3) := by decide +kernel
theorem dX10_ahead_10 : decode cX10_ahead 10 = .ok (.iconst 3, 1) := by decide +kernel
theorem dX10_ahead_11 : decode cX10_ahead 11 = .ok (.iaload, 1) := by decide +kernel
theorem dX10_ahead_12 : decode cX10_ahead 12 = .ok (.isub, 1) := by decide +kernel
theorem dX10_ahead_13 : decode cX10_ahead 13 = .ok (.ireturn, 1) := by decide +kernel
theorem dX10_isHaltedAt_0 : decode cX10_isHaltedAt 0 = .ok (.iload_n 1, 1) := by decide +kernel
theorem dX10_isHaltedAt_1 : decode cX10_isHaltedAt 1 = .ok (.aload_n 0, 1) := by decide +kernel
theorem dX10_isHaltedAt_2 : decode cX10_isHaltedAt 2 = .ok (.getfield 13, 3) := by decide +kernel
theorem dX10_isHaltedAt_5 : decode cX10_isHaltedAt 5 = .ok (.bipush 8, 2) := by decide +kernel
theorem dX10_isHaltedAt_7 : decode cX10_isHaltedAt 7 = .ok (.iaload, 1) := by decide +kernel
theorem dX10_isHaltedAt_8 : decode cX10_isHaltedAt 8 = .ok (.if_icmp .ge 14, 3) := by decide +kernel
theorem dX10_isHaltedAt_11 : decode cX10_isHaltedAt 11 = .ok (.aload_n 0, 1) := by decide +kernel
theorem dX10_isHaltedAt_12 : decode cX10_isHaltedAt 12 = .ok (.getfield 20, 3) := by decide +kernel
theorem dX10_isHaltedAt_15 : decode cX10_isHaltedAt 15 = .ok (.iload_n 1, 1) := by decide +kernel
theorem dX10_isHaltedAt_16 : decode cX10_isHaltedAt 16 = .ok (.iaload, 1) := by decide +kernel
theorem dX10_isHaltedAt_17 : decode cX10_isHaltedAt 17 = .ok (.bipush 24, 2) := by decide +kernel
theorem dX10_isHaltedAt_19 : decode cX10_isHaltedAt 19 = .ok (.if_icmp .ne 7, 3) := by decide +kernel
theorem dX10_isHaltedAt_22 : decode cX10_isHaltedAt 22 = .ok (.iconst 1, 1) := by decide +kernel
theorem dX10_isHaltedAt_23 : decode cX10_isHaltedAt 23 = .ok (.goto 4, 3) := by decide +kernel
theorem dX10_isHaltedAt_26 : decode cX10_isHaltedAt 26 = .ok (.iconst 0, 1) := by decide +kernel
theorem dX10_isHaltedAt_27 : decode cX10_isHaltedAt 27 = .ok (.ireturn, 1) := by decide +kernel
theorem dX10_isHalted_0 : decode cX10_isHalted 0 = .ok (.aload_n 0, 1) := by decide +kernel
theorem dX10_isHalted_1 : decode cX10_isHalted 1 = .ok (.aload_n 0, 1) := by decide +kernel
theorem dX10_isHalted_2 : decode cX10_isHalted 2 = .ok (.getfield 57, 3) := by decide +kernel
theorem dX10_isHalted_5 : decode cX10_isHalted 5 = .ok (.iconst 0, 1) := by decide +kernel
theorem dX10_isHalted_6 : decode cX10_isHalted 6 = .ok (.iload_n 1, 1) := by decide +kernel
theorem dX10_isHalted_7 : decode cX10_isHalted 7 = .ok (.iadd, 1) := by decide +kernel
theorem dX10_isHalted_8 : decode cX10_isHalted 8 = .ok (.iaload, 1) := by decide +kernel
theorem dX10_isHalted_9 : decode cX10_isHalted 9 = .ok (.invokevirtual 256, 3) := by decide +kernel
theorem dX10_isHalted_12 : decode cX10_isHalted 12 = .ok (.ireturn, 1) := by decide +kernel
theorem dX10_isBranch_0 : decode cX10_isBranch 0 = .ok (.iload_n 0, 1) := by decide +kernel
theorem dX10_isBranch_1 : decode cX10_isBranch 1 = .ok (.bipush 21, 2) := by decide +kernel
theorem dX10_isBranch_3 : decode cX10_isBranch 3 = .ok (.if_icmp .eq 15, 3) := by decide +kernel
theorem dX10_isBranch_6 : decode cX10_isBranch 6 = .ok (.iload_n 0, 1) := by decide +kernel
theorem dX10_isBranch_7 : decode cX10_isBranch 7 = .ok (.bipush 22, 2) := by decide +kernel
theorem dX10_isBranch_9 : decode cX10_isBranch 9 = .ok (.if_icmp .eq 9, 3) := by decide +kernel
theorem dX10_isBranch_12 : decode cX10_isBranch 12 = .ok (.iload_n 0, 1) := by decide +kernel
theorem dX10_isBranch_13 : decode cX10_isBranch 13 = .ok (.bipush 23, 2) := by decide +kernel
theorem dX10_isBranch_15 : decode cX10_isBranch 15 = .ok (.if_icmp .ne 7, 3) := by decide +kernel
theorem dX10_isBranch_18 : decode cX10_isBranch 18 = .ok (.iconst 1, 1) := by decide +kernel
theorem dX10_isBranch_19 : decode cX10_isBranch 19 = .ok (.goto 4, 3) := by decide +kernel
theorem dX10_isBranch_22 : decode cX10_isBranch 22 = .ok (.iconst 0, 1) := by decide +kernel
theorem dX10_isBranch_23 : decode cX10_isBranch 23 = .ok (.ireturn, 1) := by decide +kernel
theorem dX10_isBlocked_0 : decode cX10_isBlocked 0 = .ok (.aload_n 0, 1) := by decide +kernel
theorem dX10_isBlocked_1 : decode cX10_isBlocked 1 = .ok (.getfield 20, 3) := by decide +kernel
theorem dX10_isBlocked_4 : decode cX10_isBlocked 4 = .ok (.aload_n 0, 1) := by decide +kernel
theorem dX10_isBlocked_5 : decode cX10_isBlocked 5 = .ok (.getfield 57, 3) := by decide +kernel
theorem dX10_isBlocked_8 : decode cX10_isBlocked 8 = .ok (.iconst 0, 1) := by decide +kernel
theorem dX10_isBlocked_9 : decode cX10_isBlocked 9 = .ok (.iload_n 1, 1) := by decide +kernel
theorem dX10_isBlocked_10 : decode cX10_isBlocked 10 = .ok (.iadd, 1) := by decide +kernel
theorem dX10_isBlocked_11 : decode cX10_isBlocked 11 = .ok (.iaload, 1) := by decide +kernel
theorem dX10_isBlocked_12 : decode cX10_isBlocked 12 = .ok (.iaload, 1) := by decide +kernel
theorem dX10_isBlocked_13 : decode cX10_isBlocked 13 = .ok (.istore_n 2, 1) := by decide +kernel
theorem dX10_isBlocked_14 : decode cX10_isBlocked 14 = .ok (.iload_n 2, 1) := by decide +kernel
theorem dX10_isBlocked_15 : decode cX10_isBlocked 15 = .ok (.bipush 12, 2) := by decide +kernel
theorem dX10_isBlocked_17 : decode cX10_isBlocked 17 = .ok (.if_icmp .ne 47, 3) := by decide +kernel
theorem dX10_isBlocked_20 : decode cX10_isBlocked 20 = .ok (.iload_n 1, 1) := by decide +kernel
theorem dX10_isBlocked_21 : decode cX10_isBlocked 21 = .ok (.ifCond .ne 27, 3) := by decide +kernel
theorem dX10_isBlocked_24 : decode cX10_isBlocked 24 = .ok (.aload_n 0, 1) := by decide +kernel
theorem dX10_isBlocked_25 : decode cX10_isBlocked 25 = .ok (.getfield 57, 3) := by decide +kernel
theorem dX10_isBlocked_28 : decode cX10_isBlocked 28 = .ok (.bipush 86, 2) := by decide +kernel
theorem dX10_isBlocked_30 : decode cX10_isBlocked 30 = .ok (.iaload, 1) := by decide +kernel
theorem dX10_isBlocked_31 : decode cX10_isBlocked 31 = .ok (.aload_n 0, 1) := by decide +kernel
theorem dX10_isBlocked_32 : decode cX10_isBlocked 32 = .ok (.getfield 69, 3) := by decide +kernel
theorem dX10_isBlocked_35 : decode cX10_isBlocked 35 = .ok (.iconst 0, 1) := by decide +kernel
theorem dX10_isBlocked_36 : decode cX10_isBlocked 36 = .ok (.iaload, 1) := by decide +kernel
theorem dX10_isBlocked_37 : decode cX10_isBlocked 37 = .ok (.if_icmp .lt 7, 3) := by decide +kernel
theorem dX10_isBlocked_40 : decode cX10_isBlocked 40 = .ok (.iconst 1, 1) := by decide +kernel
theorem dX10_isBlocked_41 : decode cX10_isBlocked 41 = .ok (.goto 22, 3) := by decide +kernel
theorem dX10_isBlocked_44 : decode cX10_isBlocked 44 = .ok (.iconst 0, 1) := by decide +kernel
theorem dX10_isBlocked_45 : decode cX10_isBlocked 45 = .ok (.goto 18, 3) := by decide +kernel
theorem dX10_isBlocked_48 : decode cX10_isBlocked 48 = .ok (.aload_n 0, 1) := by decide +kernel
theorem dX10_isBlocked_49 : decode cX10_isBlocked 49 = .ok (.getfield 57, 3) := by decide +kernel
theorem dX10_isBlocked_52 : decode cX10_isBlocked 52 = .ok (.bipush 86, 2) := by decide +kernel
theorem dX10_isBlocked_54 : decode cX10_isBlocked 54 = .ok (.iaload, 1) := by decide +kernel
theorem dX10_isBlocked_55 : decode cX10_isBlocked 55 = .ok (.ifCond .ne 7, 3) := by decide +kernel
theorem dX10_isBlocked_58 : decode cX10_isBlocked 58 = .ok (.iconst 1, 1) := by decide +kernel
theorem dX10_isBlocked_59 : decode cX10_isBlocked 59 = .ok (.goto 4, 3) := by decide +kernel
theorem dX10_isBlocked_62 : decode cX10_isBlocked 62 = .ok (.iconst 0, 1) := by decide +kernel
theorem dX10_isBlocked_63 : decode cX10_isBlocked 63 = .ok (.ireturn, 1) := by decide +kernel
theorem dX10_isBlocked_64 : decode cX10_isBlocked 64 = .ok (.iload_n 2, 1) := by decide +kernel
theorem dX10_isBlocked_65 : decode cX10_isBlocked 65 = .ok (.invokestatic 259, 3) := by decide +kernel
theorem dX10_isBlocked_68 : decode cX10_isBlocked 68 = .ok (.ifCond .eq 47, 3) := by decide +kernel
theorem dX10_isBlocked_71 : decode cX10_isBlocked 71 = .ok (.iload_n 1, 1) := by decide +kernel
theorem dX10_isBlocked_72 : decode cX10_isBlocked 72 = .ok (.ifCond .ne 27, 3) := by decide +kernel
theorem dX10_isBlocked_75 : decode cX10_isBlocked 75 = .ok (.aload_n 0, 1) := by decide +kernel
theorem dX10_isBlocked_76 : decode cX10_isBlocked 76 = .ok (.getfield 57, 3) := by decide +kernel
theorem dX10_isBlocked_79 : decode cX10_isBlocked 79 = .ok (.bipush 103, 2) := by decide +kernel
theorem dX10_isBlocked_81 : decode cX10_isBlocked 81 = .ok (.iaload, 1) := by decide +kernel
theorem dX10_isBlocked_82 : decode cX10_isBlocked 82 = .ok (.aload_n 0, 1) := by decide +kernel
theorem dX10_isBlocked_83 : decode cX10_isBlocked 83 = .ok (.getfield 69, 3) := by decide +kernel
theorem dX10_isBlocked_86 : decode cX10_isBlocked 86 = .ok (.iconst 1, 1) := by decide +kernel
theorem dX10_isBlocked_87 : decode cX10_isBlocked 87 = .ok (.iaload, 1) := by decide +kernel
theorem dX10_isBlocked_88 : decode cX10_isBlocked 88 = .ok (.if_icmp .lt 7, 3) := by decide +kernel
theorem dX10_isBlocked_91 : decode cX10_isBlocked 91 = .ok (.iconst 1, 1) := by decide +kernel
theorem dX10_isBlocked_92 : decode cX10_isBlocked 92 = .ok (.goto 22, 3) := by decide +kernel
theorem dX10_isBlocked_95 : decode cX10_isBlocked 95 = .ok (.iconst 0, 1) := by decide +kernel
theorem dX10_isBlocked_96 : decode cX10_isBlocked 96 = .ok (.goto 18, 3) := by decide +kernel
theorem dX10_isBlocked_99 : decode cX10_isBlocked 99 = .ok (.aload_n 0, 1) := by decide +kernel
theorem dX10_isBlocked_100 : decode cX10_isBlocked 100 = .ok (.getfield 57, 3) := by decide +kernel
theorem dX10_isBlocked_103 : decode cX10_isBlocked 103 = .ok (.bipush 103, 2) := by decide +kernel
theorem dX10_isBlocked_105 : decode cX10_isBlocked 105 = .ok (.iaload, 1) := by decide +kernel
theorem dX10_isBlocked_106 : decode cX10_isBlocked 106 = .ok (.ifCond .ne 7, 3) := by decide +kernel
theorem dX10_isBlocked_109 : decode cX10_isBlocked 109 = .ok (.iconst 1, 1) := by decide +kernel
theorem dX10_isBlocked_110 : decode cX10_isBlocked 110 = .ok (.goto 4, 3) := by decide +kernel
theorem dX10_isBlocked_113 : decode cX10_isBlocked 113 = .ok (.iconst 0, 1) := by decide +kernel
theorem dX10_isBlocked_114 : decode cX10_isBlocked 114 = .ok (.ireturn, 1) := by decide +kernel
theorem dX10_isBlocked_115 : decode cX10_isBlocked 115 = .ok (.iload_n 2, 1) := by decide +kernel
theorem dX10_isBlocked_116 : decode cX10_isBlocked 116 = .ok (.bipush 13, 2) := by decide +kernel
theorem dX10_isBlocked_118 : decode cX10_isBlocked 118 = .ok (.if_icmp .eq 9, 3) := by decide +kernel
theorem dX10_isBlocked_121 : decode cX10_isBlocked 121 = .ok (.iload_n 2, 1) := by decide +kernel
theorem dX10_isBlocked_122 : decode cX10_isBlocked 122 = .ok (.bipush 14, 2) := by decide +kernel
theorem dX10_isBlocked_124 : decode cX10_isBlocked 124 = .ok (.if_icmp .ne 54, 3) := by decide +kernel
theorem dX10_isBlocked_127 : decode cX10_isBlocked 127 = .ok (.iload_n 1, 1) := by decide +kernel
theorem dX10_isBlocked_128 : decode cX10_isBlocked 128 = .ok (.ifCond .ne 27, 3) := by decide +kernel
theorem dX10_isBlocked_131 : decode cX10_isBlocked 131 = .ok (.aload_n 0, 1) := by decide +kernel
theorem dX10_isBlocked_132 : decode cX10_isBlocked 132 = .ok (.getfield 57, 3) := by decide +kernel
theorem dX10_isBlocked_135 : decode cX10_isBlocked 135 = .ok (.bipush 112, 2) := by decide +kernel
theorem dX10_isBlocked_137 : decode cX10_isBlocked 137 = .ok (.iaload, 1) := by decide +kernel
theorem dX10_isBlocked_138 : decode cX10_isBlocked 138 = .ok (.aload_n 0, 1) := by decide +kernel
theorem dX10_isBlocked_139 : decode cX10_isBlocked 139 = .ok (.getfield 69, 3) := by decide +kernel
theorem dX10_isBlocked_142 : decode cX10_isBlocked 142 = .ok (.iconst 2, 1) := by decide +kernel
theorem dX10_isBlocked_143 : decode cX10_isBlocked 143 = .ok (.iaload, 1) := by decide +kernel
theorem dX10_isBlocked_144 : decode cX10_isBlocked 144 = .ok (.if_icmp .lt 7, 3) := by decide +kernel
theorem dX10_isBlocked_147 : decode cX10_isBlocked 147 = .ok (.iconst 1, 1) := by decide +kernel
theorem dX10_isBlocked_148 : decode cX10_isBlocked 148 = .ok (.goto 29, 3) := by decide +kernel
theorem dX10_isBlocked_151 : decode cX10_isBlocked 151 = .ok (.iconst 0, 1) := by decide +kernel
theorem dX10_isBlocked_152 : decode cX10_isBlocked 152 = .ok (.goto 25, 3) := by decide +kernel
theorem dX10_isBlocked_155 : decode cX10_isBlocked 155 = .ok (.aload_n 0, 1) := by decide +kernel
theorem dX10_isBlocked_156 : decode cX10_isBlocked 156 = .ok (.getfield 57, 3) := by decide +kernel
theorem dX10_isBlocked_159 : decode cX10_isBlocked 159 = .ok (.bipush 112, 2) := by decide +kernel
theorem dX10_isBlocked_161 : decode cX10_isBlocked 161 = .ok (.iaload, 1) := by decide +kernel
theorem dX10_isBlocked_162 : decode cX10_isBlocked 162 = .ok (.aload_n 0, 1) := by decide +kernel
theorem dX10_isBlocked_163 : decode cX10_isBlocked 163 = .ok (.getfield 57, 3) := by decide +kernel
theorem dX10_isBlocked_166 : decode cX10_isBlocked 166 = .ok (.bipush 113, 2) := by decide +kernel
theorem dX10_isBlocked_168 : decode cX10_isBlocked 168 = .ok (.iaload, 1) := by decide +kernel
theorem dX10_isBlocked_169 : decode cX10_isBlocked 169 = .ok (.if_icmp .ne 7, 3) := by decide +kernel
theorem dX10_isBlocked_172 : decode cX10_isBlocked 172 = .ok (.iconst 1, 1) := by decide +kernel
theorem dX10_isBlocked_173 : decode cX10_isBlocked 173 = .ok (.goto 4, 3) := by decide +kernel
theorem dX10_isBlocked_176 : decode cX10_isBlocked 176 = .ok (.iconst 0, 1) := by decide +kernel
theorem dX10_isBlocked_177 : decode cX10_isBlocked 177 = .ok (.ireturn, 1) := by decide +kernel
theorem dX10_isBlocked_178 : decode cX10_isBlocked 178 = .ok (.iconst 0, 1) := by decide +kernel
theorem dX10_isBlocked_179 : decode cX10_isBlocked 179 = .ok (.ireturn, 1) := by decide +kernel
theorem dX10_leaderWhy_0 : decode cX10_leaderWhy 0 = .ok (.aload_n 0, 1) := by decide +kernel
theorem dX10_leaderWhy_1 : decode cX10_leaderWhy 1 = .ok (.getfield 57, 3) := by decide +kernel
theorem dX10_leaderWhy_4 : decode cX10_leaderWhy 4 = .ok (.iconst 2, 1) := by decide +kernel
theorem dX10_leaderWhy_5 : decode cX10_leaderWhy 5 = .ok (.iaload, 1) := by decide +kernel
theorem dX10_leaderWhy_6 : decode cX10_leaderWhy 6 = .ok (.aload_n 0, 1) := by decide +kernel
theorem dX10_leaderWhy_7 : decode cX10_leaderWhy 7 = .ok (.getfield 250, 3) := by decide +kernel
theorem dX10_leaderWhy_10 : decode cX10_leaderWhy 10 = .ok (.if_icmp .lt 5, 3) := by decide +kernel
theorem dX10_leaderWhy_13 : decode cX10_leaderWhy 13 = .ok (.iconst 1, 1) := by decide +kernel
theorem dX10_leaderWhy_14 : decode cX10_leaderWhy 14 = .ok (.ireturn, 1) := by decide +kernel
theorem dX10_leaderWhy_15 : decode cX10_leaderWhy 15 = .ok (.aload_n 0, 1) := by decide +kernel
theorem dX10_leaderWhy_16 : decode cX10_leaderWhy 16 = .ok (.iconst 0, 1) := by decide +kernel
theorem dX10_leaderWhy_17 : decode cX10_leaderWhy 17 = .ok (.invokevirtual 262, 3) := by decide +kernel
theorem dX10_leaderWhy_20 : decode cX10_leaderWhy 20 = .ok (.ifCond .eq 5, 3) := by decide +kernel
theorem dX10_leaderWhy_23 : decode cX10_leaderWhy 23 = .ok (.iconst 2, 1) := by decide +kernel
theorem dX10_leaderWhy_24 : decode cX10_leaderWhy 24 = .ok (.ireturn, 1) := by decide +kernel
theorem dX10_leaderWhy_25 : decode cX10_leaderWhy 25 = .ok (.aload_n 0, 1) := by decide +kernel
theorem dX10_leaderWhy_26 : decode cX10_leaderWhy 26 = .ok (.invokevirtual 265, 3) := by decide +kernel
theorem dX10_leaderWhy_29 : decode cX10_leaderWhy 29 = .ok (.aload_n 0, 1) := by decide +kernel
theorem dX10_leaderWhy_30 : decode cX10_leaderWhy 30 = .ok (.getfield 13, 3) := by decide +kernel
theorem dX10_leaderWhy_33 : decode cX10_leaderWhy 33 = .ok (.iconst 2, 1) := by decide +kernel
theorem dX10_leaderWhy_34 : decode cX10_leaderWhy 34 = .ok (.iaload, 1) := by decide +kernel
theorem dX10_leaderWhy_35 : decode cX10_leaderWhy 35 = .ok (.if_icmp .lt 5, 3) := by decide +kernel
theorem dX10_leaderWhy_38 : decode cX10_leaderWhy 38 = .ok (.iconst 3, 1) := by decide +kernel
theorem dX10_leaderWhy_39 : decode cX10_leaderWhy 39 = .ok (.ireturn, 1) := by decide +kernel
theorem dX10_leaderWhy_40 : decode cX10_leaderWhy 40 = .ok (.aload_n 0, 1) := by decide +kernel
theorem dX10_leaderWhy_41 : decode cX10_leaderWhy 41 = .ok (.iconst 0, 1) := by decide +kernel
theorem dX10_leaderWhy_42 : decode cX10_leaderWhy 42 = .ok (.invokevirtual 268, 3) := by decide +kernel
theorem dX10_leaderWhy_45 : decode cX10_leaderWhy 45 = .ok (.ifCond .eq 7, 3) := by decide +kernel
theorem dX10_leaderWhy_48 : decode cX10_leaderWhy 48 = .ok (.iconst 4, 1) := by decide +kernel
theorem dX10_leaderWhy_49 : decode cX10_leaderWhy 49 = .ok (.goto 4, 3) := by decide +kernel
theorem dX10_leaderWhy_52 : decode cX10_leaderWhy 52 = .ok (.iconst 0, 1) := by decide +kernel
theorem dX10_leaderWhy_53 : decode cX10_leaderWhy 53 = .ok (.ireturn, 1) := by decide +kernel
theorem dX10_trailerWhy_0 : decode cX10_trailerWhy 0 = .ok (.aload_n 0, 1) := by decide +kernel
theorem dX10_trailerWhy_1 : decode cX10_trailerWhy 1 = .ok (.getfield 57, 3) := by decide +kernel
theorem dX10_trailerWhy_4 : decode cX10_trailerWhy 4 = .ok (.iconst 3, 1) := by decide +kernel
theorem dX10_trailerWhy_5 : decode cX10_trailerWhy 5 = .ok (.iaload, 1) := by decide +kernel
theorem dX10_trailerWhy_6 : decode cX10_trailerWhy 6 = .ok (.aload_n 0, 1) := by decide +kernel
theorem dX10_trailerWhy_7 : decode cX10_trailerWhy 7 = .ok (.getfield 250, 3) := by decide +kernel
theorem dX10_trailerWhy_10 : decode cX10_trailerWhy 10 = .ok (.if_icmp .lt 5, 3) := by decide +kernel
theorem dX10_trailerWhy_13 : decode cX10_trailerWhy 13 = .ok (.iconst 1, 1) := by decide +kernel
theorem dX10_trailerWhy_14 : decode cX10_trailerWhy 14 = .ok (.ireturn, 1) := by decide +kernel
theorem dX10_trailerWhy_15 : decode cX10_trailerWhy 15 = .ok (.aload_n 0, 1) := by decide +kernel
theorem dX10_trailerWhy_16 : decode cX10_trailerWhy 16 = .ok (.iconst 1, 1) := by decide +kernel
theorem dX10_trailerWhy_17 : decode cX10_trailerWhy 17 = .ok (.invokevirtual 262, 3) := by decide +kernel
theorem dX10_trailerWhy_20 : decode cX10_trailerWhy 20 = .ok (.ifCond .eq 5, 3) := by decide +kernel
theorem dX10_trailerWhy_23 : decode cX10_trailerWhy 23 = .ok (.iconst 2, 1) := by decide +kernel
theorem dX10_trailerWhy_24 : decode cX10_trailerWhy 24 = .ok (.ireturn, 1) := by decide +kernel
theorem dX10_trailerWhy_25 : decode cX10_trailerWhy 25 = .ok (.aload_n 0, 1) := by decide +kernel
theorem dX10_trailerWhy_26 : decode cX10_trailerWhy 26 = .ok (.invokevirtual 265, 3) := by decide +kernel
theorem dX10_trailerWhy_29 : decode cX10_trailerWhy 29 = .ok (.iconst 1, 1) := by decide +kernel
theorem dX10_trailerWhy_30 : decode cX10_trailerWhy 30 = .ok (.if_icmp .lt 23, 3) := by decide +kernel
theorem dX10_trailerWhy_33 : decode cX10_trailerWhy 33 = .ok (.aload_n 0, 1) := by decide +kernel
theorem dX10_trailerWhy_34 : decode cX10_trailerWhy 34 = .ok (.invokevirtual 265, 3) := by decide +kernel
theorem dX10_trailerWhy_37 : decode cX10_trailerWhy 37 = .ok (.aload_n 0, 1) := by decide +kernel
theorem dX10_trailerWhy_38 : decode cX10_trailerWhy 38 = .ok (.getfield 13, 3) := by decide +kernel
theorem dX10_trailerWhy_41 : decode cX10_trailerWhy 41 = .ok (.iconst 1, 1) := by decide +kernel
theorem dX10_trailerWhy_42 : decode cX10_trailerWhy 42 = .ok (.iaload, 1) := by decide +kernel
theorem dX10_trailerWhy_43 : decode cX10_trailerWhy 43 = .ok (.if_icmp .ge 12, 3) := by decide +kernel
theorem dX10_trailerWhy_46 : decode cX10_trailerWhy 46 = .ok (.aload_n 0, 1) := by decide +kernel
theorem dX10_trailerWhy_47 : decode cX10_trailerWhy 47 = .ok (.invokevirtual 271, 3) := by decide +kernel
theorem dX10_trailerWhy_50 : decode cX10_trailerWhy 50 = .ok (.ifCond .ne 5, 3) := by decide +kernel
theorem dX10_trailerWhy_53 : decode cX10_trailerWhy 53 = .ok (.iconst 3, 1) := by decide +kernel
theorem dX10_trailerWhy_54 : decode cX10_trailerWhy 54 = .ok (.ireturn, 1) := by decide +kernel
theorem dX10_trailerWhy_55 : decode cX10_trailerWhy 55 = .ok (.aload_n 0, 1) := by decide +kernel
theorem dX10_trailerWhy_56 : decode cX10_trailerWhy 56 = .ok (.iconst 1, 1) := by decide +kernel
theorem dX10_trailerWhy_57 : decode cX10_trailerWhy 57 = .ok (.invokevirtual 268, 3) := by decide +kernel
theorem dX10_trailerWhy_60 : decode cX10_trailerWhy 60 = .ok (.ifCond .eq 7, 3) := by decide +kernel
theorem dX10_trailerWhy_63 : decode cX10_trailerWhy 63 = .ok (.iconst 4, 1) := by decide +kernel
theorem dX10_trailerWhy_64 : decode cX10_trailerWhy 64 = .ok (.goto 4, 3) := by decide +kernel
theorem dX10_trailerWhy_67 : decode cX10_trailerWhy 67 = .ok (.iconst 0, 1) := by decide +kernel
theorem dX10_trailerWhy_68 : decode cX10_trailerWhy 68 = .ok (.ireturn, 1) := by decide +kernel
theorem dX10_why_0 : decode cX10_why 0 = .ok (.iload_n 1, 1) := by decide +kernel
theorem dX10_why_1 : decode cX10_why 1 = .ok (.ifCond .ne 10, 3) := by decide +kernel
theorem dX10_why_4 : decode cX10_why 4 = .ok (.aload_n 0, 1) := by decide +kernel
theorem dX10_why_5 : decode cX10_why 5 = .ok (.invokevirtual 271, 3) := by decide +kernel
theorem dX10_why_8 : decode cX10_why 8 = .ok (.goto 7, 3) := by decide +kernel
theorem dX10_why_11 : decode cX10_why 11 = .ok (.aload_n 0, 1) := by decide +kernel
theorem dX10_why_12 : decode cX10_why 12 = .ok (.invokevirtual 274, 3) := by decide +kernel
theorem dX10_why_15 : decode cX10_why 15 = .ok (.ireturn, 1) := by decide +kernel
theorem dX10_sticks_0 : decode cX10_sticks 0 = .ok (.iconst 0, 1) := by decide +kernel
theorem dX10_sticks_1 : decode cX10_sticks 1 = .ok (.istore_n 1, 1) := by decide +kernel
theorem dX10_sticks_2 : decode cX10_sticks 2 = .ok (.iload_n 1, 1) := by decide +kernel
theorem dX10_sticks_3 : decode cX10_sticks 3 = .ok (.bipush 16, 2) := by decide +kernel
theorem dX10_sticks_5 : decode cX10_sticks 5 = .ok (.if_icmp .ge 57, 3) := by decide +kernel
theorem dX10_sticks_8 : decode cX10_sticks 8 = .ok (.aload_n 0, 1) := by decide +kernel
theorem dX10_sticks_9 : decode cX10_sticks 9 = .ok (.getfield 57, 3) := by decide +kernel
theorem dX10_sticks_12 : decode cX10_sticks 12 = .ok (.iconst 4, 1) := by decide +kernel
theorem dX10_sticks_13 : decode cX10_sticks 13 = .ok (.iload_n 1, 1) := by decide +kernel
theorem dX10_sticks_14 : decode cX10_sticks 14 = .ok (.iadd, 1) := by decide +kernel
theorem dX10_sticks_15 : decode cX10_sticks 15 = .ok (.aload_n 0, 1) := by decide +kernel
theorem dX10_sticks_16 : decode cX10_sticks 16 = .ok (.getfield 57, 3) := by decide +kernel
theorem dX10_sticks_19 : decode cX10_sticks 19 = .ok (.iconst 4, 1) := by decide +kernel
theorem dX10_sticks_20 : decode cX10_sticks 20 = .ok (.iload_n 1, 1) := by decide +kernel
theorem dX10_sticks_21 : decode cX10_sticks 21 = .ok (.iadd, 1) := by decide +kernel
theorem dX10_sticks_22 : decode cX10_sticks 22 = .ok (.iaload, 1) := by decide +kernel
theorem dX10_sticks_23 : decode cX10_sticks 23 = .ok (.aload_n 0, 1) := by decide +kernel
theorem dX10_sticks_24 : decode cX10_sticks 24 = .ok (.getfield 57, 3) := by decide +kernel
theorem dX10_sticks_27 : decode cX10_sticks 27 = .ok (.bipush 54, 2) := by decide +kernel
theorem dX10_sticks_29 : decode cX10_sticks 29 = .ok (.iload_n 1, 1) := by decide +kernel
theorem dX10_sticks_30 : decode cX10_sticks 30 = .ok (.iadd, 1) := by decide +kernel
theorem dX10_sticks_31 : decode cX10_sticks 31 = .ok (.iaload, 1) := by decide +kernel
theorem dX10_sticks_32 : decode cX10_sticks 32 = .ok (.iconst (-1), 1) := by decide +kernel
theorem dX10_sticks_33 : decode cX10_sticks 33 = .ok (.ixor, 1) := by decide +kernel
theorem dX10_sticks_34 : decode cX10_sticks 34 = .ok (.iand, 1) := by decide +kernel
theorem dX10_sticks_35 : decode cX10_sticks 35 = .ok (.aload_n 0, 1) := by decide +kernel
theorem dX10_sticks_36 : decode cX10_sticks 36 = .ok (.getfield 57, 3) := by decide +kernel
theorem dX10_sticks_39 : decode cX10_sticks 39 = .ok (.bipush 70, 2) := by decide +kernel
theorem dX10_sticks_41 : decode cX10_sticks 41 = .ok (.iload_n 1, 1) := by decide +kernel
theorem dX10_sticks_42 : decode cX10_sticks 42 = .ok (.iadd, 1) := by decide +kernel
theorem dX10_sticks_43 : decode cX10_sticks 43 = .ok (.iaload, 1) := by decide +kernel
theorem dX10_sticks_44 : decode cX10_sticks 44 = .ok (.aload_n 0, 1) := by decide +kernel
theorem dX10_sticks_45 : decode cX10_sticks 45 = .ok (.getfield 57, 3) := by decide +kernel
theorem dX10_sticks_48 : decode cX10_sticks 48 = .ok (.bipush 54, 2) := by decide +kernel
theorem dX10_sticks_50 : decode cX10_sticks 50 = .ok (.iload_n 1, 1) := by decide +kernel
theorem dX10_sticks_51 : decode cX10_sticks 51 = .ok (.iadd, 1) := by decide +kernel
theorem dX10_sticks_52 : decode cX10_sticks 52 = .ok (.iaload, 1) := by decide +kernel
theorem dX10_sticks_53 : decode cX10_sticks 53 = .ok (.iand, 1) := by decide +kernel
theorem dX10_sticks_54 : decode cX10_sticks 54 = .ok (.ior, 1) := by decide +kernel
theorem dX10_sticks_55 : decode cX10_sticks 55 = .ok (.iastore, 1) := by decide +kernel
theorem dX10_sticks_56 : decode cX10_sticks 56 = .ok (.iinc 1 1, 3) := by decide +kernel
theorem dX10_sticks_59 : decode cX10_sticks 59 = .ok (.goto (-57), 3) := by decide +kernel
theorem dX10_sticks_62 : decode cX10_sticks 62 = .ok (.return_, 1) := by decide +kernel
theorem dX10_addressOf_0 : decode cX10_addressOf 0 = .ok (.aload_n 0, 1) := by decide +kernel
theorem dX10_addressOf_1 : decode cX10_addressOf 1 = .ok (.getfield 57, 3) := by decide +kernel
theorem dX10_addressOf_4 : decode cX10_addressOf 4 = .ok (.iconst 4, 1) := by decide +kernel
theorem dX10_addressOf_5 : decode cX10_addressOf 5 = .ok (.bipush 8, 2) := by decide +kernel
theorem dX10_addressOf_7 : decode cX10_addressOf 7 = .ok (.iload_n 1, 1) := by decide +kernel
theorem dX10_addressOf_8 : decode cX10_addressOf 8 = .ok (.imul, 1) := by decide +kernel
theorem dX10_addressOf_9 : decode cX10_addressOf 9 = .ok (.iadd, 1) := by decide +kernel
theorem dX10_addressOf_10 : decode cX10_addressOf 10 = .ok (.aload_n 0, 1) := by decide +kernel
theorem dX10_addressOf_11 : decode cX10_addressOf 11 = .ok (.getfield 26, 3) := by decide +kernel
theorem dX10_addressOf_14 : decode cX10_addressOf 14 = .ok (.iload_n 2, 1) := by decide +kernel
theorem dX10_addressOf_15 : decode cX10_addressOf 15 = .ok (.iaload, 1) := by decide +kernel
theorem dX10_addressOf_16 : decode cX10_addressOf 16 = .ok (.iadd, 1) := by decide +kernel
theorem dX10_addressOf_17 : decode cX10_addressOf 17 = .ok (.iaload, 1) := by decide +kernel
theorem dX10_addressOf_18 : decode cX10_addressOf 18 = .ok (.aload_n 0, 1) := by decide +kernel
theorem dX10_addressOf_19 : decode cX10_addressOf 19 = .ok (.getfield 29, 3) := by decide +kernel
theorem dX10_addressOf_22 : decode cX10_addressOf 22 = .ok (.iload_n 2, 1) := by decide +kernel
theorem dX10_addressOf_23 : decode cX10_addressOf 23 = .ok (.iaload, 1) := by decide +kernel
theorem dX10_addressOf_24 : decode cX10_addressOf 24 = .ok (.iadd, 1) := by decide +kernel
theorem dX10_addressOf_25 : decode cX10_addressOf 25 = .ok (.bipush 31, 2) := by decide +kernel
theorem dX10_addressOf_27 : decode cX10_addressOf 27 = .ok (.iand, 1) := by decide +kernel
theorem dX10_addressOf_28 : decode cX10_addressOf 28 = .ok (.ireturn, 1) := by decide +kernel
theorem dX10_stepped_0 : decode cX10_stepped 0 = .ok (.aload_n 0, 1) := by decide +kernel
theorem dX10_stepped_1 : decode cX10_stepped 1 = .ok (.getfield 57, 3) := by decide +kernel
theorem dX10_stepped_4 : decode cX10_stepped 4 = .ok (.iconst 0, 1) := by decide +kernel
theorem dX10_stepped_5 : decode cX10_stepped 5 = .ok (.iload_n 1, 1) := by decide +kernel
theorem dX10_stepped_6 : decode cX10_stepped 6 = .ok (.iadd, 1) := by decide +kernel
theorem dX10_stepped_7 : decode cX10_stepped 7 = .ok (.iaload, 1) := by decide +kernel
theorem dX10_stepped_8 : decode cX10_stepped 8 = .ok (.istore_n 2, 1) := by decide +kernel
theorem dX10_stepped_9 : decode cX10_stepped 9 = .ok (.aload_n 0, 1) := by decide +kernel
theorem dX10_stepped_10 : decode cX10_stepped 10 = .ok (.getfield 20, 3) := by decide +kernel
theorem dX10_stepped_13 : decode cX10_stepped 13 = .ok (.iload_n 2, 1) := by decide +kernel
theorem dX10_stepped_14 : decode cX10_stepped 14 = .ok (.iaload, 1) := by decide +kernel
theorem dX10_stepped_15 : decode cX10_stepped 15 = .ok (.istore_n 3, 1) := by decide +kernel
theorem dX10_stepped_16 : decode cX10_stepped 16 = .ok (.iconst 4, 1) := by decide +kernel
theorem dX10_stepped_17 : decode cX10_stepped 17 = .ok (.bipush 8, 2) := by decide +kernel
theorem dX10_stepped_19 : decode cX10_stepped 19 = .ok (.iload_n 1, 1) := by decide +kernel
theorem dX10_stepped_20 : decode cX10_stepped 20 = .ok (.imul, 1) := by decide +kernel
theorem dX10_stepped_21 : decode cX10_stepped 21 = .ok (.iadd, 1) := by decide +kernel
theorem dX10_stepped_22 : decode cX10_stepped 22 = .ok (.istore 4, 2) := by decide +kernel
theorem dX10_stepped_24 : decode cX10_stepped 24 = .ok (.bipush 20, 2) := by decide +kernel
theorem dX10_stepped_26 : decode cX10_stepped 26 = .ok (.iconst 4, 1) := by decide +kernel
theorem dX10_stepped_27 : decode cX10_stepped 27 = .ok (.iload_n 1, 1) := by decide +kernel
theorem dX10_stepped_28 : decode cX10_stepped 28 = .ok (.imul, 1) := by decide +kernel
theorem dX10_stepped_29 : decode cX10_stepped 29 = .ok (.iadd, 1) := by decide +kernel
theorem dX10_stepped_30 : decode cX10_stepped 30 = .ok (.istore 5, 2) := by decide +kernel
theorem dX10_stepped_32 : decode cX10_stepped 32 = .ok (.aload_n 0, 1) := by decide +kernel
theorem dX10_stepped_33 : decode cX10_stepped 33 = .ok (.getfield 57, 3) := by decide +kernel
theorem dX10_stepped_36 : decode cX10_stepped 36 = .ok (.iload 4, 2) := by decide +kernel
theorem dX10_stepped_38 : decode cX10_stepped 38 = .ok (.aload_n 0, 1) := by decide +kernel
theorem dX10_stepped_39 : decode cX10_stepped 39 = .ok (.getfield 26, 3) := by decide +kernel
theorem dX10_stepped_42 : decode cX10_stepped 42 = .ok (.iload_n 2, 1) := by decide +kernel
theorem dX10_stepped_43 : decode cX10_stepped 43 = .ok (.iaload, 1) := by decide +kernel
theorem dX10_stepped_44 : decode cX10_stepped 44 = .ok (.bipush 8, 2) := by decide +kernel
theorem dX10_stepped_46 : decode cX10_stepped 46 = .ok (.irem, 1) := by decide +kernel
theorem dX10_stepped_47 : decode cX10_stepped 47 = .ok (.iadd, 1) := by decide +kernel
theorem dX10_stepped_48 : decode cX10_stepped 48 = .ok (.iaload, 1) := by decide +kernel
theorem dX10_stepped_49 : decode cX10_stepped 49 = .ok (.istore 6, 2) := by decide +kernel
theorem dX10_stepped_51 : decode cX10_stepped 51 = .ok (.aload_n 0, 1) := by decide +kernel
theorem dX10_stepped_52 : decode cX10_stepped 52 = .ok (.iload_n 2, 1) := by decide +kernel
theorem dX10_stepped_53 : decode cX10_stepped 53 = .ok (.iconst 1, 1) := by decide +kernel
theorem dX10_stepped_54 : decode cX10_stepped 54 = .ok (.iadd, 1) := by decide +kernel
theorem dX10_stepped_55 : decode cX10_stepped 55 = .ok (.bipush 64, 2) := by decide +kernel
theorem dX10_stepped_57 : decode cX10_stepped 57 = .ok (.irem, 1) := by decide +kernel
theorem dX10_stepped_58 : decode cX10_stepped 58 = .ok (.putfield 277, 3) := by decide +kernel
theorem dX10_stepped_61 : decode cX10_stepped 61 = .ok (.iconst 0, 1) := by decide +kernel
theorem dX10_stepped_62 : decode cX10_stepped 62 = .ok (.istore 7, 2) := by decide +kernel
theorem dX10_stepped_64 : decode cX10_stepped 64 = .ok (.iload_n 3, 1) := by decide +kernel
theorem dX10_stepped_65 : decode cX10_stepped 65 = .ok (.tableswitch 561 7 20 #[71, 94, 128, 162, 196, 230, 252, 312, 364, 387, 421, 452, 500, 548], 71) := by decide +kernel
theorem dX10_stepped_136 : decode cX10_stepped 136 = .ok (.aload_n 0, 1) := by decide +kernel
theorem dX10_stepped_137 : decode cX10_stepped 137 = .ok (.getfield 57, 3) := by decide +kernel
theorem dX10_stepped_140 : decode cX10_stepped 140 = .ok (.iload 4, 2) := by decide +kernel
theorem dX10_stepped_142 : decode cX10_stepped 142 = .ok (.aload_n 0, 1) := by decide +kernel
theorem dX10_stepped_143 : decode cX10_stepped 143 = .ok (.getfield 23, 3) := by decide +kernel
theorem dX10_stepped_146 : decode cX10_stepped 146 = .ok (.iload_n 2, 1) := by decide +kernel
theorem dX10_stepped_147 : decode cX10_stepped 147 = .ok (.iaload, 1) := by decide +kernel
theorem dX10_stepped_148 : decode cX10_stepped 148 = .ok (.iadd, 1) := by decide +kernel
theorem dX10_stepped_149 : decode cX10_stepped 149 = .ok (.aload_n 0, 1) := by decide +kernel
theorem dX10_stepped_150 : decode cX10_stepped 150 = .ok (.getfield 26, 3) := by decide +kernel
theorem dX10_stepped_153 : decode cX10_stepped 153 = .ok (.iload_n 2, 1) := by decide +kernel
theorem dX10_stepped_154 : decode cX10_stepped 154 = .ok (.iaload, 1) := by decide +kernel
theorem dX10_stepped_155 : decode cX10_stepped 155 = .ok (.iastore, 1) := by decide +kernel
theorem dX10_stepped_156 : decode cX10_stepped 156 = .ok (.goto 530, 3) := by decide +kernel
theorem dX10_stepped_159 : decode cX10_stepped 159 = .ok (.aload_n 0, 1) := by decide +kernel
theorem dX10_stepped_160 : decode cX10_stepped 160 = .ok (.getfield 57, 3) := by decide +kernel
theorem dX10_stepped_163 : decode cX10_stepped 163 = .ok (.iload 4, 2) := by decide +kernel
theorem dX10_stepped_165 : decode cX10_stepped 165 = .ok (.aload_n 0, 1) := by decide +kernel
theorem dX10_stepped_166 : decode cX10_stepped 166 = .ok (.getfield 23, 3) := by decide +kernel
theorem dX10_stepped_169 : decode cX10_stepped 169 = .ok (.iload_n 2, 1) := by decide +kernel
theorem dX10_stepped_170 : decode cX10_stepped 170 = .ok (.iaload, 1) := by decide +kernel
theorem dX10_stepped_171 : decode cX10_stepped 171 = .ok (.iadd, 1) := by decide +kernel
theorem dX10_stepped_172 : decode cX10_stepped 172 = .ok (.iload 6, 2) := by decide +kernel
theorem dX10_stepped_174 : decode cX10_stepped 174 = .ok (.aload_n 0, 1) := by decide +kernel
theorem dX10_stepped_175 : decode cX10_stepped 175 = .ok (.getfield 57, 3) := by decide +kernel
theorem dX10_stepped_178 : decode cX10_stepped 178 = .ok (.iload 4, 2) := by decide +kernel
theorem dX10_stepped_180 : decode cX10_stepped 180 = .ok (.aload_n 0, 1) := by decide +kernel
theorem dX10_stepped_181 : decode cX10_stepped 181 = .ok (.getfield 29, 3) := by decide +kernel
theorem dX10_stepped_184 : decode cX10_stepped 184 = .ok (.iload_n 2, 1) := by decide +kernel
theorem dX10_stepped_185 : decode cX10_stepped 185 = .ok (.iaload, 1) := by decide +kernel
theorem dX10_stepped_186 : decode cX10_stepped 186 = .ok (.iadd, 1) := by decide +kernel
theorem dX10_stepped_187 : decode cX10_stepped 187 = .ok (.iaload, 1) := by decide +kernel
theorem dX10_stepped_188 : decode cX10_stepped 188 = .ok (.iadd, 1) := by decide +kernel
theorem dX10_stepped_189 : decode cX10_stepped 189 = .ok (.iastore, 1) := by decide +kernel
theorem dX10_stepped_190 : decode cX10_stepped 190 = .ok (.goto 496, 3) := by decide +kernel
theorem dX10_stepped_193 : decode cX10_stepped 193 = .ok (.aload_n 0, 1) := by decide +kernel
theorem dX10_stepped_194 : decode cX10_stepped 194 = .ok (.getfield 57, 3) := by decide +kernel
theorem dX10_stepped_197 : decode cX10_stepped 197 = .ok (.iload 4, 2) := by decide +kernel
theorem dX10_stepped_199 : decode cX10_stepped 199 = .ok (.aload_n 0, 1) := by decide +kernel
theorem dX10_stepped_200 : decode cX10_stepped 200 = .ok (.getfield 23, 3) := by decide +kernel
theorem dX10_stepped_203 : decode cX10_stepped 203 = .ok (.iload_n 2, 1) := by decide +kernel
theorem dX10_stepped_204 : decode cX10_stepped 204 = .ok (.iaload, 1) := by decide +kernel
theorem dX10_stepped_205 : decode cX10_stepped 205 = .ok (.iadd, 1) := by decide +kernel
theorem dX10_stepped_206 : decode cX10_stepped 206 = .ok (.iload 6, 2) := by decide +kernel
theorem dX10_stepped_208 : decode cX10_stepped 208 = .ok (.aload_n 0, 1) := by decide +kernel
theorem dX10_stepped_209 : decode cX10_stepped 209 = .ok (.getfield 57, 3) := by decide +kernel
theorem dX10_stepped_212 : decode cX10_stepped 212 = .ok (.iload 4, 2) := by decide +kernel
theorem dX10_stepped_214 : decode cX10_stepped 214 = .ok (.aload_n 0, 1) := by decide +kernel
theorem dX10_stepped_215 : decode cX10_stepped 215 = .ok (.getfield 29, 3) := by decide +kernel
theorem dX10_stepped_218 : decode cX10_stepped 218 = .ok (.iload_n 2, 1) := by decide +kernel
theorem dX10_stepped_219 : decode cX10_stepped 219 = .ok (.iaload, 1) := by decide +kernel
theorem dX10_stepped_220 : decode cX10_stepped 220 = .ok (.iadd, 1) := by decide +kernel
theorem dX10_stepped_221 : decode cX10_stepped 221 = .ok (.iaload, 1) := by decide +kernel
theorem dX10_stepped_222 : decode cX10_stepped 222 = .ok (.isub, 1) := by decide +kernel
theorem dX10_stepped_223 : decode cX10_stepped 223 = .ok (.iastore, 1) := by decide +kernel
theorem dX10_stepped_224 : decode cX10_stepped 224 = .ok (.goto 462, 3) := by decide +kernel
theorem dX10_stepped_227 : decode cX10_stepped 227 = .ok (.aload_n 0, 1) := by decide +kernel
theorem dX10_stepped_228 : decode cX10_stepped 228 = .ok (.getfield 57, 3) := by decide +kernel
theorem dX10_stepped_231 : decode cX10_stepped 231 = .ok (.iload 4, 2) := by decide +kernel
theorem dX10_stepped_233 : decode cX10_stepped 233 = .ok (.aload_n 0, 1) := by decide +kernel
theorem dX10_stepped_234 : decode cX10_stepped 234 = .ok (.getfield 23, 3) := by decide +kernel
theorem dX10_stepped_237 : decode cX10_stepped 237 = .ok (.iload_n 2, 1) := by decide +kernel
theorem dX10_stepped_238 : decode cX10_stepped 238 = .ok (.iaload, 1) := by decide +kernel
theorem dX10_stepped_239 : decode cX10_stepped 239 = .ok (.iadd, 1) := by decide +kernel
theorem dX10_stepped_240 : decode cX10_stepped 240 = .ok (.iload 6, 2) := by decide +kernel
theorem dX10_stepped_242 : decode cX10_stepped 242 = .ok (.aload_n 0, 1) := by decide +kernel
theorem dX10_stepped_243 : decode cX10_stepped 243 = .ok (.getfield 57, 3) := by decide +kernel
theorem dX10_stepped_246 : decode cX10_stepped 246 = .ok (.iload 4, 2) := by decide +kernel
theorem dX10_stepped_248 : decode cX10_stepped 248 = .ok (.aload_n 0, 1) := by decide +kernel
theorem dX10_stepped_249 : decode cX10_stepped 249 = .ok (.getfield 29, 3) := by decide +kernel
theorem dX10_stepped_252 : decode cX10_stepped 252 = .ok (.iload_n 2, 1) := by decide +kernel
theorem dX10_stepped_253 : decode cX10_stepped 253 = .ok (.iaload, 1) := by decide +kernel
theorem dX10_stepped_254 : decode cX10_stepped 254 = .ok (.iadd, 1) := by decide +kernel
theorem dX10_stepped_255 : decode cX10_stepped 255 = .ok (.iaload, 1) := by decide +kernel
theorem dX10_stepped_256 : decode cX10_stepped 256 = .ok (.imul, 1) := by decide +kernel
theorem dX10_stepped_257 : decode cX10_stepped 257 = .ok (.iastore, 1) := by decide +kernel
theorem dX10_stepped_258 : decode cX10_stepped 258 = .ok (.goto 428, 3) := by decide +kernel
theorem dX10_stepped_261 : decode cX10_stepped 261 = .ok (.aload_n 0, 1) := by decide +kernel
theorem dX10_stepped_262 : decode cX10_stepped 262 = .ok (.getfield 57, 3) := by decide +kernel
theorem dX10_stepped_265 : decode cX10_stepped 265 = .ok (.iload 4, 2) := by decide +kernel
theorem dX10_stepped_267 : decode cX10_stepped 267 = .ok (.aload_n 0, 1) := by decide +kernel
theorem dX10_stepped_268 : decode cX10_stepped 268 = .ok (.getfield 23, 3) := by decide +kernel
theorem dX10_stepped_271 : decode cX10_stepped 271 = .ok (.iload_n 2, 1) := by decide +kernel
theorem dX10_stepped_272 : decode cX10_stepped 272 = .ok (.iaload, 1) := by decide +kernel
theorem dX10_stepped_273 : decode cX10_stepped 273 = .ok (.iadd, 1) := by decide +kernel
theorem dX10_stepped_274 : decode cX10_stepped 274 = .ok (.iload 6, 2) := by decide +kernel
theorem dX10_stepped_276 : decode cX10_stepped 276 = .ok (.aload_n 0, 1) := by decide +kernel
theorem dX10_stepped_277 : decode cX10_stepped 277 = .ok (.getfield 57, 3) := by decide +kernel
theorem dX10_stepped_280 : decode cX10_stepped 280 = .ok (.iload 4, 2) := by decide +kernel
theorem dX10_stepped_282 : decode cX10_stepped 282 = .ok (.aload_n 0, 1) := by decide +kernel
theorem dX10_stepped_283 : decode cX10_stepped 283 = .ok (.getfield 29, 3) := by decide +kernel
theorem dX10_stepped_286 : decode cX10_stepped 286 = .ok (.iload_n 2, 1) := by decide +kernel
theorem dX10_stepped_287 : decode cX10_stepped 287 = .ok (.iaload, 1) := by decide +kernel
theorem dX10_stepped_288 : decode cX10_stepped 288 = .ok (.iadd, 1) := by decide +kernel
theorem dX10_stepped_289 : decode cX10_stepped 289 = .ok (.iaload, 1) := by decide +kernel
theorem dX10_stepped_290 : decode cX10_stepped 290 = .ok (.ixor, 1) := by decide +kernel
theorem dX10_stepped_291 : decode cX10_stepped 291 = .ok (.iastore, 1) := by decide +kernel
theorem dX10_stepped_292 : decode cX10_stepped 292 = .ok (.goto 394, 3) := by decide +kernel
theorem dX10_stepped_295 : decode cX10_stepped 295 = .ok (.iload_n 1, 1) := by decide +kernel
theorem dX10_stepped_296 : decode cX10_stepped 296 = .ok (.ifCond .ne 11, 3) := by decide +kernel
theorem dX10_stepped_299 : decode cX10_stepped 299 = .ok (.aload_n 0, 1) := by decide +kernel
theorem dX10_stepped_300 : decode cX10_stepped 300 = .ok (.iload_n 2, 1) := by decide +kernel
theorem dX10_stepped_301 : decode cX10_stepped 301 = .ok (.invokevirtual 280, 3) := by decide +kernel
theorem dX10_stepped_304 : decode cX10_stepped 304 = .ok (.goto 8, 3) := by decide +kernel
theorem dX10_stepped_307 : decode cX10_stepped 307 = .ok (.aload_n 0, 1) := by decide +kernel
theorem dX10_stepped_308 : decode cX10_stepped 308 = .ok (.iload_n 2, 1) := by decide +kernel
theorem dX10_stepped_309 : decode cX10_stepped 309 = .ok (.invokevirtual 283, 3) := by decide +kernel
theorem dX10_stepped_312 : decode cX10_stepped 312 = .ok (.istore 7, 2) := by decide +kernel
theorem dX10_stepped_314 : decode cX10_stepped 314 = .ok (.goto 372, 3) := by decide +kernel
theorem dX10_stepped_317 : decode cX10_stepped 317 = .ok (.iload_n 1, 1) := by decide +kernel
theorem dX10_stepped_318 : decode cX10_stepped 318 = .ok (.ifCond .ne 30, 3) := by decide +kernel
theorem dX10_stepped_321 : decode cX10_stepped 321 = .ok (.aload_n 0, 1) := by decide +kernel
theorem dX10_stepped_322 : decode cX10_stepped 322 = .ok (.aload_n 0, 1) := by decide +kernel
theorem dX10_stepped_323 : decode cX10_stepped 323 = .ok (.iconst 0, 1) := by decide +kernel
theorem dX10_stepped_324 : decode cX10_stepped 324 = .ok (.iload_n 2, 1) := by decide +kernel
theorem dX10_stepped_325 : decode cX10_stepped 325 = .ok (.invokevirtual 286, 3) := by decide +kernel
theorem dX10_stepped_328 : decode cX10_stepped 328 = .ok (.aload_n 0, 1) := by decide +kernel
theorem dX10_stepped_329 : decode cX10_stepped 329 = .ok (.getfield 57, 3) := by decide +kernel
theorem dX10_stepped_332 : decode cX10_stepped 332 = .ok (.iload 4, 2) := by decide +kernel
theorem dX10_stepped_334 : decode cX10_stepped 334 = .ok (.aload_n 0, 1) := by decide +kernel
theorem dX10_stepped_335 : decode cX10_stepped 335 = .ok (.getfield 23, 3) := by decide +kernel
theorem dX10_stepped_338 : decode cX10_stepped 338 = .ok (.iload_n 2, 1) := by decide +kernel
theorem dX10_stepped_339 : decode cX10_stepped 339 = .ok (.iaload, 1) := by decide +kernel
theorem dX10_stepped_340 : decode cX10_stepped 340 = .ok (.iadd, 1) := by decide +kernel
theorem dX10_stepped_341 : decode cX10_stepped 341 = .ok (.iaload, 1) := by decide +kernel
theorem dX10_stepped_342 : decode cX10_stepped 342 = .ok (.invokevirtual 289, 3) := by decide +kernel
theorem dX10_stepped_345 : decode cX10_stepped 345 = .ok (.goto 27, 3) := by decide +kernel
theorem dX10_stepped_348 : decode cX10_stepped 348 = .ok (.aload_n 0, 1) := by decide +kernel
theorem dX10_stepped_349 : decode cX10_stepped 349 = .ok (.aload_n 0, 1) := by decide +kernel
theorem dX10_stepped_350 : decode cX10_stepped 350 = .ok (.iconst 1, 1) := by decide +kernel
theorem dX10_stepped_351 : decode cX10_stepped 351 = .ok (.iload_n 2, 1) := by decide +kernel
theorem dX10_stepped_352 : decode cX10_stepped 352 = .ok (.invokevirtual 286, 3) := by decide +kernel
theorem dX10_stepped_355 : decode cX10_stepped 355 = .ok (.aload_n 0, 1) := by decide +kernel
theorem dX10_stepped_356 : decode cX10_stepped 356 = .ok (.getfield 57, 3) := by decide +kernel
theorem dX10_stepped_359 : decode cX10_stepped 359 = .ok (.iload 4, 2) := by decide +kernel
theorem dX10_stepped_361 : decode cX10_stepped 361 = .ok (.aload_n 0, 1) := by decide +kernel
theorem dX10_stepped_362 : decode cX10_stepped 362 = .ok (.getfield 23, 3) := by decide +kernel
theorem dX10_stepped_365 : decode cX10_stepped 365 = .ok (.iload_n 2, 1) := by decide +kernel
theorem dX10_stepped_366 : decode cX10_stepped 366 = .ok (.iaload, 1) := by decide +kernel
theorem dX10_stepped_367 : decode cX10_stepped 367 = .ok (.iadd, 1) := by decide +kernel
theorem dX10_stepped_368 : decode cX10_stepped 368 = .ok (.iaload, 1) := by decide +kernel
theorem dX10_stepped_369 : decode cX10_stepped 369 = .ok (.invokevirtual 292, 3) := by decide +kernel
theorem dX10_stepped_372 : decode cX10_stepped 372 = .ok (.istore 7, 2) := by decide +kernel
theorem dX10_stepped_374 : decode cX10_stepped 374 = .ok (.goto 312, 3) := by decide +kernel
theorem dX10_stepped_377 : decode cX10_stepped 377 = .ok (.iload_n 1, 1) := by decide +kernel
theorem dX10_stepped_378 : decode cX10_stepped 378 = .ok (.ifCond .ne 26, 3) := by decide +kernel
theorem dX10_stepped_381 : decode cX10_stepped 381 = .ok (.aload_n 0, 1) := by decide +kernel
theorem dX10_stepped_382 : decode cX10_stepped 382 = .ok (.bipush 32, 2) := by decide +kernel
theorem dX10_stepped_384 : decode cX10_stepped 384 = .ok (.aload_n 0, 1) := by decide +kernel
theorem dX10_stepped_385 : decode cX10_stepped 385 = .ok (.getfield 57, 3) := by decide +kernel
theorem dX10_stepped_388 : decode cX10_stepped 388 = .ok (.iload 4, 2) := by decide +kernel
theorem dX10_stepped_390 : decode cX10_stepped 390 = .ok (.aload_n 0, 1) := by decide +kernel
theorem dX10_stepped_391 : decode cX10_stepped 391 = .ok (.getfield 23, 3) := by decide +kernel
theorem dX10_stepped_394 : decode cX10_stepped 394 = .ok (.iload_n 2, 1) := by decide +kernel
theorem dX10_stepped_395 : decode cX10_stepped 395 = .ok (.iaload, 1) := by decide +kernel
theorem dX10_stepped_396 : decode cX10_stepped 396 = .ok (.iadd, 1) := by decide +kernel
theorem dX10_stepped_397 : decode cX10_stepped 397 = .ok (.iaload, 1) := by decide +kernel
theorem dX10_stepped_398 : decode cX10_stepped 398 = .ok (.invokevirtual 289, 3) := by decide +kernel
theorem dX10_stepped_401 : decode cX10_stepped 401 = .ok (.goto 23, 3) := by decide +kernel
theorem dX10_stepped_404 : decode cX10_stepped 404 = .ok (.aload_n 0, 1) := by decide +kernel
theorem dX10_stepped_405 : decode cX10_stepped 405 = .ok (.bipush 32, 2) := by decide +kernel
theorem dX10_stepped_407 : decode cX10_stepped 407 = .ok (.aload_n 0, 1) := by decide +kernel
theorem dX10_stepped_408 : decode cX10_stepped 408 = .ok (.getfield 57, 3) := by decide +kernel
theorem dX10_stepped_411 : decode cX10_stepped 411 = .ok (.iload 4, 2) := by decide +kernel
theorem dX10_stepped_413 : decode cX10_stepped 413 = .ok (.aload_n 0, 1) := by decide +kernel
theorem dX10_stepped_414 : decode cX10_stepped 414 = .ok (.getfield 23, 3) := by decide +kernel
theorem dX10_stepped_417 : decode cX10_stepped 417 = .ok (.iload_n 2, 1) := by decide +kernel
theorem dX10_stepped_418 : decode cX10_stepped 418 = .ok (.iaload, 1) := by decide +kernel
theorem dX10_stepped_419 : decode cX10_stepped 419 = .ok (.iadd, 1) := by decide +kernel
theorem dX10_stepped_420 : decode cX10_stepped 420 = .ok (.iaload, 1) := by decide +kernel
theorem dX10_stepped_421 : decode cX10_stepped 421 = .ok (.invokevirtual 292, 3) := by decide +kernel
theorem dX10_stepped_424 : decode cX10_stepped 424 = .ok (.istore 7, 2) := by decide +kernel
theorem dX10_stepped_426 : decode cX10_stepped 426 = .ok (.goto 260, 3) := by decide +kernel
theorem dX10_stepped_429 : decode cX10_stepped 429 = .ok (.aload_n 0, 1) := by decide +kernel
theorem dX10_stepped_430 : decode cX10_stepped 430 = .ok (.getfield 57, 3) := by decide +kernel
theorem dX10_stepped_433 : decode cX10_stepped 433 = .ok (.iload 5, 2) := by decide +kernel
theorem dX10_stepped_435 : decode cX10_stepped 435 = .ok (.aload_n 0, 1) := by decide +kernel
theorem dX10_stepped_436 : decode cX10_stepped 436 = .ok (.getfield 23, 3) := by decide +kernel
theorem dX10_stepped_439 : decode cX10_stepped 439 = .ok (.iload_n 2, 1) := by decide +kernel
theorem dX10_stepped_440 : decode cX10_stepped 440 = .ok (.iaload, 1) := by decide +kernel
theorem dX10_stepped_441 : decode cX10_stepped 441 = .ok (.iadd, 1) := by decide +kernel
theorem dX10_stepped_442 : decode cX10_stepped 442 = .ok (.iload 6, 2) := by decide +kernel
theorem dX10_stepped_444 : decode cX10_stepped 444 = .ok (.i2d, 1) := by decide +kernel
theorem dX10_stepped_445 : decode cX10_stepped 445 = .ok (.invokestatic 246, 3) := by decide +kernel
theorem dX10_stepped_448 : decode cX10_stepped 448 = .ok (.iastore, 1) := by decide +kernel
theorem dX10_stepped_449 : decode cX10_stepped 449 = .ok (.goto 237, 3) := by decide +kernel
theorem dX10_stepped_452 : decode cX10_stepped 452 = .ok (.aload_n 0, 1) := by decide +kernel
theorem dX10_stepped_453 : decode cX10_stepped 453 = .ok (.getfield 57, 3) := by decide +kernel
theorem dX10_stepped_456 : decode cX10_stepped 456 = .ok (.iload 4, 2) := by decide +kernel
theorem dX10_stepped_458 : decode cX10_stepped 458 = .ok (.aload_n 0, 1) := by decide +kernel
theorem dX10_stepped_459 : decode cX10_stepped 459 = .ok (.getfield 23, 3) := by decide +kernel
theorem dX10_stepped_462 : decode cX10_stepped 462 = .ok (.iload_n 2, 1) := by decide +kernel
theorem dX10_stepped_463 : decode cX10_stepped 463 = .ok (.iaload, 1) := by decide +kernel
theorem dX10_stepped_464 : decode cX10_stepped 464 = .ok (.iadd, 1) := by decide +kernel
theorem dX10_stepped_465 : decode cX10_stepped 465 = .ok (.aload_n 0, 1) := by decide +kernel
theorem dX10_stepped_466 : decode cX10_stepped 466 = .ok (.getfield 57, 3) := by decide +kernel
theorem dX10_stepped_469 : decode cX10_stepped 469 = .ok (.iload 5, 2) := by decide +kernel
theorem dX10_stepped_471 : decode cX10_stepped 471 = .ok (.aload_n 0, 1) := by decide +kernel
theorem dX10_stepped_472 : decode cX10_stepped 472 = .ok (.getfield 26, 3) := by decide +kernel
theorem dX10_stepped_475 : decode cX10_stepped 475 = .ok (.iload_n 2, 1) := by decide +kernel
theorem dX10_stepped_476 : decode cX10_stepped 476 = .ok (.iaload, 1) := by decide +kernel
theorem dX10_stepped_477 : decode cX10_stepped 477 = .ok (.iadd, 1) := by decide +kernel
theorem dX10_stepped_478 : decode cX10_stepped 478 = .ok (.iaload, 1) := by decide +kernel
theorem dX10_stepped_479 : decode cX10_stepped 479 = .ok (.invokestatic 295, 3) := by decide +kernel
theorem dX10_stepped_482 : decode cX10_stepped 482 = .ok (.iastore, 1) := by decide +kernel
theorem dX10_stepped_483 : decode cX10_stepped 483 = .ok (.goto 203, 3) := by decide +kernel
theorem dX10_stepped_486 : decode cX10_stepped 486 = .ok (.aload_n 0, 1) := by decide +kernel
theorem dX10_stepped_487 : decode cX10_stepped 487 = .ok (.getfield 57, 3) := by decide +kernel
theorem dX10_stepped_490 : decode cX10_stepped 490 = .ok (.iload 4, 2) := by decide +kernel
theorem dX10_stepped_492 : decode cX10_stepped 492 = .ok (.aload_n 0, 1) := by decide +kernel
theorem dX10_stepped_493 : decode cX10_stepped 493 = .ok (.getfield 23, 3) := by decide +kernel
theorem dX10_stepped_496 : decode cX10_stepped 496 = .ok (.iload_n 2, 1) := by decide +kernel
theorem dX10_stepped_497 : decode cX10_stepped 497 = .ok (.iaload, 1) := by decide +kernel
theorem dX10_stepped_498 : decode cX10_stepped 498 = .ok (.iadd, 1) := by decide +kernel
theorem dX10_stepped_499 : decode cX10_stepped 499 = .ok (.aload_n 0, 1) := by decide +kernel
theorem dX10_stepped_500 : decode cX10_stepped 500 = .ok (.getfield 57, 3) := by decide +kernel
theorem dX10_stepped_503 : decode cX10_stepped 503 = .ok (.iload 5, 2) := by decide +kernel
theorem dX10_stepped_505 : decode cX10_stepped 505 = .ok (.aload_n 0, 1) := by decide +kernel
theorem dX10_stepped_506 : decode cX10_stepped 506 = .ok (.getfield 26, 3) := by decide +kernel
theorem dX10_stepped_509 : decode cX10_stepped 509 = .ok (.iload_n 2, 1) := by decide +kernel
theorem dX10_stepped_510 : decode cX10_stepped 510 = .ok (.iaload, 1) := by decide +kernel
theorem dX10_stepped_511 : decode cX10_stepped 511 = .ok (.iadd, 1) := by decide +kernel
theorem dX10_stepped_512 : decode cX10_stepped 512 = .ok (.iaload, 1) := by decide +kernel
theorem dX10_stepped_513 : decode cX10_stepped 513 = .ok (.iastore, 1) := by decide +kernel
theorem dX10_stepped_514 : decode cX10_stepped 514 = .ok (.goto 172, 3) := by decide +kernel
theorem dX10_stepped_517 : decode cX10_stepped 517 = .ok (.aload_n 0, 1) := by decide +kernel
theorem dX10_stepped_518 : decode cX10_stepped 518 = .ok (.getfield 57, 3) := by decide +kernel
theorem dX10_stepped_521 : decode cX10_stepped 521 = .ok (.iload 5, 2) := by decide +kernel
theorem dX10_stepped_523 : decode cX10_stepped 523 = .ok (.aload_n 0, 1) := by decide +kernel
theorem dX10_stepped_524 : decode cX10_stepped 524 = .ok (.getfield 23, 3) := by decide +kernel
theorem dX10_stepped_527 : decode cX10_stepped 527 = .ok (.iload_n 2, 1) := by decide +kernel
theorem dX10_stepped_528 : decode cX10_stepped 528 = .ok (.iaload, 1) := by decide +kernel
theorem dX10_stepped_529 : decode cX10_stepped 529 = .ok (.iadd, 1) := by decide +kernel
theorem dX10_stepped_530 : decode cX10_stepped 530 = .ok (.aload_n 0, 1) := by decide +kernel
theorem dX10_stepped_531 : decode cX10_stepped 531 = .ok (.getfield 57, 3) := by decide +kernel
theorem dX10_stepped_534 : decode cX10_stepped 534 = .ok (.iload 5, 2) := by decide +kernel
theorem dX10_stepped_536 : decode cX10_stepped 536 = .ok (.aload_n 0, 1) := by decide +kernel
theorem dX10_stepped_537 : decode cX10_stepped 537 = .ok (.getfield 26, 3) := by decide +kernel
theorem dX10_stepped_540 : decode cX10_stepped 540 = .ok (.iload_n 2, 1) := by decide +kernel
theorem dX10_stepped_541 : decode cX10_stepped 541 = .ok (.iaload, 1) := by decide +kernel
theorem dX10_stepped_542 : decode cX10_stepped 542 = .ok (.iadd, 1) := by decide +kernel
theorem dX10_stepped_543 : decode cX10_stepped 543 = .ok (.iaload, 1) := by decide +kernel
theorem dX10_stepped_544 : decode cX10_stepped 544 = .ok (.aload_n 0, 1) := by decide +kernel
theorem dX10_stepped_545 : decode cX10_stepped 545 = .ok (.getfield 57, 3) := by decide +kernel
theorem dX10_stepped_548 : decode cX10_stepped 548 = .ok (.iload 5, 2) := by decide +kernel
theorem dX10_stepped_550 : decode cX10_stepped 550 = .ok (.aload_n 0, 1) := by decide +kernel
theorem dX10_stepped_551 : decode cX10_stepped 551 = .ok (.getfield 29, 3) := by decide +kernel
theorem dX10_stepped_554 : decode cX10_stepped 554 = .ok (.iload_n 2, 1) := by decide +kernel
theorem dX10_stepped_555 : decode cX10_stepped 555 = .ok (.iaload, 1) := by decide +kernel
theorem dX10_stepped_556 : decode cX10_stepped 556 = .ok (.iadd, 1) := by decide +kernel
theorem dX10_stepped_557 : decode cX10_stepped 557 = .ok (.iaload, 1) := by decide +kernel
theorem dX10_stepped_558 : decode cX10_stepped 558 = .ok (.invokestatic 298, 3) := by decide +kernel
theorem dX10_stepped_561 : decode cX10_stepped 561 = .ok (.iastore, 1) := by decide +kernel
theorem dX10_stepped_562 : decode cX10_stepped 562 = .ok (.goto 124, 3) := by decide +kernel
theorem dX10_stepped_565 : decode cX10_stepped 565 = .ok (.aload_n 0, 1) := by decide +kernel
theorem dX10_stepped_566 : decode cX10_stepped 566 = .ok (.getfield 57, 3) := by decide +kernel
theorem dX10_stepped_569 : decode cX10_stepped 569 = .ok (.iload 5, 2) := by decide +kernel
theorem dX10_stepped_571 : decode cX10_stepped 571 = .ok (.aload_n 0, 1) := by decide +kernel
theorem dX10_stepped_572 : decode cX10_stepped 572 = .ok (.getfield 23, 3) := by decide +kernel
theorem dX10_stepped_575 : decode cX10_stepped 575 = .ok (.iload_n 2, 1) := by decide +kernel
theorem dX10_stepped_576 : decode cX10_stepped 576 = .ok (.iaload, 1) := by decide +kernel
theorem dX10_stepped_577 : decode cX10_stepped 577 = .ok (.iadd, 1) := by decide +kernel
theorem dX10_stepped_578 : decode cX10_stepped 578 = .ok (.aload_n 0, 1) := by decide +kernel
theorem dX10_stepped_579 : decode cX10_stepped 579 = .ok (.getfield 57, 3) := by decide +kernel
theorem dX10_stepped_582 : decode cX10_stepped 582 = .ok (.iload 5, 2) := by decide +kernel
theorem dX10_stepped_584 : decode cX10_stepped 584 = .ok (.aload_n 0, 1) := by decide +kernel
theorem dX10_stepped_585 : decode cX10_stepped 585 = .ok (.getfield 26, 3) := by decide +kernel
theorem dX10_stepped_588 : decode cX10_stepped 588 = .ok (.iload_n 2, 1) := by decide +kernel
theorem dX10_stepped_589 : decode cX10_stepped 589 = .ok (.iaload, 1) := by decide +kernel
theorem dX10_stepped_590 : decode cX10_stepped 590 = .ok (.iadd, 1) := by decide +kernel
theorem dX10_stepped_591 : decode cX10_stepped 591 = .ok (.iaload, 1) := by decide +kernel
theorem dX10_stepped_592 : decode cX10_stepped 592 = .ok (.aload_n 0, 1) := by decide +kernel
theorem dX10_stepped_593 : decode cX10_stepped 593 = .ok (.getfield 57, 3) := by decide +kernel
theorem dX10_stepped_596 : decode cX10_stepped 596 = .ok (.iload 5, 2) := by decide +kernel
theorem dX10_stepped_598 : decode cX10_stepped 598 = .ok (.aload_n 0, 1) := by decide +kernel
theorem dX10_stepped_599 : decode cX10_stepped 599 = .ok (.getfield 29, 3) := by decide +kernel
theorem dX10_stepped_602 : decode cX10_stepped 602 = .ok (.iload_n 2, 1) := by decide +kernel
theorem dX10_stepped_603 : decode cX10_stepped 603 = .ok (.iaload, 1) := by decide +kernel
theorem dX10_stepped_604 : decode cX10_stepped 604 = .ok (.iadd, 1) := by decide +kernel
theorem dX10_stepped_605 : decode cX10_stepped 605 = .ok (.iaload, 1) := by decide +kernel
theorem dX10_stepped_606 : decode cX10_stepped 606 = .ok (.invokestatic 301, 3) := by decide +kernel
theorem dX10_stepped_609 : decode cX10_stepped 609 = .ok (.iastore, 1) := by decide +kernel
theorem dX10_stepped_610 : decode cX10_stepped 610 = .ok (.goto 76, 3) := by decide +kernel
theorem dX10_stepped_613 : decode cX10_stepped 613 = .ok (.aload_n 0, 1) := by decide +kernel
theorem dX10_stepped_614 : decode cX10_stepped 614 = .ok (.aload_n 0, 1) := by decide +kernel
theorem dX10_stepped_615 : decode cX10_stepped 615 = .ok (.getfield 38, 3) := by decide +kernel
theorem dX10_stepped_618 : decode cX10_stepped 618 = .ok (.iload_n 2, 1) := by decide +kernel
theorem dX10_stepped_619 : decode cX10_stepped 619 = .ok (.iaload, 1) := by decide +kernel
theorem dX10_stepped_620 : decode cX10_stepped 620 = .ok (.putfield 277, 3) := by decide +kernel
theorem dX10_stepped_623 : decode cX10_stepped 623 = .ok (.goto 63, 3) := by decide +kernel
theorem dX10_stepped_626 : decode cX10_stepped 626 = .ok (.aload_n 0, 1) := by decide +kernel
theorem dX10_stepped_627 : decode cX10_stepped 627 = .ok (.iload_n 1, 1) := by decide +kernel
theorem dX10_stepped_628 : decode cX10_stepped 628 = .ok (.iload_n 2, 1) := by decide +kernel
theorem dX10_stepped_629 : decode cX10_stepped 629 = .ok (.iload_n 3, 1) := by decide +kernel
theorem dX10_stepped_630 : decode cX10_stepped 630 = .ok (.aload_n 0, 1) := by decide +kernel
theorem dX10_stepped_631 : decode cX10_stepped 631 = .ok (.getfield 57, 3) := by decide +kernel
theorem dX10_stepped_634 : decode cX10_stepped 634 = .ok (.iload 4, 2) := by decide +kernel
theorem dX10_stepped_636 : decode cX10_stepped 636 = .ok (.aload_n 0, 1) := by decide +kernel
theorem dX10_stepped_637 : decode cX10_stepped 637 = .ok (.getfield 23, 3) := by decide +kernel
theorem dX10_stepped_640 : decode cX10_stepped 640 = .ok (.iload_n 2, 1) := by decide +kernel
theorem dX10_stepped_641 : decode cX10_stepped 641 = .ok (.iaload, 1) := by decide +kernel
theorem dX10_stepped_642 : decode cX10_stepped 642 = .ok (.iadd, 1) := by decide +kernel
theorem dX10_stepped_643 : decode cX10_stepped 643 = .ok (.iaload, 1) := by decide +kernel
theorem dX10_stepped_644 : decode cX10_stepped 644 = .ok (.iload 6, 2) := by decide +kernel
theorem dX10_stepped_646 : decode cX10_stepped 646 = .ok (.aload_n 0, 1) := by decide +kernel
theorem dX10_stepped_647 : decode cX10_stepped 647 = .ok (.getfield 57, 3) := by decide +kernel
theorem dX10_stepped_650 : decode cX10_stepped 650 = .ok (.iload 5, 2) := by decide +kernel
theorem dX10_stepped_652 : decode cX10_stepped 652 = .ok (.aload_n 0, 1) := by decide +kernel
theorem dX10_stepped_653 : decode cX10_stepped 653 = .ok (.getfield 23, 3) := by decide +kernel
theorem dX10_stepped_656 : decode cX10_stepped 656 = .ok (.iload_n 2, 1) := by decide +kernel
theorem dX10_stepped_657 : decode cX10_stepped 657 = .ok (.iaload, 1) := by decide +kernel
theorem dX10_stepped_658 : decode cX10_stepped 658 = .ok (.iconst 4, 1) := by decide +kernel
theorem dX10_stepped_659 : decode cX10_stepped 659 = .ok (.irem, 1) := by decide +kernel
theorem dX10_stepped_660 : decode cX10_stepped 660 = .ok (.iadd, 1) := by decide +kernel
theorem dX10_stepped_661 : decode cX10_stepped 661 = .ok (.iaload, 1) := by decide +kernel
theorem dX10_stepped_662 : decode cX10_stepped 662 = .ok (.aload_n 0, 1) := by decide +kernel
theorem dX10_stepped_663 : decode cX10_stepped 663 = .ok (.getfield 57, 3) := by decide +kernel
theorem dX10_stepped_666 : decode cX10_stepped 666 = .ok (.iload 5, 2) := by decide +kernel
theorem dX10_stepped_668 : decode cX10_stepped 668 = .ok (.aload_n 0, 1) := by decide +kernel
theorem dX10_stepped_669 : decode cX10_stepped 669 = .ok (.getfield 26, 3) := by decide +kernel
theorem dX10_stepped_672 : decode cX10_stepped 672 = .ok (.iload_n 2, 1) := by decide +kernel
theorem dX10_stepped_673 : decode cX10_stepped 673 = .ok (.iaload, 1) := by decide +kernel
theorem dX10_stepped_674 : decode cX10_stepped 674 = .ok (.iconst 4, 1) := by decide +kernel
theorem dX10_stepped_675 : decode cX10_stepped 675 = .ok (.irem, 1) := by decide +kernel
theorem dX10_stepped_676 : decode cX10_stepped 676 = .ok (.iadd, 1) := by decide +kernel
theorem dX10_stepped_677 : decode cX10_stepped 677 = .ok (.iaload, 1) := by decide +kernel
theorem dX10_stepped_678 : decode cX10_stepped 678 = .ok (.invokestatic 304, 3) := by decide +kernel
theorem dX10_stepped_681 : decode cX10_stepped 681 = .ok (.invokevirtual 308, 3) := by decide +kernel
theorem dX10_stepped_684 : decode cX10_stepped 684 = .ok (.istore 7, 2) := by decide +kernel
theorem dX10_stepped_686 : decode cX10_stepped 686 = .ok (.aload_n 0, 1) := by decide +kernel
theorem dX10_stepped_687 : decode cX10_stepped 687 = .ok (.getfield 57, 3) := by decide +kernel
theorem dX10_stepped_690 : decode cX10_stepped 690 = .ok (.iconst 0, 1) := by decide +kernel
theorem dX10_stepped_691 : decode cX10_stepped 691 = .ok (.iload_n 1, 1) := by decide +kernel
theorem dX10_stepped_692 : decode cX10_stepped 692 = .ok (.iadd, 1) := by decide +kernel
theorem dX10_stepped_693 : decode cX10_stepped 693 = .ok (.aload_n 0, 1) := by decide +kernel
theorem dX10_stepped_694 : decode cX10_stepped 694 = .ok (.getfield 277, 3) := by decide +kernel
theorem dX10_stepped_697 : decode cX10_stepped 697 = .ok (.iastore, 1) := by decide +kernel
theorem dX10_stepped_698 : decode cX10_stepped 698 = .ok (.aload_n 0, 1) := by decide +kernel
theorem dX10_stepped_699 : decode cX10_stepped 699 = .ok (.getfield 57, 3) := by decide +kernel
theorem dX10_stepped_702 : decode cX10_stepped 702 = .ok (.iconst 2, 1) := by decide +kernel
theorem dX10_stepped_703 : decode cX10_stepped 703 = .ok (.iload_n 1, 1) := by decide +kernel
theorem dX10_stepped_704 : decode cX10_stepped 704 = .ok (.iadd, 1) := by decide +kernel
theorem dX10_stepped_705 : decode cX10_stepped 705 = .ok (.dup2, 1) := by decide +kernel
theorem dX10_stepped_706 : decode cX10_stepped 706 = .ok (.iaload, 1) := by decide +kernel
theorem dX10_stepped_707 : decode cX10_stepped 707 = .ok (.iconst 1, 1) := by decide +kernel
theorem dX10_stepped_708 : decode cX10_stepped 708 = .ok (.iadd, 1) := by decide +kernel
theorem dX10_stepped_709 : decode cX10_stepped 709 = .ok (.iastore, 1) := by decide +kernel
theorem dX10_stepped_710 : decode cX10_stepped 710 = .ok (.aload_n 0, 1) := by decide +kernel
theorem dX10_stepped_711 : decode cX10_stepped 711 = .ok (.invokevirtual 312, 3) := by decide +kernel
theorem dX10_stepped_714 : decode cX10_stepped 714 = .ok (.iload 7, 2) := by decide +kernel
theorem dX10_stepped_716 : decode cX10_stepped 716 = .ok (.ireturn, 1) := by decide +kernel
theorem dX10_goesBy_0 : decode cX10_goesBy 0 = .ok (.iload_n 0, 1) := by decide +kernel
theorem dX10_goesBy_1 : decode cX10_goesBy 1 = .ok (.bipush 21, 2) := by decide +kernel
theorem dX10_goesBy_3 : decode cX10_goesBy 3 = .ok (.if_icmp .ne 13, 3) := by decide +kernel
theorem dX10_goesBy_6 : decode cX10_goesBy 6 = .ok (.iload_n 1, 1) := by decide +kernel
theorem dX10_goesBy_7 : decode cX10_goesBy 7 = .ok (.ifCond .ne 7, 3) := by decide +kernel
theorem dX10_goesBy_10 : decode cX10_goesBy 10 = .ok (.iconst 1, 1) := by decide +kernel
theorem dX10_goesBy_11 : decode cX10_goesBy 11 = .ok (.goto 4, 3) := by decide +kernel
theorem dX10_goesBy_14 : decode cX10_goesBy 14 = .ok (.iconst 0, 1) := by decide +kernel
theorem dX10_goesBy_15 : decode cX10_goesBy 15 = .ok (.ireturn, 1) := by decide +kernel
theorem dX10_goesBy_16 : decode cX10_goesBy 16 = .ok (.iload_n 0, 1) := by decide +kernel
theorem dX10_goesBy_17 : decode cX10_goesBy 17 = .ok (.bipush 22, 2) := by decide +kernel
theorem dX10_goesBy_19 : decode cX10_goesBy 19 = .ok (.if_icmp .ne 14, 3) := by decide +kernel
theorem dX10_goesBy_22 : decode cX10_goesBy 22 = .ok (.iload_n 1, 1) := by decide +kernel
theorem dX10_goesBy_23 : decode cX10_goesBy 23 = .ok (.iload_n 2, 1) := by decide +kernel
theorem dX10_goesBy_24 : decode cX10_goesBy 24 = .ok (.if_icmp .ge 7, 3) := by decide +kernel
theorem dX10_goesBy_27 : decode cX10_goesBy 27 = .ok (.iconst 1, 1) := by decide +kernel
theorem dX10_goesBy_28 : decode cX10_goesBy 28 = .ok (.goto 4, 3) := by decide +kernel
theorem dX10_goesBy_31 : decode cX10_goesBy 31 = .ok (.iconst 0, 1) := by decide +kernel
theorem dX10_goesBy_32 : decode cX10_goesBy 32 = .ok (.ireturn, 1) := by decide +kernel
theorem dX10_goesBy_33 : decode cX10_goesBy 33 = .ok (.iload_n 3, 1) := by decide +kernel
theorem dX10_goesBy_34 : decode cX10_goesBy 34 = .ok (.invokestatic 238, 3) := by decide +kernel
theorem dX10_goesBy_37 : decode cX10_goesBy 37 = .ok (.ifCond .ne 28, 3) := by decide +kernel
theorem dX10_goesBy_40 : decode cX10_goesBy 40 = .ok (.iload 4, 2) := by decide +kernel
theorem dX10_goesBy_42 : decode cX10_goesBy 42 = .ok (.invokestatic 238, 3) := by decide +kernel
theorem dX10_goesBy_45 : decode cX10_goesBy 45 = .ok (.ifCond .ne 20, 3) := by decide +kernel
theorem dX10_goesBy_48 : decode cX10_goesBy 48 = .ok (.iload_n 3, 1) := by decide +kernel
theorem dX10_goesBy_49 : decode cX10_goesBy 49 = .ok (.invokestatic 242, 3) := by decide +kernel
theorem dX10_goesBy_52 : decode cX10_goesBy 52 = .ok (.iload 4, 2) := by decide +kernel
theorem dX10_goesBy_54 : decode cX10_goesBy 54 = .ok (.invokestatic 242, 3) := by decide +kernel
theorem dX10_goesBy_57 : decode cX10_goesBy 57 = .ok (.dcmp .g, 1) := by decide +kernel
theorem dX10_goesBy_58 : decode cX10_goesBy 58 = .ok (.ifCond .ge 7, 3) := by decide +kernel
theorem dX10_goesBy_61 : decode cX10_goesBy 61 = .ok (.iconst 1, 1) := by decide +kernel
theorem dX10_goesBy_62 : decode cX10_goesBy 62 = .ok (.goto 4, 3) := by decide +kernel
theorem dX10_goesBy_65 : decode cX10_goesBy 65 = .ok (.iconst 0, 1) := by decide +kernel
theorem dX10_goesBy_66 : decode cX10_goesBy 66 = .ok (.ireturn, 1) := by decide +kernel
theorem dX10_leaderLoads_0 : decode cX10_leaderLoads 0 = .ok (.aload_n 0, 1) := by decide +kernel
theorem dX10_leaderLoads_1 : decode cX10_leaderLoads 1 = .ok (.iconst 0, 1) := by decide +kernel
theorem dX10_leaderLoads_2 : decode cX10_leaderLoads 2 = .ok (.iload_n 1, 1) := by decide +kernel
theorem dX10_leaderLoads_3 : decode cX10_leaderLoads 3 = .ok (.invokevirtual 286, 3) := by decide +kernel
theorem dX10_leaderLoads_6 : decode cX10_leaderLoads 6 = .ok (.istore_n 2, 1) := by decide +kernel
theorem dX10_leaderLoads_7 : decode cX10_leaderLoads 7 = .ok (.aload_n 0, 1) := by decide +kernel
theorem dX10_leaderLoads_8 : decode cX10_leaderLoads 8 = .ok (.getfield 57, 3) := by decide +kernel
theorem dX10_leaderLoads_11 : decode cX10_leaderLoads 11 = .ok (.sipush 146, 3) := by decide +kernel
theorem dX10_leaderLoads_14 : decode cX10_leaderLoads 14 = .ok (.iload_n 2, 1) := by decide +kernel
theorem dX10_leaderLoads_15 : decode cX10_leaderLoads 15 = .ok (.iadd, 1) := by decide +kernel
theorem dX10_leaderLoads_16 : decode cX10_leaderLoads 16 = .ok (.iaload, 1) := by decide +kernel
theorem dX10_leaderLoads_17 : decode cX10_leaderLoads 17 = .ok (.istore_n 3, 1) := by decide +kernel
theorem dX10_leaderLoads_18 : decode cX10_leaderLoads 18 = .ok (.iconst 0, 1) := by decide +kernel
theorem dX10_leaderLoads_19 : decode cX10_leaderLoads 19 = .ok (.istore 4, 2) := by decide +kernel
theorem dX10_leaderLoads_21 : decode cX10_leaderLoads 21 = .ok (.iload 4, 2) := by decide +kernel
theorem dX10_leaderLoads_23 : decode cX10_leaderLoads 23 = .ok (.aload_n 0, 1) := by decide +kernel
theorem dX10_leaderLoads_24 : decode cX10_leaderLoads 24 = .ok (.getfield 57, 3) := by decide +kernel
theorem dX10_leaderLoads_27 : decode cX10_leaderLoads 27 = .ok (.bipush 112, 2) := by decide +kernel
theorem dX10_leaderLoads_29 : decode cX10_leaderLoads 29 = .ok (.iaload, 1) := by decide +kernel
theorem dX10_leaderLoads_30 : decode cX10_leaderLoads 30 = .ok (.if_icmp .ge 34, 3) := by decide +kernel
theorem dX10_leaderLoads_33 : decode cX10_leaderLoads 33 = .ok (.aload_n 0, 1) := by decide +kernel
theorem dX10_leaderLoads_34 : decode cX10_leaderLoads 34 = .ok (.getfield 57, 3) := by decide +kernel
theorem dX10_leaderLoads_37 : decode cX10_leaderLoads 37 = .ok (.bipush 114, 2) := by decide +kernel
theorem dX10_leaderLoads_39 : decode cX10_leaderLoads 39 = .ok (.iload 4, 2) := by decide +kernel
theorem dX10_leaderLoads_41 : decode cX10_leaderLoads 41 = .ok (.iadd, 1) := by decide +kernel
theorem dX10_leaderLoads_42 : decode cX10_leaderLoads 42 = .ok (.iaload, 1) := by decide +kernel
theorem dX10_leaderLoads_43 : decode cX10_leaderLoads 43 = .ok (.iload_n 2, 1) := by decide +kernel
theorem dX10_leaderLoads_44 : decode cX10_leaderLoads 44 = .ok (.if_icmp .ne 14, 3) := by decide +kernel
theorem dX10_leaderLoads_47 : decode cX10_leaderLoads 47 = .ok (.aload_n 0, 1) := by decide +kernel
theorem dX10_leaderLoads_48 : decode cX10_leaderLoads 48 = .ok (.getfield 57, 3) := by decide +kernel
theorem dX10_leaderLoads_51 : decode cX10_leaderLoads 51 = .ok (.bipush 122, 2) := by decide +kernel
theorem dX10_leaderLoads_53 : decode cX10_leaderLoads 53 = .ok (.iload 4, 2) := by decide +kernel
theorem dX10_leaderLoads_55 : decode cX10_leaderLoads 55 = .ok (.iadd, 1) := by decide +kernel
theorem dX10_leaderLoads_56 : decode cX10_leaderLoads 56 = .ok (.iaload, 1) := by decide +kernel
theorem dX10_leaderLoads_57 : decode cX10_leaderLoads 57 = .ok (.istore_n 3, 1) := by decide +kernel
theorem dX10_leaderLoads_58 : decode cX10_leaderLoads 58 = .ok (.iinc 4 1, 3) := by decide +kernel
theorem dX10_leaderLoads_61 : decode cX10_leaderLoads 61 = .ok (.goto (-40), 3) := by decide +kernel
theorem dX10_leaderLoads_64 : decode cX10_leaderLoads 64 = .ok (.aload_n 0, 1) := by decide +kernel
theorem dX10_leaderLoads_65 : decode cX10_leaderLoads 65 = .ok (.getfield 57, 3) := by decide +kernel
theorem dX10_leaderLoads_68 : decode cX10_leaderLoads 68 = .ok (.bipush 87, 2) := by decide +kernel
theorem dX10_leaderLoads_70 : decode cX10_leaderLoads 70 = .ok (.aload_n 0, 1) := by decide +kernel
theorem dX10_leaderLoads_71 : decode cX10_leaderLoads 71 = .ok (.getfield 57, 3) := by decide +kernel
theorem dX10_leaderLoads_74 : decode cX10_leaderLoads 74 = .ok (.bipush 86, 2) := by decide +kernel
theorem dX10_leaderLoads_76 : decode cX10_leaderLoads 76 = .ok (.iaload, 1) := by decide +kernel
theorem dX10_leaderLoads_77 : decode cX10_leaderLoads 77 = .ok (.iadd, 1) := by decide +kernel
theorem dX10_leaderLoads_78 : decode cX10_leaderLoads 78 = .ok (.iload_n 2, 1) := by decide +kernel
theorem dX10_leaderLoads_79 : decode cX10_leaderLoads 79 = .ok (.iastore, 1) := by decide +kernel
theorem dX10_leaderLoads_80 : decode cX10_leaderLoads 80 = .ok (.aload_n 0, 1) := by decide +kernel
theorem dX10_leaderLoads_81 : decode cX10_leaderLoads 81 = .ok (.getfield 57, 3) := by decide +kernel
theorem dX10_leaderLoads_84 : decode cX10_leaderLoads 84 = .ok (.bipush 95, 2) := by decide +kernel
theorem dX10_leaderLoads_86 : decode cX10_leaderLoads 86 = .ok (.aload_n 0, 1) := by decide +kernel
theorem dX10_leaderLoads_87 : decode cX10_leaderLoads 87 = .ok (.getfield 57, 3) := by decide +kernel
theorem dX10_leaderLoads_90 : decode cX10_leaderLoads 90 = .ok (.bipush 86, 2) := by decide +kernel
theorem dX10_leaderLoads_92 : decode cX10_leaderLoads 92 = .ok (.iaload, 1) := by decide +kernel
theorem dX10_leaderLoads_93 : decode cX10_leaderLoads 93 = .ok (.iadd, 1) := by decide +kernel
theorem dX10_leaderLoads_94 : decode cX10_leaderLoads 94 = .ok (.iload_n 3, 1) := by decide +kernel
theorem dX10_leaderLoads_95 : decode cX10_leaderLoads 95 = .ok (.iastore, 1) := by decide +kernel
theorem dX10_leaderLoads_96 : decode cX10_leaderLoads 96 = .ok (.aload_n 0, 1) := by decide +kernel
theorem dX10_leaderLoads_97 : decode cX10_leaderLoads 97 = .ok (.getfield 57, 3) := by decide +kernel
theorem dX10_leaderLoads_100 : decode cX10_leaderLoads 100 = .ok (.bipush 86, 2) := by decide +kernel
theorem dX10_leaderLoads_102 : decode cX10_leaderLoads 102 = .ok (.dup2, 1) := by decide +kernel
theorem dX10_leaderLoads_103 : decode cX10_leaderLoads 103 = .ok (.iaload, 1) := by decide +kernel
theorem dX10_leaderLoads_104 : decode cX10_leaderLoads 104 = .ok (.iconst 1, 1) := by decide +kernel
theorem dX10_leaderLoads_105 : decode cX10_leaderLoads 105 = .ok (.iadd, 1) := by decide +kernel
theorem dX10_leaderLoads_106 : decode cX10_leaderLoads 106 = .ok (.iastore, 1) := by decide +kernel
theorem dX10_leaderLoads_107 : decode cX10_leaderLoads 107 = .ok (.aload_n 0, 1) := by decide +kernel
theorem dX10_leaderLoads_108 : decode cX10_leaderLoads 108 = .ok (.getfield 57, 3) := by decide +kernel
theorem dX10_leaderLoads_111 : decode cX10_leaderLoads 111 = .ok (.iconst 4, 1) := by decide +kernel
theorem dX10_leaderLoads_112 : decode cX10_leaderLoads 112 = .ok (.aload_n 0, 1) := by decide +kernel
theorem dX10_leaderLoads_113 : decode cX10_leaderLoads 113 = .ok (.getfield 23, 3) := by decide +kernel
theorem dX10_leaderLoads_116 : decode cX10_leaderLoads 116 = .ok (.iload_n 1, 1) := by decide +kernel
theorem dX10_leaderLoads_117 : decode cX10_leaderLoads 117 = .ok (.iaload, 1) := by decide +kernel
theorem dX10_leaderLoads_118 : decode cX10_leaderLoads 118 = .ok (.iadd, 1) := by decide +kernel
theorem dX10_leaderLoads_119 : decode cX10_leaderLoads 119 = .ok (.iload_n 3, 1) := by decide +kernel
theorem dX10_leaderLoads_120 : decode cX10_leaderLoads 120 = .ok (.iastore, 1) := by decide +kernel
theorem dX10_leaderLoads_121 : decode cX10_leaderLoads 121 = .ok (.iconst 0, 1) := by decide +kernel
theorem dX10_leaderLoads_122 : decode cX10_leaderLoads 122 = .ok (.ireturn, 1) := by decide +kernel
theorem dX10_trailerLoads_0 : decode cX10_trailerLoads 0 = .ok (.aload_n 0, 1) := by decide +kernel
theorem dX10_trailerLoads_1 : decode cX10_trailerLoads 1 = .ok (.getfield 57, 3) := by decide +kernel
theorem dX10_trailerLoads_4 : decode cX10_trailerLoads 4 = .ok (.bipush 87, 2) := by decide +kernel
theorem dX10_trailerLoads_6 : decode cX10_trailerLoads 6 = .ok (.iaload, 1) := by decide +kernel
theorem dX10_trailerLoads_7 : decode cX10_trailerLoads 7 = .ok (.istore_n 2, 1) := by decide +kernel
theorem dX10_trailerLoads_8 : decode cX10_trailerLoads 8 = .ok (.aload_n 0, 1) := by decide +kernel
theorem dX10_trailerLoads_9 : decode cX10_trailerLoads 9 = .ok (.getfield 57, 3) := by decide +kernel
theorem dX10_trailerLoads_12 : decode cX10_trailerLoads 12 = .ok (.bipush 95, 2) := by decide +kernel
theorem dX10_trailerLoads_14 : decode cX10_trailerLoads 14 = .ok (.iaload, 1) := by decide +kernel
theorem dX10_trailerLoads_15 : decode cX10_trailerLoads 15 = .ok (.istore_n 3, 1) := by decide +kernel
theorem dX10_trailerLoads_16 : decode cX10_trailerLoads 16 = .ok (.iconst 1, 1) := by decide +kernel
theorem dX10_trailerLoads_17 : decode cX10_trailerLoads 17 = .ok (.istore 4, 2) := by decide +kernel
theorem dX10_trailerLoads_19 : decode cX10_trailerLoads 19 = .ok (.iload 4, 2) := by decide +kernel
theorem dX10_trailerLoads_21 : decode cX10_trailerLoads 21 = .ok (.bipush 8, 2) := by decide +kernel
theorem dX10_trailerLoads_23 : decode cX10_trailerLoads 23 = .ok (.if_icmp .ge 53, 3) := by decide +kernel
theorem dX10_trailerLoads_26 : decode cX10_trailerLoads 26 = .ok (.aload_n 0, 1) := by decide +kernel
theorem dX10_trailerLoads_27 : decode cX10_trailerLoads 27 = .ok (.getfield 57, 3) := by decide +kernel
theorem dX10_trailerLoads_30 : decode cX10_trailerLoads 30 = .ok (.bipush 87, 2) := by decide +kernel
theorem dX10_trailerLoads_32 : decode cX10_trailerLoads 32 = .ok (.iload 4, 2) := by decide +kernel
theorem dX10_trailerLoads_34 : decode cX10_trailerLoads 34 = .ok (.iadd, 1) := by decide +kernel
theorem dX10_trailerLoads_35 : decode cX10_trailerLoads 35 = .ok (.iconst 1, 1) := by decide +kernel
theorem dX10_trailerLoads_36 : decode cX10_trailerLoads 36 = .ok (.isub, 1) := by decide +kernel
theorem dX10_trailerLoads_37 : decode cX10_trailerLoads 37 = .ok (.aload_n 0, 1) := by decide +kernel
theorem dX10_trailerLoads_38 : decode cX10_trailerLoads 38 = .ok (.getfield 57, 3) := by decide +kernel
theorem dX10_trailerLoads_41 : decode cX10_trailerLoads 41 = .ok (.bipush 87, 2) := by decide +kernel
theorem dX10_trailerLoads_43 : decode cX10_trailerLoads 43 = .ok (.iload 4, 2) := by decide +kernel
theorem dX10_trailerLoads_45 : decode cX10_trailerLoads 45 = .ok (.iadd, 1) := by decide +kernel
theorem dX10_trailerLoads_46 : decode cX10_trailerLoads 46 = .ok (.iaload, 1) := by decide +kernel
theorem dX10_trailerLoads_47 : decode cX10_trailerLoads 47 = .ok (.iastore, 1) := by decide +kernel
theorem dX10_trailerLoads_48 : decode cX10_trailerLoads 48 = .ok (.aload_n 0, 1) := by decide +kernel
theorem dX10_trailerLoads_49 : decode cX10_trailerLoads 49 = .ok (.getfield 57, 3) := by decide +kernel
theorem dX10_trailerLoads_52 : decode cX10_trailerLoads 52 = .ok (.bipush 95, 2) := by decide +kernel
theorem dX10_trailerLoads_54 : decode cX10_trailerLoads 54 = .ok (.iload 4, 2) := by decide +kernel
theorem dX10_trailerLoads_56 : decode cX10_trailerLoads 56 = .ok (.iadd, 1) := by decide +kernel
theorem dX10_trailerLoads_57 : decode cX10_trailerLoads 57 = .ok (.iconst 1, 1) := by decide +kernel
theorem dX10_trailerLoads_58 : decode cX10_trailerLoads 58 = .ok (.isub, 1) := by decide +kernel
theorem dX10_trailerLoads_59 : decode cX10_trailerLoads 59 = .ok (.aload_n 0, 1) := by decide +kernel
theorem dX10_trailerLoads_60 : decode cX10_trailerLoads 60 = .ok (.getfield 57, 3) := by decide +kernel
theorem dX10_trailerLoads_63 : decode cX10_trailerLoads 63 = .ok (.bipush 95, 2) := by decide +kernel
theorem dX10_trailerLoads_65 : decode cX10_trailerLoads 65 = .ok (.iload 4, 2) := by decide +kernel
theorem dX10_trailerLoads_67 : decode cX10_trailerLoads 67 = .ok (.iadd, 1) := by decide +kernel
theorem dX10_trailerLoads_68 : decode cX10_trailerLoads 68 = .ok (.iaload, 1) := by decide +kernel
theorem dX10_trailerLoads_69 : decode cX10_trailerLoads 69 = .ok (.iastore, 1) := by decide +kernel
theorem dX10_trailerLoads_70 : decode cX10_trailerLoads 70 = .ok (.iinc 4 1, 3) := by decide +kernel
theorem dX10_trailerLoads_73 : decode cX10_trailerLoads 73 = .ok (.goto (-54), 3) := by decide +kernel
theorem dX10_trailerLoads_76 : decode cX10_trailerLoads 76 = .ok (.aload_n 0, 1) := by decide +kernel
theorem dX10_trailerLoads_77 : decode cX10_trailerLoads 77 = .ok (.getfield 57, 3) := by decide +kernel
theorem dX10_trailerLoads_80 : decode cX10_trailerLoads 80 = .ok (.bipush 86, 2) := by decide +kernel
theorem dX10_trailerLoads_82 : decode cX10_trailerLoads 82 = .ok (.dup2, 1) := by decide +kernel
theorem dX10_trailerLoads_83 : decode cX10_trailerLoads 83 = .ok (.iaload, 1) := by decide +kernel
theorem dX10_trailerLoads_84 : decode cX10_trailerLoads 84 = .ok (.iconst 1, 1) := by decide +kernel
theorem dX10_trailerLoads_85 : decode cX10_trailerLoads 85 = .ok (.isub, 1) := by decide +kernel
theorem dX10_trailerLoads_86 : decode cX10_trailerLoads 86 = .ok (.iastore, 1) := by decide +kernel
theorem dX10_trailerLoads_87 : decode cX10_trailerLoads 87 = .ok (.iload_n 2, 1) := by decide +kernel
theorem dX10_trailerLoads_88 : decode cX10_trailerLoads 88 = .ok (.aload_n 0, 1) := by decide +kernel
theorem dX10_trailerLoads_89 : decode cX10_trailerLoads 89 = .ok (.iconst 1, 1) := by decide +kernel
theorem dX10_trailerLoads_90 : decode cX10_trailerLoads 90 = .ok (.iload_n 1, 1) := by decide +kernel
theorem dX10_trailerLoads_91 : decode cX10_trailerLoads 91 = .ok (.invokevirtual 286, 3) := by decide +kernel
theorem dX10_trailerLoads_94 : decode cX10_trailerLoads 94 = .ok (.if_icmp .eq 5, 3) := by decide +kernel
theorem dX10_trailerLoads_97 : decode cX10_trailerLoads 97 = .ok (.iconst 1, 1) := by decide +kernel
theorem dX10_trailerLoads_98 : decode cX10_trailerLoads 98 = .ok (.ireturn, 1) := by decide +kernel
theorem dX10_trailerLoads_99 : decode cX10_trailerLoads 99 = .ok (.aload_n 0, 1) := by decide +kernel
theorem dX10_trailerLoads_100 : decode cX10_trailerLoads 100 = .ok (.getfield 57, 3) := by decide +kernel
theorem dX10_trailerLoads_103 : decode cX10_trailerLoads 103 = .ok (.bipush 12, 2) := by decide +kernel
theorem dX10_trailerLoads_105 : decode cX10_trailerLoads 105 = .ok (.aload_n 0, 1) := by decide +kernel
theorem dX10_trailerLoads_106 : decode cX10_trailerLoads 106 = .ok (.getfield 23, 3) := by decide +kernel
theorem dX10_trailerLoads_109 : decode cX10_trailerLoads 109 = .ok (.iload_n 1, 1) := by decide +kernel
theorem dX10_trailerLoads_110 : decode cX10_trailerLoads 110 = .ok (.iaload, 1) := by decide +kernel
theorem dX10_trailerLoads_111 : decode cX10_trailerLoads 111 = .ok (.iadd, 1) := by decide +kernel
theorem dX10_trailerLoads_112 : decode cX10_trailerLoads 112 = .ok (.iload_n 3, 1) := by decide +kernel
theorem dX10_trailerLoads_113 : decode cX10_trailerLoads 113 = .ok (.iastore, 1) := by decide +kernel
theorem dX10_trailerLoads_114 : decode cX10_trailerLoads 114 = .ok (.iconst 0, 1) := by decide +kernel
theorem dX10_trailerLoads_115 : decode cX10_trailerLoads 115 = .ok (.ireturn, 1) := by decide +kernel
theorem dX10_branches_0 : decode cX10_branches 0 = .ok (.iload_n 3, 1) := by decide +kernel
theorem dX10_branches_1 : decode cX10_branches 1 = .ok (.ifCond .eq 13, 3) := by decide +kernel
theorem dX10_branches_4 : decode cX10_branches 4 = .ok (.aload_n 0, 1) := by decide +kernel
theorem dX10_branches_5 : decode cX10_branches 5 = .ok (.aload_n 0, 1) := by decide +kernel
theorem dX10_branches_6 : decode cX10_branches 6 = .ok (.getfield 38, 3) := by decide +kernel
theorem dX10_branches_9 : decode cX10_branches 9 = .ok (.iload_n 2, 1) := by decide +kernel
theorem dX10_branches_10 : decode cX10_branches 10 = .ok (.iaload, 1) := by decide +kernel
theorem dX10_branches_11 : decode cX10_branches 11 = .ok (.putfield 277, 3) := by decide +kernel
theorem dX10_branches_14 : decode cX10_branches 14 = .ok (.iload_n 1, 1) := by decide +kernel
theorem dX10_branches_15 : decode cX10_branches 15 = .ok (.ifCond .ne 40, 3) := by decide +kernel
theorem dX10_branches_18 : decode cX10_branches 18 = .ok (.aload_n 0, 1) := by decide +kernel
theorem dX10_branches_19 : decode cX10_branches 19 = .ok (.getfield 57, 3) := by decide +kernel
theorem dX10_branches_22 : decode cX10_branches 22 = .ok (.bipush 104, 2) := by decide +kernel
theorem dX10_branches_24 : decode cX10_branches 24 = .ok (.aload_n 0, 1) := by decide +kernel
theorem dX10_branches_25 : decode cX10_branches 25 = .ok (.getfield 57, 3) := by decide +kernel
theorem dX10_branches_28 : decode cX10_branches 28 = .ok (.bipush 103, 2) := by decide +kernel
theorem dX10_branches_30 : decode cX10_branches 30 = .ok (.iaload, 1) := by decide +kernel
theorem dX10_branches_31 : decode cX10_branches 31 = .ok (.iadd, 1) := by decide +kernel
theorem dX10_branches_32 : decode cX10_branches 32 = .ok (.iload_n 3, 1) := by decide +kernel
theorem dX10_branches_33 : decode cX10_branches 33 = .ok (.ifCond .eq 7, 3) := by decide +kernel
theorem dX10_branches_36 : decode cX10_branches 36 = .ok (.iconst 1, 1) := by decide +kernel
theorem dX10_branches_37 : decode cX10_branches 37 = .ok (.goto 4, 3) := by decide +kernel
theorem dX10_branches_40 : decode cX10_branches 40 = .ok (.iconst 0, 1) := by decide +kernel
theorem dX10_branches_41 : decode cX10_branches 41 = .ok (.iastore, 1) := by decide +kernel
theorem dX10_branches_42 : decode cX10_branches 42 = .ok (.aload_n 0, 1) := by decide +kernel
theorem dX10_branches_43 : decode cX10_branches 43 = .ok (.getfield 57, 3) := by decide +kernel
theorem dX10_branches_46 : decode cX10_branches 46 = .ok (.bipush 103, 2) := by decide +kernel
theorem dX10_branches_48 : decode cX10_branches 48 = .ok (.dup2, 1) := by decide +kernel
theorem dX10_branches_49 : decode cX10_branches 49 = .ok (.iaload, 1) := by decide +kernel
theorem dX10_branches_50 : decode cX10_branches 50 = .ok (.iconst 1, 1) := by decide +kernel
theorem dX10_branches_51 : decode cX10_branches 51 = .ok (.iadd, 1) := by decide +kernel
theorem dX10_branches_52 : decode cX10_branches 52 = .ok (.iastore, 1) := by decide +kernel
theorem dX10_branches_53 : decode cX10_branches 53 = .ok (.iconst 0, 1) := by decide +kernel
theorem dX10_branches_54 : decode cX10_branches 54 = .ok (.ireturn, 1) := by decide +kernel
theorem dX10_branches_55 : decode cX10_branches 55 = .ok (.aload_n 0, 1) := by decide +kernel
theorem dX10_branches_56 : decode cX10_branches 56 = .ok (.getfield 57, 3) := by decide +kernel
theorem dX10_branches_59 : decode cX10_branches 59 = .ok (.bipush 104, 2) := by decide +kernel
theorem dX10_branches_61 : decode cX10_branches 61 = .ok (.iaload, 1) := by decide +kernel
theorem dX10_branches_62 : decode cX10_branches 62 = .ok (.istore 4, 2) := by decide +kernel
theorem dX10_branches_64 : decode cX10_branches 64 = .ok (.iconst 1, 1) := by decide +kernel
theorem dX10_branches_65 : decode cX10_branches 65 = .ok (.istore 5, 2) := by decide +kernel
theorem dX10_branches_67 : decode cX10_branches 67 = .ok (.iload 5, 2) := by decide +kernel
theorem dX10_branches_69 : decode cX10_branches 69 = .ok (.bipush 8, 2) := by decide +kernel
theorem dX10_branches_71 : decode cX10_branches 71 = .ok (.if_icmp .ge 31, 3) := by decide +kernel
theorem dX10_branches_74 : decode cX10_branches 74 = .ok (.aload_n 0, 1) := by decide +kernel
theorem dX10_branches_75 : decode cX10_branches 75 = .ok (.getfield 57, 3) := by decide +kernel
theorem dX10_branches_78 : decode cX10_branches 78 = .ok (.bipush 104, 2) := by decide +kernel
theorem dX10_branches_80 : decode cX10_branches 80 = .ok (.iload 5, 2) := by decide +kernel
theorem dX10_branches_82 : decode cX10_branches 82 = .ok (.iadd, 1) := by decide +kernel
theorem dX10_branches_83 : decode cX10_branches 83 = .ok (.iconst 1, 1) := by decide +kernel
theorem dX10_branches_84 : decode cX10_branches 84 = .ok (.isub, 1) := by decide +kernel
theorem dX10_branches_85 : decode cX10_branches 85 = .ok (.aload_n 0, 1) := by decide +kernel
theorem dX10_branches_86 : decode cX10_branches 86 = .ok (.getfield 57, 3) := by decide +kernel
theorem dX10_branches_89 : decode cX10_branches 89 = .ok (.bipush 104, 2) := by decide +kernel
theorem dX10_branches_91 : decode cX10_branches 91 = .ok (.iload 5, 2) := by decide +kernel
theorem dX10_branches_93 : decode cX10_branches 93 = .ok (.iadd, 1) := by decide +kernel
theorem dX10_branches_94 : decode cX10_branches 94 = .ok (.iaload, 1) := by decide +kernel
theorem dX10_branches_95 : decode cX10_branches 95 = .ok (.iastore, 1) := by decide +kernel
theorem dX10_branches_96 : decode cX10_branches 96 = .ok (.iinc 5 1, 3) := by decide +kernel
theorem dX10_branches_99 : decode cX10_branches 99 = .ok (.goto (-32), 3) := by decide +kernel
theorem dX10_branches_102 : decode cX10_branches 102 = .ok (.aload_n 0, 1) := by decide +kernel
theorem dX10_branches_103 : decode cX10_branches 103 = .ok (.getfield 57, 3) := by decide +kernel
theorem dX10_branches_106 : decode cX10_branches 106 = .ok (.bipush 103, 2) := by decide +kernel
theorem dX10_branches_108 : decode cX10_branches 108 = .ok (.dup2, 1) := by decide +kernel
theorem dX10_branches_109 : decode cX10_branches 109 = .ok (.iaload, 1) := by decide +kernel
theorem dX10_branches_110 : decode cX10_branches 110 = .ok (.iconst 1, 1) := by decide +kernel
theorem dX10_branches_111 : decode cX10_branches 111 = .ok (.isub, 1) := by decide +kernel
theorem dX10_branches_112 : decode cX10_branches 112 = .ok (.iastore, 1) := by decide +kernel
theorem dX10_branches_113 : decode cX10_branches 113 = .ok (.iload 4, 2) := by decide +kernel
theorem dX10_branches_115 : decode cX10_branches 115 = .ok (.iload_n 3, 1) := by decide +kernel
theorem dX10_branches_116 : decode cX10_branches 116 = .ok (.ifCond .eq 7, 3) := by decide +kernel
theorem dX10_branches_119 : decode cX10_branches 119 = .ok (.iconst 1, 1) := by decide +kernel
theorem dX10_branches_120 : decode cX10_branches 120 = .ok (.goto 4, 3) := by decide +kernel
theorem dX10_branches_123 : decode cX10_branches 123 = .ok (.iconst 0, 1) := by decide +kernel
theorem dX10_branches_124 : decode cX10_branches 124 = .ok (.if_icmp .ne 7, 3) := by decide +kernel
theorem dX10_branches_127 : decode cX10_branches 127 = .ok (.iconst 0, 1) := by decide +kernel
theorem dX10_branches_128 : decode cX10_branches 128 = .ok (.goto 4, 3) := by decide +kernel
theorem dX10_branches_131 : decode cX10_branches 131 = .ok (.iconst 2, 1) := by decide +kernel
theorem dX10_branches_132 : decode cX10_branches 132 = .ok (.ireturn, 1) := by decide +kernel
theorem dX10_leaderHolds_0 : decode cX10_leaderHolds 0 = .ok (.aload_n 0, 1) := by decide +kernel
theorem dX10_leaderHolds_1 : decode cX10_leaderHolds 1 = .ok (.getfield 57, 3) := by decide +kernel
theorem dX10_leaderHolds_4 : decode cX10_leaderHolds 4 = .ok (.bipush 114, 2) := by decide +kernel
theorem dX10_leaderHolds_6 : decode cX10_leaderHolds 6 = .ok (.aload_n 0, 1) := by decide +kernel
theorem dX10_leaderHolds_7 : decode cX10_leaderHolds 7 = .ok (.getfield 57, 3) := by decide +kernel
theorem dX10_leaderHolds_10 : decode cX10_leaderHolds 10 = .ok (.bipush 112, 2) := by decide +kernel
theorem dX10_leaderHolds_12 : decode cX10_leaderHolds 12 = .ok (.iaload, 1) := by decide +kernel
theorem dX10_leaderHolds_13 : decode cX10_leaderHolds 13 = .ok (.iadd, 1) := by decide +kernel
theorem dX10_leaderHolds_14 : decode cX10_leaderHolds 14 = .ok (.iload_n 1, 1) := by decide +kernel
theorem dX10_leaderHolds_15 : decode cX10_leaderHolds 15 = .ok (.iastore, 1) := by decide +kernel
theorem dX10_leaderHolds_16 : decode cX10_leaderHolds 16 = .ok (.aload_n 0, 1) := by decide +kernel
theorem dX10_leaderHolds_17 : decode cX10_leaderHolds 17 = .ok (.getfield 57, 3) := by decide +kernel
theorem dX10_leaderHolds_20 : decode cX10_leaderHolds 20 = .ok (.bipush 122, 2) := by decide +kernel
theorem dX10_leaderHolds_22 : decode cX10_leaderHolds 22 = .ok (.aload_n 0, 1) := by decide +kernel
theorem dX10_leaderHolds_23 : decode cX10_leaderHolds 23 = .ok (.getfield 57, 3) := by decide +kernel
theorem dX10_leaderHolds_26 : decode cX10_leaderHolds 26 = .ok (.bipush 112, 2) := by decide +kernel
theorem dX10_leaderHolds_28 : decode cX10_leaderHolds 28 = .ok (.iaload, 1) := by decide +kernel
theorem dX10_leaderHolds_29 : decode cX10_leaderHolds 29 = .ok (.iadd, 1) := by decide +kernel
theorem dX10_leaderHolds_30 : decode cX10_leaderHolds 30 = .ok (.iload_n 2, 1) := by decide +kernel
theorem dX10_leaderHolds_31 : decode cX10_leaderHolds 31 = .ok (.iastore, 1) := by decide +kernel
theorem dX10_leaderHolds_32 : decode cX10_leaderHolds 32 = .ok (.aload_n 0, 1) := by decide +kernel
theorem dX10_leaderHolds_33 : decode cX10_leaderHolds 33 = .ok (.getfield 57, 3) := by decide +kernel
theorem dX10_leaderHolds_36 : decode cX10_leaderHolds 36 = .ok (.bipush 112, 2) := by decide +kernel
theorem dX10_leaderHolds_38 : decode cX10_leaderHolds 38 = .ok (.dup2, 1) := by decide +kernel
theorem dX10_leaderHolds_39 : decode cX10_leaderHolds 39 = .ok (.iaload, 1) := by decide +kernel
theorem dX10_leaderHolds_40 : decode cX10_leaderHolds 40 = .ok (.iconst 1, 1) := by decide +kernel
theorem dX10_leaderHolds_41 : decode cX10_leaderHolds 41 = .ok (.iadd, 1) := by decide +kernel
theorem dX10_leaderHolds_42 : decode cX10_leaderHolds 42 = .ok (.iastore, 1) := by decide +kernel
theorem dX10_leaderHolds_43 : decode cX10_leaderHolds 43 = .ok (.iconst 0, 1) := by decide +kernel
theorem dX10_leaderHolds_44 : decode cX10_leaderHolds 44 = .ok (.ireturn, 1) := by decide +kernel
theorem dX10_trailerHolds_0 : decode cX10_trailerHolds 0 = .ok (.aload_n 0, 1) := by decide +kernel
theorem dX10_trailerHolds_1 : decode cX10_trailerHolds 1 = .ok (.getfield 57, 3) := by decide +kernel
theorem dX10_trailerHolds_4 : decode cX10_trailerHolds 4 = .ok (.bipush 113, 2) := by decide +kernel
theorem dX10_trailerHolds_6 : decode cX10_trailerHolds 6 = .ok (.iaload, 1) := by decide +kernel
theorem dX10_trailerHolds_7 : decode cX10_trailerHolds 7 = .ok (.istore_n 3, 1) := by decide +kernel
theorem dX10_trailerHolds_8 : decode cX10_trailerHolds 8 = .ok (.aload_n 0, 1) := by decide +kernel
theorem dX10_trailerHolds_9 : decode cX10_trailerHolds 9 = .ok (.getfield 57, 3) := by decide +kernel
theorem dX10_trailerHolds_12 : decode cX10_trailerHolds 12 = .ok (.sipush 130, 3) := by decide +kernel
theorem dX10_trailerHolds_15 : decode cX10_trailerHolds 15 = .ok (.iload_n 3, 1) := by decide +kernel
theorem dX10_trailerHolds_16 : decode cX10_trailerHolds 16 = .ok (.iadd, 1) := by decide +kernel
theorem dX10_trailerHolds_17 : decode cX10_trailerHolds 17 = .ok (.iload_n 1, 1) := by decide +kernel
theorem dX10_trailerHolds_18 : decode cX10_trailerHolds 18 = .ok (.iastore, 1) := by decide +kernel
theorem dX10_trailerHolds_19 : decode cX10_trailerHolds 19 = .ok (.aload_n 0, 1) := by decide +kernel
theorem dX10_trailerHolds_20 : decode cX10_trailerHolds 20 = .ok (.getfield 57, 3) := by decide +kernel
theorem dX10_trailerHolds_23 : decode cX10_trailerHolds 23 = .ok (.sipush 138, 3) := by decide +kernel
theorem dX10_trailerHolds_26 : decode cX10_trailerHolds 26 = .ok (.iload_n 3, 1) := by decide +kernel
theorem dX10_trailerHolds_27 : decode cX10_trailerHolds 27 = .ok (.iadd, 1) := by decide +kernel
theorem dX10_trailerHolds_28 : decode cX10_trailerHolds 28 = .ok (.iload_n 2, 1) := by decide +kernel
theorem dX10_trailerHolds_29 : decode cX10_trailerHolds 29 = .ok (.iastore, 1) := by decide +kernel
theorem dX10_trailerHolds_30 : decode cX10_trailerHolds 30 = .ok (.aload_n 0, 1) := by decide +kernel
theorem dX10_trailerHolds_31 : decode cX10_trailerHolds 31 = .ok (.getfield 57, 3) := by decide +kernel
theorem dX10_trailerHolds_34 : decode cX10_trailerHolds 34 = .ok (.bipush 114, 2) := by decide +kernel
theorem dX10_trailerHolds_36 : decode cX10_trailerHolds 36 = .ok (.iload_n 3, 1) := by decide +kernel
theorem dX10_trailerHolds_37 : decode cX10_trailerHolds 37 = .ok (.iadd, 1) := by decide +kernel
theorem dX10_trailerHolds_38 : decode cX10_trailerHolds 38 = .ok (.iaload, 1) := by decide +kernel
theorem dX10_trailerHolds_39 : decode cX10_trailerHolds 39 = .ok (.iload_n 1, 1) := by decide +kernel
theorem dX10_trailerHolds_40 : decode cX10_trailerHolds 40 = .ok (.if_icmp .ne 16, 3) := by decide +kernel
theorem dX10_trailerHolds_43 : decode cX10_trailerHolds 43 = .ok (.aload_n 0, 1) := by decide +kernel
theorem dX10_trailerHolds_44 : decode cX10_trailerHolds 44 = .ok (.getfield 57, 3) := by decide +kernel
theorem dX10_trailerHolds_47 : decode cX10_trailerHolds 47 = .ok (.bipush 122, 2) := by decide +kernel
theorem dX10_trailerHolds_49 : decode cX10_trailerHolds 49 = .ok (.iload_n 3, 1) := by decide +kernel
theorem dX10_trailerHolds_50 : decode cX10_trailerHolds 50 = .ok (.iadd, 1) := by decide +kernel
theorem dX10_trailerHolds_51 : decode cX10_trailerHolds 51 = .ok (.iaload, 1) := by decide +kernel
theorem dX10_trailerHolds_52 : decode cX10_trailerHolds 52 = .ok (.iload_n 2, 1) := by decide +kernel
theorem dX10_trailerHolds_53 : decode cX10_trailerHolds 53 = .ok (.if_icmp .eq 5, 3) := by decide +kernel
theorem dX10_trailerHolds_56 : decode cX10_trailerHolds 56 = .ok (.iconst 3, 1) := by decide +kernel
theorem dX10_trailerHolds_57 : decode cX10_trailerHolds 57 = .ok (.ireturn, 1) := by decide +kernel
theorem dX10_trailerHolds_58 : decode cX10_trailerHolds 58 = .ok (.aload_n 0, 1) := by decide +kernel
theorem dX10_trailerHolds_59 : decode cX10_trailerHolds 59 = .ok (.getfield 57, 3) := by decide +kernel
theorem dX10_trailerHolds_62 : decode cX10_trailerHolds 62 = .ok (.bipush 113, 2) := by decide +kernel
theorem dX10_trailerHolds_64 : decode cX10_trailerHolds 64 = .ok (.dup2, 1) := by decide +kernel
theorem dX10_trailerHolds_65 : decode cX10_trailerHolds 65 = .ok (.iaload, 1) := by decide +kernel
theorem dX10_trailerHolds_66 : decode cX10_trailerHolds 66 = .ok (.iconst 1, 1) := by decide +kernel
theorem dX10_trailerHolds_67 : decode cX10_trailerHolds 67 = .ok (.iadd, 1) := by decide +kernel
theorem dX10_trailerHolds_68 : decode cX10_trailerHolds 68 = .ok (.iastore, 1) := by decide +kernel
theorem dX10_trailerHolds_69 : decode cX10_trailerHolds 69 = .ok (.iconst 0, 1) := by decide +kernel
theorem dX10_trailerHolds_70 : decode cX10_trailerHolds 70 = .ok (.ireturn, 1) := by decide +kernel
theorem dX10_wrongHere_0 : decode cX10_wrongHere 0 = .ok (.aload_n 0, 1) := by decide +kernel
theorem dX10_wrongHere_1 : decode cX10_wrongHere 1 = .ok (.getfield 57, 3) := by decide +kernel
theorem dX10_wrongHere_4 : decode cX10_wrongHere 4 = .ok (.iconst 0, 1) := by decide +kernel
theorem dX10_wrongHere_5 : decode cX10_wrongHere 5 = .ok (.iaload, 1) := by decide +kernel
theorem dX10_wrongHere_6 : decode cX10_wrongHere 6 = .ok (.aload_n 0, 1) := by decide +kernel
theorem dX10_wrongHere_7 : decode cX10_wrongHere 7 = .ok (.getfield 57, 3) := by decide +kernel
theorem dX10_wrongHere_10 : decode cX10_wrongHere 10 = .ok (.iconst 1, 1) := by decide +kernel
theorem dX10_wrongHere_11 : decode cX10_wrongHere 11 = .ok (.iaload, 1) := by decide +kernel
theorem dX10_wrongHere_12 : decode cX10_wrongHere 12 = .ok (.if_icmp .ne 7, 3) := by decide +kernel
theorem dX10_wrongHere_15 : decode cX10_wrongHere 15 = .ok (.iconst 1, 1) := by decide +kernel
theorem dX10_wrongHere_16 : decode cX10_wrongHere 16 = .ok (.goto 4, 3) := by decide +kernel
theorem dX10_wrongHere_19 : decode cX10_wrongHere 19 = .ok (.iconst 0, 1) := by decide +kernel
theorem dX10_wrongHere_20 : decode cX10_wrongHere 20 = .ok (.istore_n 1, 1) := by decide +kernel
theorem dX10_wrongHere_21 : decode cX10_wrongHere 21 = .ok (.iconst 0, 1) := by decide +kernel
theorem dX10_wrongHere_22 : decode cX10_wrongHere 22 = .ok (.istore_n 2, 1) := by decide +kernel
theorem dX10_wrongHere_23 : decode cX10_wrongHere 23 = .ok (.iload_n 2, 1) := by decide +kernel
theorem dX10_wrongHere_24 : decode cX10_wrongHere 24 = .ok (.bipush 8, 2) := by decide +kernel
theorem dX10_wrongHere_26 : decode cX10_wrongHere 26 = .ok (.if_icmp .ge 39, 3) := by decide +kernel
theorem dX10_wrongHere_29 : decode cX10_wrongHere 29 = .ok (.iload_n 1, 1) := by decide +kernel
theorem dX10_wrongHere_30 : decode cX10_wrongHere 30 = .ok (.ifCond .eq 27, 3) := by decide +kernel
theorem dX10_wrongHere_33 : decode cX10_wrongHere 33 = .ok (.aload_n 0, 1) := by decide +kernel
theorem dX10_wrongHere_34 : decode cX10_wrongHere 34 = .ok (.getfield 57, 3) := by decide +kernel
theorem dX10_wrongHere_37 : decode cX10_wrongHere 37 = .ok (.iconst 4, 1) := by decide +kernel
theorem dX10_wrongHere_38 : decode cX10_wrongHere 38 = .ok (.iload_n 2, 1) := by decide +kernel
theorem dX10_wrongHere_39 : decode cX10_wrongHere 39 = .ok (.iadd, 1) := by decide +kernel
theorem dX10_wrongHere_40 : decode cX10_wrongHere 40 = .ok (.iaload, 1) := by decide +kernel
theorem dX10_wrongHere_41 : decode cX10_wrongHere 41 = .ok (.aload_n 0, 1) := by decide +kernel
theorem dX10_wrongHere_42 : decode cX10_wrongHere 42 = .ok (.getfield 57, 3) := by decide +kernel
theorem dX10_wrongHere_45 : decode cX10_wrongHere 45 = .ok (.bipush 12, 2) := by decide +kernel
theorem dX10_wrongHere_47 : decode cX10_wrongHere 47 = .ok (.iload_n 2, 1) := by decide +kernel
theorem dX10_wrongHere_48 : decode cX10_wrongHere 48 = .ok (.iadd, 1) := by decide +kernel
theorem dX10_wrongHere_49 : decode cX10_wrongHere 49 = .ok (.iaload, 1) := by decide +kernel
theorem dX10_wrongHere_50 : decode cX10_wrongHere 50 = .ok (.if_icmp .ne 7, 3) := by decide +kernel
theorem dX10_wrongHere_53 : decode cX10_wrongHere 53 = .ok (.iconst 1, 1) := by decide +kernel
theorem dX10_wrongHere_54 : decode cX10_wrongHere 54 = .ok (.goto 4, 3) := by decide +kernel
theorem dX10_wrongHere_57 : decode cX10_wrongHere 57 = .ok (.iconst 0, 1) := by decide +kernel
theorem dX10_wrongHere_58 : decode cX10_wrongHere 58 = .ok (.istore_n 1, 1) := by decide +kernel
theorem dX10_wrongHere_59 : decode cX10_wrongHere 59 = .ok (.iinc 2 1, 3) := by decide +kernel
theorem dX10_wrongHere_62 : decode cX10_wrongHere 62 = .ok (.goto (-39), 3) := by decide +kernel
theorem dX10_wrongHere_65 : decode cX10_wrongHere 65 = .ok (.iconst 0, 1) := by decide +kernel
theorem dX10_wrongHere_66 : decode cX10_wrongHere 66 = .ok (.istore_n 2, 1) := by decide +kernel
theorem dX10_wrongHere_67 : decode cX10_wrongHere 67 = .ok (.iload_n 2, 1) := by decide +kernel
theorem dX10_wrongHere_68 : decode cX10_wrongHere 68 = .ok (.iconst 4, 1) := by decide +kernel
theorem dX10_wrongHere_69 : decode cX10_wrongHere 69 = .ok (.if_icmp .ge 40, 3) := by decide +kernel
theorem dX10_wrongHere_72 : decode cX10_wrongHere 72 = .ok (.iload_n 1, 1) := by decide +kernel
theorem dX10_wrongHere_73 : decode cX10_wrongHere 73 = .ok (.ifCond .eq 28, 3) := by decide +kernel
theorem dX10_wrongHere_76 : decode cX10_wrongHere 76 = .ok (.aload_n 0, 1) := by decide +kernel
theorem dX10_wrongHere_77 : decode cX10_wrongHere 77 = .ok (.getfield 57, 3) := by decide +kernel
theorem dX10_wrongHere_80 : decode cX10_wrongHere 80 = .ok (.bipush 20, 2) := by decide +kernel
theorem dX10_wrongHere_82 : decode cX10_wrongHere 82 = .ok (.iload_n 2, 1) := by decide +kernel
theorem dX10_wrongHere_83 : decode cX10_wrongHere 83 = .ok (.iadd, 1) := by decide +kernel
theorem dX10_wrongHere_84 : decode cX10_wrongHere 84 = .ok (.iaload, 1) := by decide +kernel
theorem dX10_wrongHere_85 : decode cX10_wrongHere 85 = .ok (.aload_n 0, 1) := by decide +kernel
theorem dX10_wrongHere_86 : decode cX10_wrongHere 86 = .ok (.getfield 57, 3) := by decide +kernel
theorem dX10_wrongHere_89 : decode cX10_wrongHere 89 = .ok (.bipush 24, 2) := by decide +kernel
theorem dX10_wrongHere_91 : decode cX10_wrongHere 91 = .ok (.iload_n 2, 1) := by decide +kernel
theorem dX10_wrongHere_92 : decode cX10_wrongHere 92 = .ok (.iadd, 1) := by decide +kernel
theorem dX10_wrongHere_93 : decode cX10_wrongHere 93 = .ok (.iaload, 1) := by decide +kernel
theorem dX10_wrongHere_94 : decode cX10_wrongHere 94 = .ok (.if_icmp .ne 7, 3) := by decide +kernel
theorem dX10_wrongHere_97 : decode cX10_wrongHere 97 = .ok (.iconst 1, 1) := by decide +kernel
theorem dX10_wrongHere_98 : decode cX10_wrongHere 98 = .ok (.goto 4, 3) := by decide +kernel
theorem dX10_wrongHere_101 : decode cX10_wrongHere 101 = .ok (.iconst 0, 1) := by decide +kernel
theorem dX10_wrongHere_102 : decode cX10_wrongHere 102 = .ok (.istore_n 1, 1) := by decide +kernel
theorem dX10_wrongHere_103 : decode cX10_wrongHere 103 = .ok (.iinc 2 1, 3) := by decide +kernel
theorem dX10_wrongHere_106 : decode cX10_wrongHere 106 = .ok (.goto (-39), 3) := by decide +kernel
theorem dX10_wrongHere_109 : decode cX10_wrongHere 109 = .ok (.iload_n 1, 1) := by decide +kernel
theorem dX10_wrongHere_110 : decode cX10_wrongHere 110 = .ok (.ifCond .ne 5, 3) := by decide +kernel
theorem dX10_wrongHere_113 : decode cX10_wrongHere 113 = .ok (.iconst 4, 1) := by decide +kernel
theorem dX10_wrongHere_114 : decode cX10_wrongHere 114 = .ok (.ireturn, 1) := by decide +kernel
theorem dX10_wrongHere_115 : decode cX10_wrongHere 115 = .ok (.aload_n 0, 1) := by decide +kernel
theorem dX10_wrongHere_116 : decode cX10_wrongHere 116 = .ok (.getfield 57, 3) := by decide +kernel
theorem dX10_wrongHere_119 : decode cX10_wrongHere 119 = .ok (.iconst 2, 1) := by decide +kernel
theorem dX10_wrongHere_120 : decode cX10_wrongHere 120 = .ok (.iaload, 1) := by decide +kernel
theorem dX10_wrongHere_121 : decode cX10_wrongHere 121 = .ok (.aload_n 0, 1) := by decide +kernel
theorem dX10_wrongHere_122 : decode cX10_wrongHere 122 = .ok (.getfield 57, 3) := by decide +kernel
theorem dX10_wrongHere_125 : decode cX10_wrongHere 125 = .ok (.iconst 3, 1) := by decide +kernel
theorem dX10_wrongHere_126 : decode cX10_wrongHere 126 = .ok (.iaload, 1) := by decide +kernel
theorem dX10_wrongHere_127 : decode cX10_wrongHere 127 = .ok (.if_icmp .ne 40, 3) := by decide +kernel
theorem dX10_wrongHere_130 : decode cX10_wrongHere 130 = .ok (.aload_n 0, 1) := by decide +kernel
theorem dX10_wrongHere_131 : decode cX10_wrongHere 131 = .ok (.getfield 57, 3) := by decide +kernel
theorem dX10_wrongHere_134 : decode cX10_wrongHere 134 = .ok (.bipush 86, 2) := by decide +kernel
theorem dX10_wrongHere_136 : decode cX10_wrongHere 136 = .ok (.iaload, 1) := by decide +kernel
theorem dX10_wrongHere_137 : decode cX10_wrongHere 137 = .ok (.ifCond .gt 30, 3) := by decide +kernel
theorem dX10_wrongHere_140 : decode cX10_wrongHere 140 = .ok (.aload_n 0, 1) := by decide +kernel
theorem dX10_wrongHere_141 : decode cX10_wrongHere 141 = .ok (.getfield 57, 3) := by decide +kernel
theorem dX10_wrongHere_144 : decode cX10_wrongHere 144 = .ok (.bipush 103, 2) := by decide +kernel
theorem dX10_wrongHere_146 : decode cX10_wrongHere 146 = .ok (.iaload, 1) := by decide +kernel
theorem dX10_wrongHere_147 : decode cX10_wrongHere 147 = .ok (.ifCond .gt 20, 3) := by decide +kernel
theorem dX10_wrongHere_150 : decode cX10_wrongHere 150 = .ok (.aload_n 0, 1) := by decide +kernel
theorem dX10_wrongHere_151 : decode cX10_wrongHere 151 = .ok (.getfield 57, 3) := by decide +kernel
theorem dX10_wrongHere_154 : decode cX10_wrongHere 154 = .ok (.bipush 112, 2) := by decide +kernel
theorem dX10_wrongHere_156 : decode cX10_wrongHere 156 = .ok (.iaload, 1) := by decide +kernel
theorem dX10_wrongHere_157 : decode cX10_wrongHere 157 = .ok (.aload_n 0, 1) := by decide +kernel
theorem dX10_wrongHere_158 : decode cX10_wrongHere 158 = .ok (.getfield 57, 3) := by decide +kernel
theorem dX10_wrongHere_161 : decode cX10_wrongHere 161 = .ok (.bipush 113, 2) := by decide +kernel
theorem dX10_wrongHere_163 : decode cX10_wrongHere 163 = .ok (.iaload, 1) := by decide +kernel
theorem dX10_wrongHere_164 : decode cX10_wrongHere 164 = .ok (.if_icmp .eq 5, 3) := by decide +kernel
theorem dX10_wrongHere_167 : decode cX10_wrongHere 167 = .ok (.iconst 5, 1) := by decide +kernel
theorem dX10_wrongHere_168 : decode cX10_wrongHere 168 = .ok (.ireturn, 1) := by decide +kernel
theorem dX10_wrongHere_169 : decode cX10_wrongHere 169 = .ok (.iconst 0, 1) := by decide +kernel
theorem dX10_wrongHere_170 : decode cX10_wrongHere 170 = .ok (.istore_n 2, 1) := by decide +kernel
theorem dX10_wrongHere_171 : decode cX10_wrongHere 171 = .ok (.iload_n 2, 1) := by decide +kernel
theorem dX10_wrongHere_172 : decode cX10_wrongHere 172 = .ok (.aload_n 0, 1) := by decide +kernel
theorem dX10_wrongHere_173 : decode cX10_wrongHere 173 = .ok (.getfield 57, 3) := by decide +kernel
theorem dX10_wrongHere_176 : decode cX10_wrongHere 176 = .ok (.bipush 112, 2) := by decide +kernel
theorem dX10_wrongHere_178 : decode cX10_wrongHere 178 = .ok (.iaload, 1) := by decide +kernel
theorem dX10_wrongHere_179 : decode cX10_wrongHere 179 = .ok (.if_icmp .ge 56, 3) := by decide +kernel
theorem dX10_wrongHere_182 : decode cX10_wrongHere 182 = .ok (.aload_n 0, 1) := by decide +kernel
theorem dX10_wrongHere_183 : decode cX10_wrongHere 183 = .ok (.getfield 57, 3) := by decide +kernel
theorem dX10_wrongHere_186 : decode cX10_wrongHere 186 = .ok (.bipush 114, 2) := by decide +kernel
theorem dX10_wrongHere_188 : decode cX10_wrongHere 188 = .ok (.iload_n 2, 1) := by decide +kernel
theorem dX10_wrongHere_189 : decode cX10_wrongHere 189 = .ok (.iadd, 1) := by decide +kernel
theorem dX10_wrongHere_190 : decode cX10_wrongHere 190 = .ok (.iaload, 1) := by decide +kernel
theorem dX10_wrongHere_191 : decode cX10_wrongHere 191 = .ok (.aload_n 0, 1) := by decide +kernel
theorem dX10_wrongHere_192 : decode cX10_wrongHere 192 = .ok (.getfield 57, 3) := by decide +kernel
theorem dX10_wrongHere_195 : decode cX10_wrongHere 195 = .ok (.sipush 130, 3) := by decide +kernel
theorem dX10_wrongHere_198 : decode cX10_wrongHere 198 = .ok (.iload_n 2, 1) := by decide +kernel
theorem dX10_wrongHere_199 : decode cX10_wrongHere 199 = .ok (.iadd, 1) := by decide +kernel
theorem dX10_wrongHere_200 : decode cX10_wrongHere 200 = .ok (.iaload, 1) := by decide +kernel
theorem dX10_wrongHere_201 : decode cX10_wrongHere 201 = .ok (.if_icmp .ne 25, 3) := by decide +kernel
theorem dX10_wrongHere_204 : decode cX10_wrongHere 204 = .ok (.aload_n 0, 1) := by decide +kernel
theorem dX10_wrongHere_205 : decode cX10_wrongHere 205 = .ok (.getfield 57, 3) := by decide +kernel
theorem dX10_wrongHere_208 : decode cX10_wrongHere 208 = .ok (.bipush 122, 2) := by decide +kernel
theorem dX10_wrongHere_210 : decode cX10_wrongHere 210 = .ok (.iload_n 2, 1) := by decide +kernel
theorem dX10_wrongHere_211 : decode cX10_wrongHere 211 = .ok (.iadd, 1) := by decide +kernel
theorem dX10_wrongHere_212 : decode cX10_wrongHere 212 = .ok (.iaload, 1) := by decide +kernel
theorem dX10_wrongHere_213 : decode cX10_wrongHere 213 = .ok (.aload_n 0, 1) := by decide +kernel
theorem dX10_wrongHere_214 : decode cX10_wrongHere 214 = .ok (.getfield 57, 3) := by decide +kernel
theorem dX10_wrongHere_217 : decode cX10_wrongHere 217 = .ok (.sipush 138, 3) := by decide +kernel
theorem dX10_wrongHere_220 : decode cX10_wrongHere 220 = .ok (.iload_n 2, 1) := by decide +kernel
theorem dX10_wrongHere_221 : decode cX10_wrongHere 221 = .ok (.iadd, 1) := by decide +kernel
theorem dX10_wrongHere_222 : decode cX10_wrongHere 222 = .ok (.iaload, 1) := by decide +kernel
theorem dX10_wrongHere_223 : decode cX10_wrongHere 223 = .ok (.if_icmp .eq 6, 3) := by decide +kernel
theorem dX10_wrongHere_226 : decode cX10_wrongHere 226 = .ok (.bipush 6, 2) := by decide +kernel
theorem dX10_wrongHere_228 : decode cX10_wrongHere 228 = .ok (.ireturn, 1) := by decide +kernel
theorem dX10_wrongHere_229 : decode cX10_wrongHere 229 = .ok (.iinc 2 1, 3) := by decide +kernel
theorem dX10_wrongHere_232 : decode cX10_wrongHere 232 = .ok (.goto (-61), 3) := by decide +kernel
theorem dX10_wrongHere_235 : decode cX10_wrongHere 235 = .ok (.iconst 0, 1) := by decide +kernel
theorem dX10_wrongHere_236 : decode cX10_wrongHere 236 = .ok (.ireturn, 1) := by decide +kernel
theorem dX10_journal_0 : decode cX10_journal 0 = .ok (.aload_n 0, 1) := by decide +kernel
theorem dX10_journal_1 : decode cX10_journal 1 = .ok (.getfield 57, 3) := by decide +kernel
theorem dX10_journal_4 : decode cX10_journal 4 = .ok (.sipush 265, 3) := by decide +kernel
theorem dX10_journal_7 : decode cX10_journal 7 = .ok (.iaload, 1) := by decide +kernel
theorem dX10_journal_8 : decode cX10_journal 8 = .ok (.bipush 16, 2) := by decide +kernel
theorem dX10_journal_10 : decode cX10_journal 10 = .ok (.if_icmp .ne 51, 3) := by decide +kernel
theorem dX10_journal_13 : decode cX10_journal 13 = .ok (.iconst 0, 1) := by decide +kernel
theorem dX10_journal_14 : decode cX10_journal 14 = .ok (.istore_n 3, 1) := by decide +kernel
theorem dX10_journal_15 : decode cX10_journal 15 = .ok (.iload_n 3, 1) := by decide +kernel
theorem dX10_journal_16 : decode cX10_journal 16 = .ok (.bipush 45, 2) := by decide +kernel
theorem dX10_journal_18 : decode cX10_journal 18 = .ok (.if_icmp .ge 31, 3) := by decide +kernel
theorem dX10_journal_21 : decode cX10_journal 21 = .ok (.aload_n 0, 1) := by decide +kernel
theorem dX10_journal_22 : decode cX10_journal 22 = .ok (.getfield 57, 3) := by decide +kernel
theorem dX10_journal_25 : decode cX10_journal 25 = .ok (.sipush 266, 3) := by decide +kernel
theorem dX10_journal_28 : decode cX10_journal 28 = .ok (.iload_n 3, 1) := by decide +kernel
theorem dX10_journal_29 : decode cX10_journal 29 = .ok (.iadd, 1) := by decide +kernel
theorem dX10_journal_30 : decode cX10_journal 30 = .ok (.aload_n 0, 1) := by decide +kernel
theorem dX10_journal_31 : decode cX10_journal 31 = .ok (.getfield 57, 3) := by decide +kernel
theorem dX10_journal_34 : decode cX10_journal 34 = .ok (.sipush 266, 3) := by decide +kernel
theorem dX10_journal_37 : decode cX10_journal 37 = .ok (.iload_n 3, 1) := by decide +kernel
theorem dX10_journal_38 : decode cX10_journal 38 = .ok (.iadd, 1) := by decide +kernel
theorem dX10_journal_39 : decode cX10_journal 39 = .ok (.iconst 3, 1) := by decide +kernel
theorem dX10_journal_40 : decode cX10_journal 40 = .ok (.iadd, 1) := by decide +kernel
theorem dX10_journal_41 : decode cX10_journal 41 = .ok (.iaload, 1) := by decide +kernel
theorem dX10_journal_42 : decode cX10_journal 42 = .ok (.iastore, 1) := by decide +kernel
theorem dX10_journal_43 : decode cX10_journal 43 = .ok (.iinc 3 1, 3) := by decide +kernel
theorem dX10_journal_46 : decode cX10_journal 46 = .ok (.goto (-31), 3) := by decide +kernel
theorem dX10_journal_49 : decode cX10_journal 49 = .ok (.aload_n 0, 1) := by decide +kernel
theorem dX10_journal_50 : decode cX10_journal 50 = .ok (.getfield 57, 3) := by decide +kernel
theorem dX10_journal_53 : decode cX10_journal 53 = .ok (.sipush 265, 3) := by decide +kernel
theorem dX10_journal_56 : decode cX10_journal 56 = .ok (.dup2, 1) := by decide +kernel
theorem dX10_journal_57 : decode cX10_journal 57 = .ok (.iaload, 1) := by decide +kernel
theorem dX10_journal_58 : decode cX10_journal 58 = .ok (.iconst 1, 1) := by decide +kernel
theorem dX10_journal_59 : decode cX10_journal 59 = .ok (.isub, 1) := by decide +kernel
theorem dX10_journal_60 : decode cX10_journal 60 = .ok (.iastore, 1) := by decide +kernel
theorem dX10_journal_61 : decode cX10_journal 61 = .ok (.sipush 266, 3) := by decide +kernel
theorem dX10_journal_64 : decode cX10_journal 64 = .ok (.iconst 3, 1) := by decide +kernel
theorem dX10_journal_65 : decode cX10_journal 65 = .ok (.aload_n 0, 1) := by decide +kernel
theorem dX10_journal_66 : decode cX10_journal 66 = .ok (.getfield 57, 3) := by decide +kernel
theorem dX10_journal_69 : decode cX10_journal 69 = .ok (.sipush 265, 3) := by decide +kernel
theorem dX10_journal_72 : decode cX10_journal 72 = .ok (.iaload, 1) := by decide +kernel
theorem dX10_journal_73 : decode cX10_journal 73 = .ok (.imul, 1) := by decide +kernel
theorem dX10_journal_74 : decode cX10_journal 74 = .ok (.iadd, 1) := by decide +kernel
theorem dX10_journal_75 : decode cX10_journal 75 = .ok (.istore_n 3, 1) := by decide +kernel
theorem dX10_journal_76 : decode cX10_journal 76 = .ok (.aload_n 0, 1) := by decide +kernel
theorem dX10_journal_77 : decode cX10_journal 77 = .ok (.getfield 57, 3) := by decide +kernel
theorem dX10_journal_80 : decode cX10_journal 80 = .ok (.iload_n 3, 1) := by decide +kernel
theorem dX10_journal_81 : decode cX10_journal 81 = .ok (.iload_n 1, 1) := by decide +kernel
theorem dX10_journal_82 : decode cX10_journal 82 = .ok (.bipush 32, 2) := by decide +kernel
theorem dX10_journal_84 : decode cX10_journal 84 = .ok (.if_icmp .ge 7, 3) := by decide +kernel
theorem dX10_journal_87 : decode cX10_journal 87 = .ok (.iload_n 1, 1) := by decide +kernel
theorem dX10_journal_88 : decode cX10_journal 88 = .ok (.goto 5, 3) := by decide +kernel
theorem dX10_journal_91 : decode cX10_journal 91 = .ok (.bipush 32, 2) := by decide +kernel
theorem dX10_journal_93 : decode cX10_journal 93 = .ok (.iastore, 1) := by decide +kernel
theorem dX10_journal_94 : decode cX10_journal 94 = .ok (.aload_n 0, 1) := by decide +kernel
theorem dX10_journal_95 : decode cX10_journal 95 = .ok (.getfield 57, 3) := by decide +kernel
theorem dX10_journal_98 : decode cX10_journal 98 = .ok (.iload_n 3, 1) := by decide +kernel
theorem dX10_journal_99 : decode cX10_journal 99 = .ok (.iconst 1, 1) := by decide +kernel
theorem dX10_journal_100 : decode cX10_journal 100 = .ok (.iadd, 1) := by decide +kernel
theorem dX10_journal_101 : decode cX10_journal 101 = .ok (.iload_n 2, 1) := by decide +kernel
theorem dX10_journal_102 : decode cX10_journal 102 = .ok (.iastore, 1) := by decide +kernel
theorem dX10_journal_103 : decode cX10_journal 103 = .ok (.aload_n 0, 1) := by decide +kernel
theorem dX10_journal_104 : decode cX10_journal 104 = .ok (.getfield 57, 3) := by decide +kernel
theorem dX10_journal_107 : decode cX10_journal 107 = .ok (.iload_n 3, 1) := by decide +kernel
theorem dX10_journal_108 : decode cX10_journal 108 = .ok (.iconst 2, 1) := by decide +kernel
theorem dX10_journal_109 : decode cX10_journal 109 = .ok (.iadd, 1) := by decide +kernel
theorem dX10_journal_110 : decode cX10_journal 110 = .ok (.aload_n 0, 1) := by decide +kernel
theorem dX10_journal_111 : decode cX10_journal 111 = .ok (.getfield 57, 3) := by decide +kernel
theorem dX10_journal_114 : decode cX10_journal 114 = .ok (.sipush 220, 3) := by decide +kernel
theorem dX10_journal_117 : decode cX10_journal 117 = .ok (.iaload, 1) := by decide +kernel
theorem dX10_journal_118 : decode cX10_journal 118 = .ok (.iastore, 1) := by decide +kernel
theorem dX10_journal_119 : decode cX10_journal 119 = .ok (.aload_n 0, 1) := by decide +kernel
theorem dX10_journal_120 : decode cX10_journal 120 = .ok (.getfield 57, 3) := by decide +kernel
theorem dX10_journal_123 : decode cX10_journal 123 = .ok (.sipush 265, 3) := by decide +kernel
theorem dX10_journal_126 : decode cX10_journal 126 = .ok (.dup2, 1) := by decide +kernel
theorem dX10_journal_127 : decode cX10_journal 127 = .ok (.iaload, 1) := by decide +kernel
theorem dX10_journal_128 : decode cX10_journal 128 = .ok (.iconst 1, 1) := by decide +kernel
theorem dX10_journal_129 : decode cX10_journal 129 = .ok (.iadd, 1) := by decide +kernel
theorem dX10_journal_130 : decode cX10_journal 130 = .ok (.iastore, 1) := by decide +kernel
theorem dX10_journal_131 : decode cX10_journal 131 = .ok (.iload_n 1, 1) := by decide +kernel
theorem dX10_journal_132 : decode cX10_journal 132 = .ok (.bipush 32, 2) := by decide +kernel
theorem dX10_journal_134 : decode cX10_journal 134 = .ok (.if_icmp .lt 12, 3) := by decide +kernel
theorem dX10_journal_137 : decode cX10_journal 137 = .ok (.aload_n 0, 1) := by decide +kernel
theorem dX10_journal_138 : decode cX10_journal 138 = .ok (.getfield 57, 3) := by decide +kernel
theorem dX10_journal_141 : decode cX10_journal 141 = .ok (.sipush 232, 3) := by decide +kernel
theorem dX10_journal_144 : decode cX10_journal 144 = .ok (.iconst 1, 1) := by decide +kernel
theorem dX10_journal_145 : decode cX10_journal 145 = .ok (.iastore, 1) := by decide +kernel
theorem dX10_journal_146 : decode cX10_journal 146 = .ok (.return_, 1) := by decide +kernel
theorem dX10_leaves_0 : decode cX10_leaves 0 = .ok (.aload_n 0, 1) := by decide +kernel
theorem dX10_leaves_1 : decode cX10_leaves 1 = .ok (.iload_n 1, 1) := by decide +kernel
theorem dX10_leaves_2 : decode cX10_leaves 2 = .ok (.iload_n 2, 1) := by decide +kernel
theorem dX10_leaves_3 : decode cX10_leaves 3 = .ok (.invokevirtual 315, 3) := by decide +kernel
theorem dX10_leaves_6 : decode cX10_leaves 6 = .ok (.iload_n 1, 1) := by decide +kernel
theorem dX10_leaves_7 : decode cX10_leaves 7 = .ok (.bipush 32, 2) := by decide +kernel
theorem dX10_leaves_9 : decode cX10_leaves 9 = .ok (.if_icmp .ge 27, 3) := by decide +kernel
theorem dX10_leaves_12 : decode cX10_leaves 12 = .ok (.aload_n 0, 1) := by decide +kernel
theorem dX10_leaves_13 : decode cX10_leaves 13 = .ok (.getfield 57, 3) := by decide +kernel
theorem dX10_leaves_16 : decode cX10_leaves 16 = .ok (.sipush 146, 3) := by decide +kernel
theorem dX10_leaves_19 : decode cX10_leaves 19 = .ok (.iload_n 1, 1) := by decide +kernel
theorem dX10_leaves_20 : decode cX10_leaves 20 = .ok (.iadd, 1) := by decide +kernel
theorem dX10_leaves_21 : decode cX10_leaves 21 = .ok (.iload_n 2, 1) := by decide +kernel
theorem dX10_leaves_22 : decode cX10_leaves 22 = .ok (.iastore, 1) := by decide +kernel
theorem dX10_leaves_23 : decode cX10_leaves 23 = .ok (.aload_n 0, 1) := by decide +kernel
theorem dX10_leaves_24 : decode cX10_leaves 24 = .ok (.getfield 57, 3) := by decide +kernel
theorem dX10_leaves_27 : decode cX10_leaves 27 = .ok (.sipush 224, 3) := by decide +kernel
theorem dX10_leaves_30 : decode cX10_leaves 30 = .ok (.dup2, 1) := by decide +kernel
theorem dX10_leaves_31 : decode cX10_leaves 31 = .ok (.iaload, 1) := by decide +kernel
theorem dX10_leaves_32 : decode cX10_leaves 32 = .ok (.iconst 1, 1) := by decide +kernel
theorem dX10_leaves_33 : decode cX10_leaves 33 = .ok (.iadd, 1) := by decide +kernel
theorem dX10_leaves_34 : decode cX10_leaves 34 = .ok (.iastore, 1) := by decide +kernel
theorem dX10_leaves_35 : decode cX10_leaves 35 = .ok (.return_, 1) := by decide +kernel
theorem dX10_leaves_36 : decode cX10_leaves 36 = .ok (.aload_n 0, 1) := by decide +kernel
theorem dX10_leaves_37 : decode cX10_leaves 37 = .ok (.getfield 57, 3) := by decide +kernel
theorem dX10_leaves_40 : decode cX10_leaves 40 = .ok (.sipush 178, 3) := by decide +kernel
theorem dX10_leaves_43 : decode cX10_leaves 43 = .ok (.iaload, 1) := by decide +kernel
theorem dX10_leaves_44 : decode cX10_leaves 44 = .ok (.bipush 40, 2) := by decide +kernel
theorem dX10_leaves_46 : decode cX10_leaves 46 = .ok (.if_icmp .ne 51, 3) := by decide +kernel
theorem dX10_leaves_49 : decode cX10_leaves 49 = .ok (.iconst 1, 1) := by decide +kernel
theorem dX10_leaves_50 : decode cX10_leaves 50 = .ok (.istore_n 3, 1) := by decide +kernel
theorem dX10_leaves_51 : decode cX10_leaves 51 = .ok (.iload_n 3, 1) := by decide +kernel
theorem dX10_leaves_52 : decode cX10_leaves 52 = .ok (.bipush 40, 2) := by decide +kernel
theorem dX10_leaves_54 : decode cX10_leaves 54 = .ok (.if_icmp .ge 31, 3) := by decide +kernel
theorem dX10_leaves_57 : decode cX10_leaves 57 = .ok (.aload_n 0, 1) := by decide +kernel
theorem dX10_leaves_58 : decode cX10_leaves 58 = .ok (.getfield 57, 3) := by decide +kernel
theorem dX10_leaves_61 : decode cX10_leaves 61 = .ok (.sipush 179, 3) := by decide +kernel
theorem dX10_leaves_64 : decode cX10_leaves 64 = .ok (.iload_n 3, 1) := by decide +kernel
theorem dX10_leaves_65 : decode cX10_leaves 65 = .ok (.iadd, 1) := by decide +kernel
theorem dX10_leaves_66 : decode cX10_leaves 66 = .ok (.iconst 1, 1) := by decide +kernel
theorem dX10_leaves_67 : decode cX10_leaves 67 = .ok (.isub, 1) := by decide +kernel
theorem dX10_leaves_68 : decode cX10_leaves 68 = .ok (.aload_n 0, 1) := by decide +kernel
theorem dX10_leaves_69 : decode cX10_leaves 69 = .ok (.getfield 57, 3) := by decide +kernel
theorem dX10_leaves_72 : decode cX10_leaves 72 = .ok (.sipush 179, 3) := by decide +kernel
theorem dX10_leaves_75 : decode cX10_leaves 75 = .ok (.iload_n 3, 1) := by decide +kernel
theorem dX10_leaves_76 : decode cX10_leaves 76 = .ok (.iadd, 1) := by decide +kernel
theorem dX10_leaves_77 : decode cX10_leaves 77 = .ok (.iaload, 1) := by decide +kernel
theorem dX10_leaves_78 : decode cX10_leaves 78 = .ok (.iastore, 1) := by decide +kernel
theorem dX10_leaves_79 : decode cX10_leaves 79 = .ok (.iinc 3 1, 3) := by decide +kernel
theorem dX10_leaves_82 : decode cX10_leaves 82 = .ok (.goto (-31), 3) := by decide +kernel
theorem dX10_leaves_85 : decode cX10_leaves 85 = .ok (.aload_n 0, 1) := by decide +kernel
theorem dX10_leaves_86 : decode cX10_leaves 86 = .ok (.getfield 57, 3) := by decide +kernel
theorem dX10_leaves_89 : decode cX10_leaves 89 = .ok (.sipush 178, 3) := by decide +kernel
theorem dX10_leaves_92 : decode cX10_leaves 92 = .ok (.dup2, 1) := by decide +kernel
theorem dX10_leaves_93 : decode cX10_leaves 93 = .ok (.iaload, 1) := by decide +kernel
theorem dX10_leaves_94 : decode cX10_leaves 94 = .ok (.iconst 1, 1) := by decide +kernel
theorem dX10_leaves_95 : decode cX10_leaves 95 = .ok (.isub, 1) := by decide +kernel
theorem dX10_leaves_96 : decode cX10_leaves 96 = .ok (.iastore, 1) := by decide +kernel
theorem dX10_leaves_97 : decode cX10_leaves 97 = .ok (.aload_n 0, 1) := by decide +kernel
theorem dX10_leaves_98 : decode cX10_leaves 98 = .ok (.getfield 57, 3) := by decide +kernel
theorem dX10_leaves_101 : decode cX10_leaves 101 = .ok (.sipush 179, 3) := by decide +kernel
theorem dX10_leaves_104 : decode cX10_leaves 104 = .ok (.aload_n 0, 1) := by decide +kernel
theorem dX10_leaves_105 : decode cX10_leaves 105 = .ok (.getfield 57, 3) := by decide +kernel
theorem dX10_leaves_108 : decode cX10_leaves 108 = .ok (.sipush 178, 3) := by decide +kernel
theorem dX10_leaves_111 : decode cX10_leaves 111 = .ok (.iaload, 1) := by decide +kernel
theorem dX10_leaves_112 : decode cX10_leaves 112 = .ok (.iadd, 1) := by decide +kernel
theorem dX10_leaves_113 : decode cX10_leaves 113 = .ok (.iload_n 2, 1) := by decide +kernel
theorem dX10_leaves_114 : decode cX10_leaves 114 = .ok (.iastore, 1) := by decide +kernel
theorem dX10_leaves_115 : decode cX10_leaves 115 = .ok (.aload_n 0, 1) := by decide +kernel
theorem dX10_leaves_116 : decode cX10_leaves 116 = .ok (.getfield 57, 3) := by decide +kernel
theorem dX10_leaves_119 : decode cX10_leaves 119 = .ok (.sipush 178, 3) := by decide +kernel
theorem dX10_leaves_122 : decode cX10_leaves 122 = .ok (.dup2, 1) := by decide +kernel
theorem dX10_leaves_123 : decode cX10_leaves 123 = .ok (.iaload, 1) := by decide +kernel
theorem dX10_leaves_124 : decode cX10_leaves 124 = .ok (.iconst 1, 1) := by decide +kernel
theorem dX10_leaves_125 : decode cX10_leaves 125 = .ok (.iadd, 1) := by decide +kernel
theorem dX10_leaves_126 : decode cX10_leaves 126 = .ok (.iastore, 1) := by decide +kernel
theorem dX10_leaves_127 : decode cX10_leaves 127 = .ok (.aload_n 0, 1) := by decide +kernel
theorem dX10_leaves_128 : decode cX10_leaves 128 = .ok (.getfield 57, 3) := by decide +kernel
theorem dX10_leaves_131 : decode cX10_leaves 131 = .ok (.sipush 225, 3) := by decide +kernel
theorem dX10_leaves_134 : decode cX10_leaves 134 = .ok (.dup2, 1) := by decide +kernel
theorem dX10_leaves_135 : decode cX10_leaves 135 = .ok (.iaload, 1) := by decide +kernel
theorem dX10_leaves_136 : decode cX10_leaves 136 = .ok (.iconst 1, 1) := by decide +kernel
theorem dX10_leaves_137 : decode cX10_leaves 137 = .ok (.iadd, 1) := by decide +kernel
theorem dX10_leaves_138 : decode cX10_leaves 138 = .ok (.iastore, 1) := by decide +kernel
theorem dX10_leaves_139 : decode cX10_leaves 139 = .ok (.return_, 1) := by decide +kernel
theorem dX10_passes_0 : decode cX10_passes 0 = .ok (.aload_n 0, 1) := by decide +kernel
theorem dX10_passes_1 : decode cX10_passes 1 = .ok (.getfield 57, 3) := by decide +kernel
theorem dX10_passes_4 : decode cX10_passes 4 = .ok (.sipush 220, 3) := by decide +kernel
theorem dX10_passes_7 : decode cX10_passes 7 = .ok (.dup2, 1) := by decide +kernel
theorem dX10_passes_8 : decode cX10_passes 8 = .ok (.iaload, 1) := by decide +kernel
theorem dX10_passes_9 : decode cX10_passes 9 = .ok (.iconst 1, 1) := by decide +kernel
theorem dX10_passes_10 : decode cX10_passes 10 = .ok (.iadd, 1) := by decide +kernel
theorem dX10_passes_11 : decode cX10_passes 11 = .ok (.iastore, 1) := by decide +kernel
theorem dX10_passes_12 : decode cX10_passes 12 = .ok (.iconst 0, 1) := by decide +kernel
theorem dX10_passes_13 : decode cX10_passes 13 = .ok (.istore_n 1, 1) := by decide +kernel
theorem dX10_passes_14 : decode cX10_passes 14 = .ok (.iload_n 1, 1) := by decide +kernel
theorem dX10_passes_15 : decode cX10_passes 15 = .ok (.aload_n 0, 1) := by decide +kernel
theorem dX10_passes_16 : decode cX10_passes 16 = .ok (.getfield 57, 3) := by decide +kernel
theorem dX10_passes_19 : decode cX10_passes 19 = .ok (.bipush 112, 2) := by decide +kernel
theorem dX10_passes_21 : decode cX10_passes 21 = .ok (.iaload, 1) := by decide +kernel
theorem dX10_passes_22 : decode cX10_passes 22 = .ok (.if_icmp .ge 31, 3) := by decide +kernel
theorem dX10_passes_25 : decode cX10_passes 25 = .ok (.aload_n 0, 1) := by decide +kernel
theorem dX10_passes_26 : decode cX10_passes 26 = .ok (.aload_n 0, 1) := by decide +kernel
theorem dX10_passes_27 : decode cX10_passes 27 = .ok (.getfield 57, 3) := by decide +kernel
theorem dX10_passes_30 : decode cX10_passes 30 = .ok (.bipush 114, 2) := by decide +kernel
theorem dX10_passes_32 : decode cX10_passes 32 = .ok (.iload_n 1, 1) := by decide +kernel
theorem dX10_passes_33 : decode cX10_passes 33 = .ok (.iadd, 1) := by decide +kernel
theorem dX10_passes_34 : decode cX10_passes 34 = .ok (.iaload, 1) := by decide +kernel
theorem dX10_passes_35 : decode cX10_passes 35 = .ok (.aload_n 0, 1) := by decide +kernel
theorem dX10_passes_36 : decode cX10_passes 36 = .ok (.getfield 57, 3) := by decide +kernel
theorem dX10_passes_39 : decode cX10_passes 39 = .ok (.bipush 122, 2) := by decide +kernel
theorem dX10_passes_41 : decode cX10_passes 41 = .ok (.iload_n 1, 1) := by decide +kernel
theorem dX10_passes_42 : decode cX10_passes 42 = .ok (.iadd, 1) := by decide +kernel
theorem dX10_passes_43 : decode cX10_passes 43 = .ok (.iaload, 1) := by decide +kernel
theorem dX10_passes_44 : decode cX10_passes 44 = .ok (.invokevirtual 318, 3) := by decide +kernel
theorem dX10_passes_47 : decode cX10_passes 47 = .ok (.iinc 1 1, 3) := by decide +kernel
theorem dX10_passes_50 : decode cX10_passes 50 = .ok (.goto (-36), 3) := by decide +kernel
theorem dX10_passes_53 : decode cX10_passes 53 = .ok (.aload_n 0, 1) := by decide +kernel
theorem dX10_passes_54 : decode cX10_passes 54 = .ok (.getfield 57, 3) := by decide +kernel
theorem dX10_passes_57 : decode cX10_passes 57 = .ok (.sipush 231, 3) := by decide +kernel
theorem dX10_passes_60 : decode cX10_passes 60 = .ok (.dup2, 1) := by decide +kernel
theorem dX10_passes_61 : decode cX10_passes 61 = .ok (.iaload, 1) := by decide +kernel
theorem dX10_passes_62 : decode cX10_passes 62 = .ok (.aload_n 0, 1) := by decide +kernel
theorem dX10_passes_63 : decode cX10_passes 63 = .ok (.getfield 57, 3) := by decide +kernel
theorem dX10_passes_66 : decode cX10_passes 66 = .ok (.iconst 2, 1) := by decide +kernel
theorem dX10_passes_67 : decode cX10_passes 67 = .ok (.iaload, 1) := by decide +kernel
theorem dX10_passes_68 : decode cX10_passes 68 = .ok (.iadd, 1) := by decide +kernel
theorem dX10_passes_69 : decode cX10_passes 69 = .ok (.iastore, 1) := by decide +kernel
theorem dX10_passes_70 : decode cX10_passes 70 = .ok (.aload_n 0, 1) := by decide +kernel
theorem dX10_passes_71 : decode cX10_passes 71 = .ok (.getfield 57, 3) := by decide +kernel
theorem dX10_passes_74 : decode cX10_passes 74 = .ok (.sipush 222, 3) := by decide +kernel
theorem dX10_passes_77 : decode cX10_passes 77 = .ok (.iconst 0, 1) := by decide +kernel
theorem dX10_passes_78 : decode cX10_passes 78 = .ok (.iastore, 1) := by decide +kernel
theorem dX10_passes_79 : decode cX10_passes 79 = .ok (.iconst 0, 1) := by decide +kernel
theorem dX10_passes_80 : decode cX10_passes 80 = .ok (.istore_n 1, 1) := by decide +kernel
theorem dX10_passes_81 : decode cX10_passes 81 = .ok (.iload_n 1, 1) := by decide +kernel
theorem dX10_passes_82 : decode cX10_passes 82 = .ok (.iconst 2, 1) := by decide +kernel
theorem dX10_passes_83 : decode cX10_passes 83 = .ok (.if_icmp .ge 35, 3) := by decide +kernel
theorem dX10_passes_86 : decode cX10_passes 86 = .ok (.aload_n 0, 1) := by decide +kernel
theorem dX10_passes_87 : decode cX10_passes 87 = .ok (.getfield 57, 3) := by decide +kernel
theorem dX10_passes_90 : decode cX10_passes 90 = .ok (.bipush 28, 2) := by decide +kernel
theorem dX10_passes_92 : decode cX10_passes 92 = .ok (.iload_n 1, 1) := by decide +kernel
theorem dX10_passes_93 : decode cX10_passes 93 = .ok (.iadd, 1) := by decide +kernel
theorem dX10_passes_94 : decode cX10_passes 94 = .ok (.aload_n 0, 1) := by decide +kernel
theorem dX10_passes_95 : decode cX10_passes 95 = .ok (.getfield 57, 3) := by decide +kernel
theorem dX10_passes_98 : decode cX10_passes 98 = .ok (.iconst 0, 1) := by decide +kernel
theorem dX10_passes_99 : decode cX10_passes 99 = .ok (.iload_n 1, 1) := by decide +kernel
theorem dX10_passes_100 : decode cX10_passes 100 = .ok (.iadd, 1) := by decide +kernel
theorem dX10_passes_101 : decode cX10_passes 101 = .ok (.iaload, 1) := by decide +kernel
theorem dX10_passes_102 : decode cX10_passes 102 = .ok (.iastore, 1) := by decide +kernel
theorem dX10_passes_103 : decode cX10_passes 103 = .ok (.aload_n 0, 1) := by decide +kernel
theorem dX10_passes_104 : decode cX10_passes 104 = .ok (.getfield 57, 3) := by decide +kernel
theorem dX10_passes_107 : decode cX10_passes 107 = .ok (.iconst 2, 1) := by decide +kernel
theorem dX10_passes_108 : decode cX10_passes 108 = .ok (.iload_n 1, 1) := by decide +kernel
theorem dX10_passes_109 : decode cX10_passes 109 = .ok (.iadd, 1) := by decide +kernel
theorem dX10_passes_110 : decode cX10_passes 110 = .ok (.iconst 0, 1) := by decide +kernel
theorem dX10_passes_111 : decode cX10_passes 111 = .ok (.iastore, 1) := by decide +kernel
theorem dX10_passes_112 : decode cX10_passes 112 = .ok (.iinc 1 1, 3) := by decide +kernel
theorem dX10_passes_115 : decode cX10_passes 115 = .ok (.goto (-34), 3) := by decide +kernel
theorem dX10_passes_118 : decode cX10_passes 118 = .ok (.iconst 0, 1) := by decide +kernel
theorem dX10_passes_119 : decode cX10_passes 119 = .ok (.istore_n 1, 1) := by decide +kernel
theorem dX10_passes_120 : decode cX10_passes 120 = .ok (.iload_n 1, 1) := by decide +kernel
theorem dX10_passes_121 : decode cX10_passes 121 = .ok (.bipush 16, 2) := by decide +kernel
theorem dX10_passes_123 : decode cX10_passes 123 = .ok (.if_icmp .ge 26, 3) := by decide +kernel
theorem dX10_passes_126 : decode cX10_passes 126 = .ok (.aload_n 0, 1) := by decide +kernel
theorem dX10_passes_127 : decode cX10_passes 127 = .ok (.getfield 57, 3) := by decide +kernel
theorem dX10_passes_130 : decode cX10_passes 130 = .ok (.bipush 30, 2) := by decide +kernel
theorem dX10_passes_132 : decode cX10_passes 132 = .ok (.iload_n 1, 1) := by decide +kernel
theorem dX10_passes_133 : decode cX10_passes 133 = .ok (.iadd, 1) := by decide +kernel
theorem dX10_passes_134 : decode cX10_passes 134 = .ok (.aload_n 0, 1) := by decide +kernel
theorem dX10_passes_135 : decode cX10_passes 135 = .ok (.getfield 57, 3) := by decide +kernel
theorem dX10_passes_138 : decode cX10_passes 138 = .ok (.iconst 4, 1) := by decide +kernel
theorem dX10_passes_139 : decode cX10_passes 139 = .ok (.iload_n 1, 1) := by decide +kernel
theorem dX10_passes_140 : decode cX10_passes 140 = .ok (.iadd, 1) := by decide +kernel
theorem dX10_passes_141 : decode cX10_passes 141 = .ok (.iaload, 1) := by decide +kernel
theorem dX10_passes_142 : decode cX10_passes 142 = .ok (.iastore, 1) := by decide +kernel
theorem dX10_passes_143 : decode cX10_passes 143 = .ok (.iinc 1 1, 3) := by decide +kernel
theorem dX10_passes_146 : decode cX10_passes 146 = .ok (.goto (-26), 3) := by decide +kernel
theorem dX10_passes_149 : decode cX10_passes 149 = .ok (.iconst 0, 1) := by decide +kernel
theorem dX10_passes_150 : decode cX10_passes 150 = .ok (.istore_n 1, 1) := by decide +kernel
theorem dX10_passes_151 : decode cX10_passes 151 = .ok (.iload_n 1, 1) := by decide +kernel
theorem dX10_passes_152 : decode cX10_passes 152 = .ok (.bipush 8, 2) := by decide +kernel
theorem dX10_passes_154 : decode cX10_passes 154 = .ok (.if_icmp .ge 27, 3) := by decide +kernel
theorem dX10_passes_157 : decode cX10_passes 157 = .ok (.aload_n 0, 1) := by decide +kernel
theorem dX10_passes_158 : decode cX10_passes 158 = .ok (.getfield 57, 3) := by decide +kernel
theorem dX10_passes_161 : decode cX10_passes 161 = .ok (.bipush 46, 2) := by decide +kernel
theorem dX10_passes_163 : decode cX10_passes 163 = .ok (.iload_n 1, 1) := by decide +kernel
theorem dX10_passes_164 : decode cX10_passes 164 = .ok (.iadd, 1) := by decide +kernel
theorem dX10_passes_165 : decode cX10_passes 165 = .ok (.aload_n 0, 1) := by decide +kernel
theorem dX10_passes_166 : decode cX10_passes 166 = .ok (.getfield 57, 3) := by decide +kernel
theorem dX10_passes_169 : decode cX10_passes 169 = .ok (.bipush 20, 2) := by decide +kernel
theorem dX10_passes_171 : decode cX10_passes 171 = .ok (.iload_n 1, 1) := by decide +kernel
theorem dX10_passes_172 : decode cX10_passes 172 = .ok (.iadd, 1) := by decide +kernel
theorem dX10_passes_173 : decode cX10_passes 173 = .ok (.iaload, 1) := by decide +kernel
theorem dX10_passes_174 : decode cX10_passes 174 = .ok (.iastore, 1) := by decide +kernel
theorem dX10_passes_175 : decode cX10_passes 175 = .ok (.iinc 1 1, 3) := by decide +kernel
theorem dX10_passes_178 : decode cX10_passes 178 = .ok (.goto (-27), 3) := by decide +kernel
theorem dX10_passes_181 : decode cX10_passes 181 = .ok (.aload_n 0, 1) := by decide +kernel
theorem dX10_passes_182 : decode cX10_passes 182 = .ok (.invokevirtual 321, 3) := by decide +kernel
theorem dX10_passes_185 : decode cX10_passes 185 = .ok (.aload_n 0, 1) := by decide +kernel
theorem dX10_passes_186 : decode cX10_passes 186 = .ok (.iconst 0, 1) := by decide +kernel
theorem dX10_passes_187 : decode cX10_passes 187 = .ok (.invokevirtual 262, 3) := by decide +kernel
theorem dX10_passes_190 : decode cX10_passes 190 = .ok (.ifCond .eq 20, 3) := by decide +kernel
theorem dX10_passes_193 : decode cX10_passes 193 = .ok (.aload_n 0, 1) := by decide +kernel
theorem dX10_passes_194 : decode cX10_passes 194 = .ok (.iconst 1, 1) := by decide +kernel
theorem dX10_passes_195 : decode cX10_passes 195 = .ok (.invokevirtual 262, 3) := by decide +kernel
theorem dX10_passes_198 : decode cX10_passes 198 = .ok (.ifCond .eq 12, 3) := by decide +kernel
theorem dX10_passes_201 : decode cX10_passes 201 = .ok (.aload_n 0, 1) := by decide +kernel
theorem dX10_passes_202 : decode cX10_passes 202 = .ok (.getfield 57, 3) := by decide +kernel
theorem dX10_passes_205 : decode cX10_passes 205 = .ok (.sipush 226, 3) := by decide +kernel
theorem dX10_passes_208 : decode cX10_passes 208 = .ok (.iconst 1, 1) := by decide +kernel
theorem dX10_passes_209 : decode cX10_passes 209 = .ok (.iastore, 1) := by decide +kernel
theorem dX10_passes_210 : decode cX10_passes 210 = .ok (.return_, 1) := by decide +kernel
theorem dX10_empties_0 : decode cX10_empties 0 = .ok (.aload_n 0, 1) := by decide +kernel
theorem dX10_empties_1 : decode cX10_empties 1 = .ok (.getfield 57, 3) := by decide +kernel
theorem dX10_empties_4 : decode cX10_empties 4 = .ok (.bipush 86, 2) := by decide +kernel
theorem dX10_empties_6 : decode cX10_empties 6 = .ok (.iconst 0, 1) := by decide +kernel
theorem dX10_empties_7 : decode cX10_empties 7 = .ok (.iastore, 1) := by decide +kernel
theorem dX10_empties_8 : decode cX10_empties 8 = .ok (.aload_n 0, 1) := by decide +kernel
theorem dX10_empties_9 : decode cX10_empties 9 = .ok (.getfield 57, 3) := by decide +kernel
theorem dX10_empties_12 : decode cX10_empties 12 = .ok (.bipush 103, 2) := by decide +kernel
theorem dX10_empties_14 : decode cX10_empties 14 = .ok (.iconst 0, 1) := by decide +kernel
theorem dX10_empties_15 : decode cX10_empties 15 = .ok (.iastore, 1) := by decide +kernel
theorem dX10_empties_16 : decode cX10_empties 16 = .ok (.aload_n 0, 1) := by decide +kernel
theorem dX10_empties_17 : decode cX10_empties 17 = .ok (.getfield 57, 3) := by decide +kernel
theorem dX10_empties_20 : decode cX10_empties 20 = .ok (.bipush 112, 2) := by decide +kernel
theorem dX10_empties_22 : decode cX10_empties 22 = .ok (.iconst 0, 1) := by decide +kernel
theorem dX10_empties_23 : decode cX10_empties 23 = .ok (.iastore, 1) := by decide +kernel
theorem dX10_empties_24 : decode cX10_empties 24 = .ok (.aload_n 0, 1) := by decide +kernel
theorem dX10_empties_25 : decode cX10_empties 25 = .ok (.getfield 57, 3) := by decide +kernel
theorem dX10_empties_28 : decode cX10_empties 28 = .ok (.bipush 113, 2) := by decide +kernel
theorem dX10_empties_30 : decode cX10_empties 30 = .ok (.iconst 0, 1) := by decide +kernel
theorem dX10_empties_31 : decode cX10_empties 31 = .ok (.iastore, 1) := by decide +kernel
theorem dX10_empties_32 : decode cX10_empties 32 = .ok (.return_, 1) := by decide +kernel
theorem dX10_alarms_0 : decode cX10_alarms 0 = .ok (.bipush 31, 2) := by decide +kernel
theorem dX10_alarms_2 : decode cX10_alarms 2 = .ok (.istore 4, 2) := by decide +kernel
theorem dX10_alarms_4 : decode cX10_alarms 4 = .ok (.iload 4, 2) := by decide +kernel
theorem dX10_alarms_6 : decode cX10_alarms 6 = .ok (.iconst 4, 1) := by decide +kernel
theorem dX10_alarms_7 : decode cX10_alarms 7 = .ok (.if_icmp .lt 33, 3) := by decide +kernel
theorem dX10_alarms_10 : decode cX10_alarms 10 = .ok (.aload_n 0, 1) := by decide +kernel
theorem dX10_alarms_11 : decode cX10_alarms 11 = .ok (.getfield 57, 3) := by decide +kernel
theorem dX10_alarms_14 : decode cX10_alarms 14 = .ok (.sipush 233, 3) := by decide +kernel
theorem dX10_alarms_17 : decode cX10_alarms 17 = .ok (.iload 4, 2) := by decide +kernel
theorem dX10_alarms_19 : decode cX10_alarms 19 = .ok (.iadd, 1) := by decide +kernel
theorem dX10_alarms_20 : decode cX10_alarms 20 = .ok (.aload_n 0, 1) := by decide +kernel
theorem dX10_alarms_21 : decode cX10_alarms 21 = .ok (.getfield 57, 3) := by decide +kernel
theorem dX10_alarms_24 : decode cX10_alarms 24 = .ok (.sipush 233, 3) := by decide +kernel
theorem dX10_alarms_27 : decode cX10_alarms 27 = .ok (.iload 4, 2) := by decide +kernel
theorem dX10_alarms_29 : decode cX10_alarms 29 = .ok (.iadd, 1) := by decide +kernel
theorem dX10_alarms_30 : decode cX10_alarms 30 = .ok (.iconst 4, 1) := by decide +kernel
theorem dX10_alarms_31 : decode cX10_alarms 31 = .ok (.isub, 1) := by decide +kernel
theorem dX10_alarms_32 : decode cX10_alarms 32 = .ok (.iaload, 1) := by decide +kernel
theorem dX10_alarms_33 : decode cX10_alarms 33 = .ok (.iastore, 1) := by decide +kernel
theorem dX10_alarms_34 : decode cX10_alarms 34 = .ok (.iinc 4 (-1), 3) := by decide +kernel
theorem dX10_alarms_37 : decode cX10_alarms 37 = .ok (.goto (-33), 3) := by decide +kernel
theorem dX10_alarms_40 : decode cX10_alarms 40 = .ok (.aload_n 0, 1) := by decide +kernel
theorem dX10_alarms_41 : decode cX10_alarms 41 = .ok (.getfield 57, 3) := by decide +kernel
theorem dX10_alarms_44 : decode cX10_alarms 44 = .ok (.sipush 233, 3) := by decide +kernel
theorem dX10_alarms_47 : decode cX10_alarms 47 = .ok (.iload_n 1, 1) := by decide +kernel
theorem dX10_alarms_48 : decode cX10_alarms 48 = .ok (.iastore, 1) := by decide +kernel
theorem dX10_alarms_49 : decode cX10_alarms 49 = .ok (.aload_n 0, 1) := by decide +kernel
theorem dX10_alarms_50 : decode cX10_alarms 50 = .ok (.getfield 57, 3) := by decide +kernel
theorem dX10_alarms_53 : decode cX10_alarms 53 = .ok (.sipush 234, 3) := by decide +kernel
theorem dX10_alarms_56 : decode cX10_alarms 56 = .ok (.aload_n 0, 1) := by decide +kernel
theorem dX10_alarms_57 : decode cX10_alarms 57 = .ok (.getfield 57, 3) := by decide +kernel
theorem dX10_alarms_60 : decode cX10_alarms 60 = .ok (.sipush 219, 3) := by decide +kernel
theorem dX10_alarms_63 : decode cX10_alarms 63 = .ok (.iaload, 1) := by decide +kernel
theorem dX10_alarms_64 : decode cX10_alarms 64 = .ok (.iastore, 1) := by decide +kernel
theorem dX10_alarms_65 : decode cX10_alarms 65 = .ok (.aload_n 0, 1) := by decide +kernel
theorem dX10_alarms_66 : decode cX10_alarms 66 = .ok (.getfield 57, 3) := by decide +kernel
theorem dX10_alarms_69 : decode cX10_alarms 69 = .ok (.sipush 235, 3) := by decide +kernel
theorem dX10_alarms_72 : decode cX10_alarms 72 = .ok (.iload_n 2, 1) := by decide +kernel
theorem dX10_alarms_73 : decode cX10_alarms 73 = .ok (.iastore, 1) := by decide +kernel
theorem dX10_alarms_74 : decode cX10_alarms 74 = .ok (.aload_n 0, 1) := by decide +kernel
theorem dX10_alarms_75 : decode cX10_alarms 75 = .ok (.getfield 57, 3) := by decide +kernel
theorem dX10_alarms_78 : decode cX10_alarms 78 = .ok (.sipush 236, 3) := by decide +kernel
theorem dX10_alarms_81 : decode cX10_alarms 81 = .ok (.iload_n 3, 1) := by decide +kernel
theorem dX10_alarms_82 : decode cX10_alarms 82 = .ok (.iastore, 1) := by decide +kernel
theorem dX10_alarms_83 : decode cX10_alarms 83 = .ok (.aload_n 0, 1) := by decide +kernel
theorem dX10_alarms_84 : decode cX10_alarms 84 = .ok (.getfield 57, 3) := by decide +kernel
theorem dX10_alarms_87 : decode cX10_alarms 87 = .ok (.sipush 221, 3) := by decide +kernel
theorem dX10_alarms_90 : decode cX10_alarms 90 = .ok (.dup2, 1) := by decide +kernel
theorem dX10_alarms_91 : decode cX10_alarms 91 = .ok (.iaload, 1) := by decide +kernel
theorem dX10_alarms_92 : decode cX10_alarms 92 = .ok (.iconst 1, 1) := by decide +kernel
theorem dX10_alarms_93 : decode cX10_alarms 93 = .ok (.iadd, 1) := by decide +kernel
theorem dX10_alarms_94 : decode cX10_alarms 94 = .ok (.iastore, 1) := by decide +kernel
theorem dX10_alarms_95 : decode cX10_alarms 95 = .ok (.aload_n 0, 1) := by decide +kernel
theorem dX10_alarms_96 : decode cX10_alarms 96 = .ok (.getfield 57, 3) := by decide +kernel
theorem dX10_alarms_99 : decode cX10_alarms 99 = .ok (.sipush 222, 3) := by decide +kernel
theorem dX10_alarms_102 : decode cX10_alarms 102 = .ok (.dup2, 1) := by decide +kernel
theorem dX10_alarms_103 : decode cX10_alarms 103 = .ok (.iaload, 1) := by decide +kernel
theorem dX10_alarms_104 : decode cX10_alarms 104 = .ok (.iconst 1, 1) := by decide +kernel
theorem dX10_alarms_105 : decode cX10_alarms 105 = .ok (.iadd, 1) := by decide +kernel
theorem dX10_alarms_106 : decode cX10_alarms 106 = .ok (.iastore, 1) := by decide +kernel
theorem dX10_alarms_107 : decode cX10_alarms 107 = .ok (.iconst 0, 1) := by decide +kernel
theorem dX10_alarms_108 : decode cX10_alarms 108 = .ok (.istore 4, 2) := by decide +kernel
theorem dX10_alarms_110 : decode cX10_alarms 110 = .ok (.iload 4, 2) := by decide +kernel
theorem dX10_alarms_112 : decode cX10_alarms 112 = .ok (.iconst 2, 1) := by decide +kernel
theorem dX10_alarms_113 : decode cX10_alarms 113 = .ok (.if_icmp .ge 38, 3) := by decide +kernel
theorem dX10_alarms_116 : decode cX10_alarms 116 = .ok (.aload_n 0, 1) := by decide +kernel
theorem dX10_alarms_117 : decode cX10_alarms 117 = .ok (.getfield 57, 3) := by decide +kernel
theorem dX10_alarms_120 : decode cX10_alarms 120 = .ok (.iconst 0, 1) := by decide +kernel
theorem dX10_alarms_121 : decode cX10_alarms 121 = .ok (.iload 4, 2) := by decide +kernel
theorem dX10_alarms_123 : decode cX10_alarms 123 = .ok (.iadd, 1) := by decide +kernel
theorem dX10_alarms_124 : decode cX10_alarms 124 = .ok (.aload_n 0, 1) := by decide +kernel
theorem dX10_alarms_125 : decode cX10_alarms 125 = .ok (.getfield 57, 3) := by decide +kernel
theorem dX10_alarms_128 : decode cX10_alarms 128 = .ok (.bipush 28, 2) := by decide +kernel
theorem dX10_alarms_130 : decode cX10_alarms 130 = .ok (.iload 4, 2) := by decide +kernel
theorem dX10_alarms_132 : decode cX10_alarms 132 = .ok (.iadd, 1) := by decide +kernel
theorem dX10_alarms_133 : decode cX10_alarms 133 = .ok (.iaload, 1) := by decide +kernel
theorem dX10_alarms_134 : decode cX10_alarms 134 = .ok (.iastore, 1) := by decide +kernel
theorem dX10_alarms_135 : decode cX10_alarms 135 = .ok (.aload_n 0, 1) := by decide +kernel
theorem dX10_alarms_136 : decode cX10_alarms 136 = .ok (.getfield 57, 3) := by decide +kernel
theorem dX10_alarms_139 : decode cX10_alarms 139 = .ok (.iconst 2, 1) := by decide +kernel
theorem dX10_alarms_140 : decode cX10_alarms 140 = .ok (.iload 4, 2) := by decide +kernel
theorem dX10_alarms_142 : decode cX10_alarms 142 = .ok (.iadd, 1) := by decide +kernel
theorem dX10_alarms_143 : decode cX10_alarms 143 = .ok (.iconst 0, 1) := by decide +kernel
theorem dX10_alarms_144 : decode cX10_alarms 144 = .ok (.iastore, 1) := by decide +kernel
theorem dX10_alarms_145 : decode cX10_alarms 145 = .ok (.iinc 4 1, 3) := by decide +kernel
theorem dX10_alarms_148 : decode cX10_alarms 148 = .ok (.goto (-38), 3) := by decide +kernel
theorem dX10_alarms_151 : decode cX10_alarms 151 = .ok (.iconst 0, 1) := by decide +kernel
theorem dX10_alarms_152 : decode cX10_alarms 152 = .ok (.istore 4, 2) := by decide +kernel
theorem dX10_alarms_154 : decode cX10_alarms 154 = .ok (.iload 4, 2) := by decide +kernel
theorem dX10_alarms_156 : decode cX10_alarms 156 = .ok (.bipush 16, 2) := by decide +kernel
theorem dX10_alarms_158 : decode cX10_alarms 158 = .ok (.if_icmp .ge 28, 3) := by decide +kernel
theorem dX10_alarms_161 : decode cX10_alarms 161 = .ok (.aload_n 0, 1) := by decide +kernel
theorem dX10_alarms_162 : decode cX10_alarms 162 = .ok (.getfield 57, 3) := by decide +kernel
theorem dX10_alarms_165 : decode cX10_alarms 165 = .ok (.iconst 4, 1) := by decide +kernel
theorem dX10_alarms_166 : decode cX10_alarms 166 = .ok (.iload 4, 2) := by decide +kernel
theorem dX10_alarms_168 : decode cX10_alarms 168 = .ok (.iadd, 1) := by decide +kernel
theorem dX10_alarms_169 : decode cX10_alarms 169 = .ok (.aload_n 0, 1) := by decide +kernel
theorem dX10_alarms_170 : decode cX10_alarms 170 = .ok (.getfield 57, 3) := by decide +kernel
theorem dX10_alarms_173 : decode cX10_alarms 173 = .ok (.bipush 30, 2) := by decide +kernel
theorem dX10_alarms_175 : decode cX10_alarms 175 = .ok (.iload 4, 2) := by decide +kernel
theorem dX10_alarms_177 : decode cX10_alarms 177 = .ok (.iadd, 1) := by decide +kernel
theorem dX10_alarms_178 : decode cX10_alarms 178 = .ok (.iaload, 1) := by decide +kernel
theorem dX10_alarms_179 : decode cX10_alarms 179 = .ok (.iastore, 1) := by decide +kernel
theorem dX10_alarms_180 : decode cX10_alarms 180 = .ok (.iinc 4 1, 3) := by decide +kernel
theorem dX10_alarms_183 : decode cX10_alarms 183 = .ok (.goto (-29), 3) := by decide +kernel
theorem dX10_alarms_186 : decode cX10_alarms 186 = .ok (.iconst 0, 1) := by decide +kernel
theorem dX10_alarms_187 : decode cX10_alarms 187 = .ok (.istore 4, 2) := by decide +kernel
theorem dX10_alarms_189 : decode cX10_alarms 189 = .ok (.iload 4, 2) := by decide +kernel
theorem dX10_alarms_191 : decode cX10_alarms 191 = .ok (.bipush 8, 2) := by decide +kernel
theorem dX10_alarms_193 : decode cX10_alarms 193 = .ok (.if_icmp .ge 29, 3) := by decide +kernel
theorem dX10_alarms_196 : decode cX10_alarms 196 = .ok (.aload_n 0, 1) := by decide +kernel
theorem dX10_alarms_197 : decode cX10_alarms 197 = .ok (.getfield 57, 3) := by decide +kernel
theorem dX10_alarms_200 : decode cX10_alarms 200 = .ok (.bipush 20, 2) := by decide +kernel
theorem dX10_alarms_202 : decode cX10_alarms 202 = .ok (.iload 4, 2) := by decide +kernel
theorem dX10_alarms_204 : decode cX10_alarms 204 = .ok (.iadd, 1) := by decide +kernel
theorem dX10_alarms_205 : decode cX10_alarms 205 = .ok (.aload_n 0, 1) := by decide +kernel
theorem dX10_alarms_206 : decode cX10_alarms 206 = .ok (.getfield 57, 3) := by decide +kernel
theorem dX10_alarms_209 : decode cX10_alarms 209 = .ok (.bipush 46, 2) := by decide +kernel
theorem dX10_alarms_211 : decode cX10_alarms 211 = .ok (.iload 4, 2) := by decide +kernel
theorem dX10_alarms_213 : decode cX10_alarms 213 = .ok (.iadd, 1) := by decide +kernel
theorem dX10_alarms_214 : decode cX10_alarms 214 = .ok (.iaload, 1) := by decide +kernel
theorem dX10_alarms_215 : decode cX10_alarms 215 = .ok (.iastore, 1) := by decide +kernel
theorem dX10_alarms_216 : decode cX10_alarms 216 = .ok (.iinc 4 1, 3) := by decide +kernel
theorem dX10_alarms_219 : decode cX10_alarms 219 = .ok (.goto (-30), 3) := by decide +kernel
theorem dX10_alarms_222 : decode cX10_alarms 222 = .ok (.aload_n 0, 1) := by decide +kernel
theorem dX10_alarms_223 : decode cX10_alarms 223 = .ok (.invokevirtual 321, 3) := by decide +kernel
theorem dX10_alarms_226 : decode cX10_alarms 226 = .ok (.aload_n 0, 1) := by decide +kernel
theorem dX10_alarms_227 : decode cX10_alarms 227 = .ok (.invokevirtual 312, 3) := by decide +kernel
theorem dX10_alarms_230 : decode cX10_alarms 230 = .ok (.aload_n 0, 1) := by decide +kernel
theorem dX10_alarms_231 : decode cX10_alarms 231 = .ok (.getfield 57, 3) := by decide +kernel
theorem dX10_alarms_234 : decode cX10_alarms 234 = .ok (.sipush 222, 3) := by decide +kernel
theorem dX10_alarms_237 : decode cX10_alarms 237 = .ok (.iaload, 1) := by decide +kernel
theorem dX10_alarms_238 : decode cX10_alarms 238 = .ok (.aload_n 0, 1) := by decide +kernel
theorem dX10_alarms_239 : decode cX10_alarms 239 = .ok (.getfield 13, 3) := by decide +kernel
theorem dX10_alarms_242 : decode cX10_alarms 242 = .ok (.bipush 6, 2) := by decide +kernel
theorem dX10_alarms_244 : decode cX10_alarms 244 = .ok (.iaload, 1) := by decide +kernel
theorem dX10_alarms_245 : decode cX10_alarms 245 = .ok (.if_icmp .ne 12, 3) := by decide +kernel
theorem dX10_alarms_248 : decode cX10_alarms 248 = .ok (.aload_n 0, 1) := by decide +kernel
theorem dX10_alarms_249 : decode cX10_alarms 249 = .ok (.getfield 57, 3) := by decide +kernel
theorem dX10_alarms_252 : decode cX10_alarms 252 = .ok (.sipush 227, 3) := by decide +kernel
theorem dX10_alarms_255 : decode cX10_alarms 255 = .ok (.iconst 1, 1) := by decide +kernel
theorem dX10_alarms_256 : decode cX10_alarms 256 = .ok (.iastore, 1) := by decide +kernel
theorem dX10_alarms_257 : decode cX10_alarms 257 = .ok (.return_, 1) := by decide +kernel
theorem dX10_isOver_0 : decode cX10_isOver 0 = .ok (.aload_n 0, 1) := by decide +kernel
theorem dX10_isOver_1 : decode cX10_isOver 1 = .ok (.getfield 57, 3) := by decide +kernel
theorem dX10_isOver_4 : decode cX10_isOver 4 = .ok (.sipush 226, 3) := by decide +kernel
theorem dX10_isOver_7 : decode cX10_isOver 7 = .ok (.iaload, 1) := by decide +kernel
theorem dX10_isOver_8 : decode cX10_isOver 8 = .ok (.iconst 1, 1) := by decide +kernel
theorem dX10_isOver_9 : decode cX10_isOver 9 = .ok (.if_icmp .eq 15, 3) := by decide +kernel
theorem dX10_isOver_12 : decode cX10_isOver 12 = .ok (.aload_n 0, 1) := by decide +kernel
theorem dX10_isOver_13 : decode cX10_isOver 13 = .ok (.getfield 57, 3) := by decide +kernel
theorem dX10_isOver_16 : decode cX10_isOver 16 = .ok (.sipush 227, 3) := by decide +kernel
theorem dX10_isOver_19 : decode cX10_isOver 19 = .ok (.iaload, 1) := by decide +kernel
theorem dX10_isOver_20 : decode cX10_isOver 20 = .ok (.iconst 1, 1) := by decide +kernel
theorem dX10_isOver_21 : decode cX10_isOver 21 = .ok (.if_icmp .ne 7, 3) := by decide +kernel
theorem dX10_isOver_24 : decode cX10_isOver 24 = .ok (.iconst 1, 1) := by decide +kernel
theorem dX10_isOver_25 : decode cX10_isOver 25 = .ok (.goto 4, 3) := by decide +kernel
theorem dX10_isOver_28 : decode cX10_isOver 28 = .ok (.iconst 0, 1) := by decide +kernel
theorem dX10_isOver_29 : decode cX10_isOver 29 = .ok (.ireturn, 1) := by decide +kernel
theorem dX10_turns_0 : decode cX10_turns 0 = .ok (.aload_n 0, 1) := by decide +kernel
theorem dX10_turns_1 : decode cX10_turns 1 = .ok (.invokevirtual 324, 3) := by decide +kernel
theorem dX10_turns_4 : decode cX10_turns 4 = .ok (.ifCond .eq 5, 3) := by decide +kernel
theorem dX10_turns_7 : decode cX10_turns 7 = .ok (.iconst 0, 1) := by decide +kernel
theorem dX10_turns_8 : decode cX10_turns 8 = .ok (.ireturn, 1) := by decide +kernel
theorem dX10_turns_9 : decode cX10_turns 9 = .ok (.aload_n 0, 1) := by decide +kernel
theorem dX10_turns_10 : decode cX10_turns 10 = .ok (.getfield 57, 3) := by decide +kernel
theorem dX10_turns_13 : decode cX10_turns 13 = .ok (.iconst 2, 1) := by decide +kernel
theorem dX10_turns_14 : decode cX10_turns 14 = .ok (.iaload, 1) := by decide +kernel
theorem dX10_turns_15 : decode cX10_turns 15 = .ok (.istore_n 2, 1) := by decide +kernel
theorem dX10_turns_16 : decode cX10_turns 16 = .ok (.aload_n 0, 1) := by decide +kernel
theorem dX10_turns_17 : decode cX10_turns 17 = .ok (.getfield 57, 3) := by decide +kernel
theorem dX10_turns_20 : decode cX10_turns 20 = .ok (.iconst 3, 1) := by decide +kernel
theorem dX10_turns_21 : decode cX10_turns 21 = .ok (.iaload, 1) := by decide +kernel
theorem dX10_turns_22 : decode cX10_turns 22 = .ok (.istore_n 3, 1) := by decide +kernel
theorem dX10_turns_23 : decode cX10_turns 23 = .ok (.iload_n 1, 1) := by decide +kernel
theorem dX10_turns_24 : decode cX10_turns 24 = .ok (.istore 4, 2) := by decide +kernel
theorem dX10_turns_26 : decode cX10_turns 26 = .ok (.aload_n 0, 1) := by decide +kernel
theorem dX10_turns_27 : decode cX10_turns 27 = .ok (.getfield 57, 3) := by decide +kernel
theorem dX10_turns_30 : decode cX10_turns 30 = .ok (.sipush 219, 3) := by decide +kernel
theorem dX10_turns_33 : decode cX10_turns 33 = .ok (.dup2, 1) := by decide +kernel
theorem dX10_turns_34 : decode cX10_turns 34 = .ok (.iaload, 1) := by decide +kernel
theorem dX10_turns_35 : decode cX10_turns 35 = .ok (.iconst 1, 1) := by decide +kernel
theorem dX10_turns_36 : decode cX10_turns 36 = .ok (.iadd, 1) := by decide +kernel
theorem dX10_turns_37 : decode cX10_turns 37 = .ok (.iastore, 1) := by decide +kernel
theorem dX10_turns_38 : decode cX10_turns 38 = .ok (.iload_n 1, 1) := by decide +kernel
theorem dX10_turns_39 : decode cX10_turns 39 = .ok (.ifCond .ne 32, 3) := by decide +kernel
theorem dX10_turns_42 : decode cX10_turns 42 = .ok (.aload_n 0, 1) := by decide +kernel
theorem dX10_turns_43 : decode cX10_turns 43 = .ok (.invokevirtual 274, 3) := by decide +kernel
theorem dX10_turns_46 : decode cX10_turns 46 = .ok (.ifCond .ne 25, 3) := by decide +kernel
theorem dX10_turns_49 : decode cX10_turns 49 = .ok (.aload_n 0, 1) := by decide +kernel
theorem dX10_turns_50 : decode cX10_turns 50 = .ok (.getfield 57, 3) := by decide +kernel
theorem dX10_turns_53 : decode cX10_turns 53 = .ok (.sipush 229, 3) := by decide +kernel
theorem dX10_turns_56 : decode cX10_turns 56 = .ok (.dup2, 1) := by decide +kernel
theorem dX10_turns_57 : decode cX10_turns 57 = .ok (.iaload, 1) := by decide +kernel
theorem dX10_turns_58 : decode cX10_turns 58 = .ok (.iconst 1, 1) := by decide +kernel
theorem dX10_turns_59 : decode cX10_turns 59 = .ok (.iadd, 1) := by decide +kernel
theorem dX10_turns_60 : decode cX10_turns 60 = .ok (.iastore, 1) := by decide +kernel
theorem dX10_turns_61 : decode cX10_turns 61 = .ok (.aload_n 0, 1) := by decide +kernel
theorem dX10_turns_62 : decode cX10_turns 62 = .ok (.iconst 1, 1) := by decide +kernel
theorem dX10_turns_63 : decode cX10_turns 63 = .ok (.invokevirtual 328, 3) := by decide +kernel
theorem dX10_turns_66 : decode cX10_turns 66 = .ok (.istore 4, 2) := by decide +kernel
theorem dX10_turns_68 : decode cX10_turns 68 = .ok (.goto 55, 3) := by decide +kernel
theorem dX10_turns_71 : decode cX10_turns 71 = .ok (.iload_n 1, 1) := by decide +kernel
theorem dX10_turns_72 : decode cX10_turns 72 = .ok (.ifCond .ne 32, 3) := by decide +kernel
theorem dX10_turns_75 : decode cX10_turns 75 = .ok (.aload_n 0, 1) := by decide +kernel
theorem dX10_turns_76 : decode cX10_turns 76 = .ok (.invokevirtual 271, 3) := by decide +kernel
theorem dX10_turns_79 : decode cX10_turns 79 = .ok (.ifCond .ne 25, 3) := by decide +kernel
theorem dX10_turns_82 : decode cX10_turns 82 = .ok (.aload_n 0, 1) := by decide +kernel
theorem dX10_turns_83 : decode cX10_turns 83 = .ok (.getfield 57, 3) := by decide +kernel
theorem dX10_turns_86 : decode cX10_turns 86 = .ok (.sipush 228, 3) := by decide +kernel
theorem dX10_turns_89 : decode cX10_turns 89 = .ok (.dup2, 1) := by decide +kernel
theorem dX10_turns_90 : decode cX10_turns 90 = .ok (.iaload, 1) := by decide +kernel
theorem dX10_turns_91 : decode cX10_turns 91 = .ok (.iconst 1, 1) := by decide +kernel
theorem dX10_turns_92 : decode cX10_turns 92 = .ok (.iadd, 1) := by decide +kernel
theorem dX10_turns_93 : decode cX10_turns 93 = .ok (.iastore, 1) := by decide +kernel
theorem dX10_turns_94 : decode cX10_turns 94 = .ok (.aload_n 0, 1) := by decide +kernel
theorem dX10_turns_95 : decode cX10_turns 95 = .ok (.iconst 0, 1) := by decide +kernel
theorem dX10_turns_96 : decode cX10_turns 96 = .ok (.invokevirtual 328, 3) := by decide +kernel
theorem dX10_turns_99 : decode cX10_turns 99 = .ok (.istore 4, 2) := by decide +kernel
theorem dX10_turns_101 : decode cX10_turns 101 = .ok (.goto 22, 3) := by decide +kernel
theorem dX10_turns_104 : decode cX10_turns 104 = .ok (.iload_n 1, 1) := by decide +kernel
theorem dX10_turns_105 : decode cX10_turns 105 = .ok (.ifCond .ne 18, 3) := by decide +kernel
theorem dX10_turns_108 : decode cX10_turns 108 = .ok (.aload_n 0, 1) := by decide +kernel
theorem dX10_turns_109 : decode cX10_turns 109 = .ok (.invokevirtual 331, 3) := by decide +kernel
theorem dX10_turns_112 : decode cX10_turns 112 = .ok (.istore 4, 2) := by decide +kernel
theorem dX10_turns_114 : decode cX10_turns 114 = .ok (.iload 4, 2) := by decide +kernel
theorem dX10_turns_116 : decode cX10_turns 116 = .ok (.ifCond .ne 7, 3) := by decide +kernel
theorem dX10_turns_119 : decode cX10_turns 119 = .ok (.aload_n 0, 1) := by decide +kernel
theorem dX10_turns_120 : decode cX10_turns 120 = .ok (.invokevirtual 334, 3) := by decide +kernel
theorem dX10_turns_123 : decode cX10_turns 123 = .ok (.iload 4, 2) := by decide +kernel
theorem dX10_turns_125 : decode cX10_turns 125 = .ok (.ifCond .eq 11, 3) := by decide +kernel
theorem dX10_turns_128 : decode cX10_turns 128 = .ok (.aload_n 0, 1) := by decide +kernel
theorem dX10_turns_129 : decode cX10_turns 129 = .ok (.iload 4, 2) := by decide +kernel
theorem dX10_turns_131 : decode cX10_turns 131 = .ok (.iload_n 2, 1) := by decide +kernel
theorem dX10_turns_132 : decode cX10_turns 132 = .ok (.iload_n 3, 1) := by decide +kernel
theorem dX10_turns_133 : decode cX10_turns 133 = .ok (.invokevirtual 337, 3) := by decide +kernel
theorem dX10_turns_136 : decode cX10_turns 136 = .ok (.aload_n 0, 1) := by decide +kernel
theorem dX10_turns_137 : decode cX10_turns 137 = .ok (.getfield 57, 3) := by decide +kernel
theorem dX10_turns_140 : decode cX10_turns 140 = .ok (.sipush 230, 3) := by decide +kernel
theorem dX10_turns_143 : decode cX10_turns 143 = .ok (.dup2, 1) := by decide +kernel
theorem dX10_turns_144 : decode cX10_turns 144 = .ok (.iaload, 1) := by decide +kernel
theorem dX10_turns_145 : decode cX10_turns 145 = .ok (.aload_n 0, 1) := by decide +kernel
theorem dX10_turns_146 : decode cX10_turns 146 = .ok (.invokevirtual 265, 3) := by decide +kernel
theorem dX10_turns_149 : decode cX10_turns 149 = .ok (.iadd, 1) := by decide +kernel
theorem dX10_turns_150 : decode cX10_turns 150 = .ok (.iastore, 1) := by decide +kernel
theorem dX10_turns_151 : decode cX10_turns 151 = .ok (.aload_n 0, 1) := by decide +kernel
theorem dX10_turns_152 : decode cX10_turns 152 = .ok (.getfield 57, 3) := by decide +kernel
theorem dX10_turns_155 : decode cX10_turns 155 = .ok (.sipush 223, 3) := by decide +kernel
theorem dX10_turns_158 : decode cX10_turns 158 = .ok (.aload_n 0, 1) := by decide +kernel
theorem dX10_turns_159 : decode cX10_turns 159 = .ok (.invokevirtual 265, 3) := by decide +kernel
theorem dX10_turns_162 : decode cX10_turns 162 = .ok (.aload_n 0, 1) := by decide +kernel
theorem dX10_turns_163 : decode cX10_turns 163 = .ok (.getfield 57, 3) := by decide +kernel
theorem dX10_turns_166 : decode cX10_turns 166 = .ok (.sipush 223, 3) := by decide +kernel
theorem dX10_turns_169 : decode cX10_turns 169 = .ok (.iaload, 1) := by decide +kernel
theorem dX10_turns_170 : decode cX10_turns 170 = .ok (.if_icmp .le 10, 3) := by decide +kernel
theorem dX10_turns_173 : decode cX10_turns 173 = .ok (.aload_n 0, 1) := by decide +kernel
theorem dX10_turns_174 : decode cX10_turns 174 = .ok (.invokevirtual 265, 3) := by decide +kernel
theorem dX10_turns_177 : decode cX10_turns 177 = .ok (.goto 11, 3) := by decide +kernel
theorem dX10_turns_180 : decode cX10_turns 180 = .ok (.aload_n 0, 1) := by decide +kernel
theorem dX10_turns_181 : decode cX10_turns 181 = .ok (.getfield 57, 3) := by decide +kernel
theorem dX10_turns_184 : decode cX10_turns 184 = .ok (.sipush 223, 3) := by decide +kernel
theorem dX10_turns_187 : decode cX10_turns 187 = .ok (.iaload, 1) := by decide +kernel
theorem dX10_turns_188 : decode cX10_turns 188 = .ok (.iastore, 1) := by decide +kernel
theorem dX10_turns_189 : decode cX10_turns 189 = .ok (.iconst 1, 1) := by decide +kernel
theorem dX10_turns_190 : decode cX10_turns 190 = .ok (.ireturn, 1) := by decide +kernel
theorem dX10_go_0 : decode cX10_go 0 = .ok (.aload_n 0, 1) := by decide +kernel
theorem dX10_go_1 : decode cX10_go 1 = .ok (.iconst 0, 1) := by decide +kernel
theorem dX10_go_2 : decode cX10_go 2 = .ok (.putfield 90, 3) := by decide +kernel
theorem dX10_go_5 : decode cX10_go 5 = .ok (.iload_n 1, 1) := by decide +kernel
theorem dX10_go_6 : decode cX10_go 6 = .ok (.ifCond .lt 10, 3) := by decide +kernel
theorem dX10_go_9 : decode cX10_go 9 = .ok (.iload_n 1, 1) := by decide +kernel
theorem dX10_go_10 : decode cX10_go 10 = .ok (.sipush 300, 3) := by decide +kernel
theorem dX10_go_13 : decode cX10_go 13 = .ok (.if_icmp .le 5, 3) := by decide +kernel
theorem dX10_go_16 : decode cX10_go 16 = .ok (.iconst (-1), 1) := by decide +kernel
theorem dX10_go_17 : decode cX10_go 17 = .ok (.ireturn, 1) := by decide +kernel
theorem dX10_go_18 : decode cX10_go 18 = .ok (.iconst 0, 1) := by decide +kernel
theorem dX10_go_19 : decode cX10_go 19 = .ok (.istore_n 2, 1) := by decide +kernel
theorem dX10_go_20 : decode cX10_go 20 = .ok (.iload_n 2, 1) := by decide +kernel
theorem dX10_go_21 : decode cX10_go 21 = .ok (.iload_n 1, 1) := by decide +kernel
theorem dX10_go_22 : decode cX10_go 22 = .ok (.if_icmp .ge 17, 3) := by decide +kernel
theorem dX10_go_25 : decode cX10_go 25 = .ok (.aload_n 0, 1) := by decide +kernel
theorem dX10_go_26 : decode cX10_go 26 = .ok (.iconst 0, 1) := by decide +kernel
theorem dX10_go_27 : decode cX10_go 27 = .ok (.invokevirtual 341, 3) := by decide +kernel
theorem dX10_go_30 : decode cX10_go 30 = .ok (.ifCond .eq 9, 3) := by decide +kernel
theorem dX10_go_33 : decode cX10_go 33 = .ok (.iinc 2 1, 3) := by decide +kernel
theorem dX10_go_36 : decode cX10_go 36 = .ok (.goto (-16), 3) := by decide +kernel
theorem dX10_go_39 : decode cX10_go 39 = .ok (.iload_n 2, 1) := by decide +kernel
theorem dX10_go_40 : decode cX10_go 40 = .ok (.ireturn, 1) := by decide +kernel
theorem dX10_isBit_0 : decode cX10_isBit 0 = .ok (.iload_n 0, 1) := by decide +kernel
theorem dX10_isBit_1 : decode cX10_isBit 1 = .ok (.ifCond .lt 12, 3) := by decide +kernel
theorem dX10_isBit_4 : decode cX10_isBit 4 = .ok (.iload_n 0, 1) := by decide +kernel
theorem dX10_isBit_5 : decode cX10_isBit 5 = .ok (.iload_n 1, 1) := by decide +kernel
theorem dX10_isBit_6 : decode cX10_isBit 6 = .ok (.if_icmp .ge 7, 3) := by decide +kernel
theorem dX10_isBit_9 : decode cX10_isBit 9 = .ok (.iconst 1, 1) := by decide +kernel
theorem dX10_isBit_10 : decode cX10_isBit 10 = .ok (.goto 4, 3) := by decide +kernel
theorem dX10_isBit_13 : decode cX10_isBit 13 = .ok (.iconst 0, 1) := by decide +kernel
theorem dX10_isBit_14 : decode cX10_isBit 14 = .ok (.ireturn, 1) := by decide +kernel
theorem dX10_flippedAt_0 : decode cX10_flippedAt 0 = .ok (.iload_n 2, 1) := by decide +kernel
theorem dX10_flippedAt_1 : decode cX10_flippedAt 1 = .ok (.ifCond .ge 5, 3) := by decide +kernel
theorem dX10_flippedAt_4 : decode cX10_flippedAt 4 = .ok (.iconst (-1), 1) := by decide +kernel
theorem dX10_flippedAt_5 : decode cX10_flippedAt 5 = .ok (.ireturn, 1) := by decide +kernel
theorem dX10_flippedAt_6 : decode cX10_flippedAt 6 = .ok (.iload_n 1, 1) := by decide +kernel
theorem dX10_flippedAt_7 : decode cX10_flippedAt 7 = .ok (.tableswitch 348 0 12 #[65, 65, 93, 93, 122, 122, 145, 173, 202, 230, 259, 288, 318], 65) := by decide +kernel
theorem dX10_flippedAt_72 : decode cX10_flippedAt 72 = .ok (.iload_n 2, 1) := by decide +kernel
theorem dX10_flippedAt_73 : decode cX10_flippedAt 73 = .ok (.bipush 8, 2) := by decide +kernel
theorem dX10_flippedAt_75 : decode cX10_flippedAt 75 = .ok (.if_icmp .ge 23, 3) := by decide +kernel
theorem dX10_flippedAt_78 : decode cX10_flippedAt 78 = .ok (.iload_n 3, 1) := by decide +kernel
theorem dX10_flippedAt_79 : decode cX10_flippedAt 79 = .ok (.bipush 32, 2) := by decide +kernel
theorem dX10_flippedAt_81 : decode cX10_flippedAt 81 = .ok (.invokestatic 344, 3) := by decide +kernel
theorem dX10_flippedAt_84 : decode cX10_flippedAt 84 = .ok (.ifCond .eq 14, 3) := by decide +kernel
theorem dX10_flippedAt_87 : decode cX10_flippedAt 87 = .ok (.iconst 4, 1) := by decide +kernel
theorem dX10_flippedAt_88 : decode cX10_flippedAt 88 = .ok (.bipush 8, 2) := by decide +kernel
theorem dX10_flippedAt_90 : decode cX10_flippedAt 90 = .ok (.iload_n 1, 1) := by decide +kernel
theorem dX10_flippedAt_91 : decode cX10_flippedAt 91 = .ok (.imul, 1) := by decide +kernel
theorem dX10_flippedAt_92 : decode cX10_flippedAt 92 = .ok (.iadd, 1) := by decide +kernel
theorem dX10_flippedAt_93 : decode cX10_flippedAt 93 = .ok (.iload_n 2, 1) := by decide +kernel
theorem dX10_flippedAt_94 : decode cX10_flippedAt 94 = .ok (.iadd, 1) := by decide +kernel
theorem dX10_flippedAt_95 : decode cX10_flippedAt 95 = .ok (.goto 4, 3) := by decide +kernel
theorem dX10_flippedAt_98 : decode cX10_flippedAt 98 = .ok (.iconst (-1), 1) := by decide +kernel
theorem dX10_flippedAt_99 : decode cX10_flippedAt 99 = .ok (.ireturn, 1) := by decide +kernel
theorem dX10_flippedAt_100 : decode cX10_flippedAt 100 = .ok (.iload_n 2, 1) := by decide +kernel
theorem dX10_flippedAt_101 : decode cX10_flippedAt 101 = .ok (.iconst 4, 1) := by decide +kernel
theorem dX10_flippedAt_102 : decode cX10_flippedAt 102 = .ok (.if_icmp .ge 25, 3) := by decide +kernel
theorem dX10_flippedAt_105 : decode cX10_flippedAt 105 = .ok (.iload_n 3, 1) := by decide +kernel
theorem dX10_flippedAt_106 : decode cX10_flippedAt 106 = .ok (.bipush 32, 2) := by decide +kernel
theorem dX10_flippedAt_108 : decode cX10_flippedAt 108 = .ok (.invokestatic 344, 3) := by decide +kernel
theorem dX10_flippedAt_111 : decode cX10_flippedAt 111 = .ok (.ifCond .eq 16, 3) := by decide +kernel
theorem dX10_flippedAt_114 : decode cX10_flippedAt 114 = .ok (.bipush 20, 2) := by decide +kernel
theorem dX10_flippedAt_116 : decode cX10_flippedAt 116 = .ok (.iconst 4, 1) := by decide +kernel
theorem dX10_flippedAt_117 : decode cX10_flippedAt 117 = .ok (.iload_n 1, 1) := by decide +kernel
theorem dX10_flippedAt_118 : decode cX10_flippedAt 118 = .ok (.iconst 2, 1) := by decide +kernel
theorem dX10_flippedAt_119 : decode cX10_flippedAt 119 = .ok (.isub, 1) := by decide +kernel
theorem dX10_flippedAt_120 : decode cX10_flippedAt 120 = .ok (.imul, 1) := by decide +kernel
theorem dX10_flippedAt_121 : decode cX10_flippedAt 121 = .ok (.iadd, 1) := by decide +kernel
theorem dX10_flippedAt_122 : decode cX10_flippedAt 122 = .ok (.iload_n 2, 1) := by decide +kernel
theorem dX10_flippedAt_123 : decode cX10_flippedAt 123 = .ok (.iadd, 1) := by decide +kernel
theorem dX10_flippedAt_124 : decode cX10_flippedAt 124 = .ok (.goto 4, 3) := by decide +kernel
theorem dX10_flippedAt_127 : decode cX10_flippedAt 127 = .ok (.iconst (-1), 1) := by decide +kernel
theorem dX10_flippedAt_128 : decode cX10_flippedAt 128 = .ok (.ireturn, 1) := by decide +kernel
theorem dX10_flippedAt_129 : decode cX10_flippedAt 129 = .ok (.iload_n 2, 1) := by decide +kernel
theorem dX10_flippedAt_130 : decode cX10_flippedAt 130 = .ok (.ifCond .ne 20, 3) := by decide +kernel
theorem dX10_flippedAt_133 : decode cX10_flippedAt 133 = .ok (.iload_n 3, 1) := by decide +kernel
theorem dX10_flippedAt_134 : decode cX10_flippedAt 134 = .ok (.bipush 6, 2) := by decide +kernel
theorem dX10_flippedAt_136 : decode cX10_flippedAt 136 = .ok (.invokestatic 344, 3) := by decide +kernel
theorem dX10_flippedAt_139 : decode cX10_flippedAt 139 = .ok (.ifCond .eq 11, 3) := by decide +kernel
theorem dX10_flippedAt_142 : decode cX10_flippedAt 142 = .ok (.iconst 0, 1) := by decide +kernel
theorem dX10_flippedAt_143 : decode cX10_flippedAt 143 = .ok (.iload_n 1, 1) := by decide +kernel
theorem dX10_flippedAt_144 : decode cX10_flippedAt 144 = .ok (.iadd, 1) := by decide +kernel
theorem dX10_flippedAt_145 : decode cX10_flippedAt 145 = .ok (.iconst 4, 1) := by decide +kernel
theorem dX10_flippedAt_146 : decode cX10_flippedAt 146 = .ok (.isub, 1) := by decide +kernel
theorem dX10_flippedAt_147 : decode cX10_flippedAt 147 = .ok (.goto 4, 3) := by decide +kernel
theorem dX10_flippedAt_150 : decode cX10_flippedAt 150 = .ok (.iconst (-1), 1) := by decide +kernel
theorem dX10_flippedAt_151 : decode cX10_flippedAt 151 = .ok (.ireturn, 1) := by decide +kernel
theorem dX10_flippedAt_152 : decode cX10_flippedAt 152 = .ok (.iload_n 2, 1) := by decide +kernel
theorem dX10_flippedAt_153 : decode cX10_flippedAt 153 = .ok (.aload_n 0, 1) := by decide +kernel
theorem dX10_flippedAt_154 : decode cX10_flippedAt 154 = .ok (.getfield 57, 3) := by decide +kernel
theorem dX10_flippedAt_157 : decode cX10_flippedAt 157 = .ok (.bipush 86, 2) := by decide +kernel
theorem dX10_flippedAt_159 : decode cX10_flippedAt 159 = .ok (.iaload, 1) := by decide +kernel
theorem dX10_flippedAt_160 : decode cX10_flippedAt 160 = .ok (.if_icmp .ge 18, 3) := by decide +kernel
theorem dX10_flippedAt_163 : decode cX10_flippedAt 163 = .ok (.iload_n 3, 1) := by decide +kernel
theorem dX10_flippedAt_164 : decode cX10_flippedAt 164 = .ok (.iconst 5, 1) := by decide +kernel
theorem dX10_flippedAt_165 : decode cX10_flippedAt 165 = .ok (.invokestatic 344, 3) := by decide +kernel
theorem dX10_flippedAt_168 : decode cX10_flippedAt 168 = .ok (.ifCond .eq 10, 3) := by decide +kernel
theorem dX10_flippedAt_171 : decode cX10_flippedAt 171 = .ok (.bipush 87, 2) := by decide +kernel
theorem dX10_flippedAt_173 : decode cX10_flippedAt 173 = .ok (.iload_n 2, 1) := by decide +kernel
theorem dX10_flippedAt_174 : decode cX10_flippedAt 174 = .ok (.iadd, 1) := by decide +kernel
theorem dX10_flippedAt_175 : decode cX10_flippedAt 175 = .ok (.goto 4, 3) := by decide +kernel
theorem dX10_flippedAt_178 : decode cX10_flippedAt 178 = .ok (.iconst (-1), 1) := by decide +kernel
theorem dX10_flippedAt_179 : decode cX10_flippedAt 179 = .ok (.ireturn, 1) := by decide +kernel
theorem dX10_flippedAt_180 : decode cX10_flippedAt 180 = .ok (.iload_n 2, 1) := by decide +kernel
theorem dX10_flippedAt_181 : decode cX10_flippedAt 181 = .ok (.aload_n 0, 1) := by decide +kernel
theorem dX10_flippedAt_182 : decode cX10_flippedAt 182 = .ok (.getfield 57, 3) := by decide +kernel
theorem dX10_flippedAt_185 : decode cX10_flippedAt 185 = .ok (.bipush 86, 2) := by decide +kernel
theorem dX10_flippedAt_187 : decode cX10_flippedAt 187 = .ok (.iaload, 1) := by decide +kernel
theorem dX10_flippedAt_188 : decode cX10_flippedAt 188 = .ok (.if_icmp .ge 19, 3) := by decide +kernel
theorem dX10_flippedAt_191 : decode cX10_flippedAt 191 = .ok (.iload_n 3, 1) := by decide +kernel
theorem dX10_flippedAt_192 : decode cX10_flippedAt 192 = .ok (.bipush 32, 2) := by decide +kernel
theorem dX10_flippedAt_194 : decode cX10_flippedAt 194 = .ok (.invokestatic 344, 3) := by decide +kernel
theorem dX10_flippedAt_197 : decode cX10_flippedAt 197 = .ok (.ifCond .eq 10, 3) := by decide +kernel
theorem dX10_flippedAt_200 : decode cX10_flippedAt 200 = .ok (.bipush 95, 2) := by decide +kernel
theorem dX10_flippedAt_202 : decode cX10_flippedAt 202 = .ok (.iload_n 2, 1) := by decide +kernel
theorem dX10_flippedAt_203 : decode cX10_flippedAt 203 = .ok (.iadd, 1) := by decide +kernel
theorem dX10_flippedAt_204 : decode cX10_flippedAt 204 = .ok (.goto 4, 3) := by decide +kernel
theorem dX10_flippedAt_207 : decode cX10_flippedAt 207 = .ok (.iconst (-1), 1) := by decide +kernel
theorem dX10_flippedAt_208 : decode cX10_flippedAt 208 = .ok (.ireturn, 1) := by decide +kernel
theorem dX10_flippedAt_209 : decode cX10_flippedAt 209 = .ok (.iload_n 2, 1) := by decide +kernel
theorem dX10_flippedAt_210 : decode cX10_flippedAt 210 = .ok (.aload_n 0, 1) := by decide +kernel
theorem dX10_flippedAt_211 : decode cX10_flippedAt 211 = .ok (.getfield 57, 3) := by decide +kernel
theorem dX10_flippedAt_214 : decode cX10_flippedAt 214 = .ok (.bipush 103, 2) := by decide +kernel
theorem dX10_flippedAt_216 : decode cX10_flippedAt 216 = .ok (.iaload, 1) := by decide +kernel
theorem dX10_flippedAt_217 : decode cX10_flippedAt 217 = .ok (.if_icmp .ge 18, 3) := by decide +kernel
theorem dX10_flippedAt_220 : decode cX10_flippedAt 220 = .ok (.iload_n 3, 1) := by decide +kernel
theorem dX10_flippedAt_221 : decode cX10_flippedAt 221 = .ok (.iconst 1, 1) := by decide +kernel
theorem dX10_flippedAt_222 : decode cX10_flippedAt 222 = .ok (.invokestatic 344, 3) := by decide +kernel
theorem dX10_flippedAt_225 : decode cX10_flippedAt 225 = .ok (.ifCond .eq 10, 3) := by decide +kernel
theorem dX10_flippedAt_228 : decode cX10_flippedAt 228 = .ok (.bipush 104, 2) := by decide +kernel
theorem dX10_flippedAt_230 : decode cX10_flippedAt 230 = .ok (.iload_n 2, 1) := by decide +kernel
theorem dX10_flippedAt_231 : decode cX10_flippedAt 231 = .ok (.iadd, 1) := by decide +kernel
theorem dX10_flippedAt_232 : decode cX10_flippedAt 232 = .ok (.goto 4, 3) := by decide +kernel
theorem dX10_flippedAt_235 : decode cX10_flippedAt 235 = .ok (.iconst (-1), 1) := by decide +kernel
theorem dX10_flippedAt_236 : decode cX10_flippedAt 236 = .ok (.ireturn, 1) := by decide +kernel
theorem dX10_flippedAt_237 : decode cX10_flippedAt 237 = .ok (.iload_n 2, 1) := by decide +kernel
theorem dX10_flippedAt_238 : decode cX10_flippedAt 238 = .ok (.aload_n 0, 1) := by decide +kernel
theorem dX10_flippedAt_239 : decode cX10_flippedAt 239 = .ok (.getfield 57, 3) := by decide +kernel
theorem dX10_flippedAt_242 : decode cX10_flippedAt 242 = .ok (.bipush 112, 2) := by decide +kernel
theorem dX10_flippedAt_244 : decode cX10_flippedAt 244 = .ok (.iaload, 1) := by decide +kernel
theorem dX10_flippedAt_245 : decode cX10_flippedAt 245 = .ok (.if_icmp .ge 19, 3) := by decide +kernel
theorem dX10_flippedAt_248 : decode cX10_flippedAt 248 = .ok (.iload_n 3, 1) := by decide +kernel
theorem dX10_flippedAt_249 : decode cX10_flippedAt 249 = .ok (.bipush 6, 2) := by decide +kernel
theorem dX10_flippedAt_251 : decode cX10_flippedAt 251 = .ok (.invokestatic 344, 3) := by decide +kernel
theorem dX10_flippedAt_254 : decode cX10_flippedAt 254 = .ok (.ifCond .eq 10, 3) := by decide +kernel
theorem dX10_flippedAt_257 : decode cX10_flippedAt 257 = .ok (.bipush 114, 2) := by decide +kernel
theorem dX10_flippedAt_259 : decode cX10_flippedAt 259 = .ok (.iload_n 2, 1) := by decide +kernel
theorem dX10_flippedAt_260 : decode cX10_flippedAt 260 = .ok (.iadd, 1) := by decide +kernel
theorem dX10_flippedAt_261 : decode cX10_flippedAt 261 = .ok (.goto 4, 3) := by decide +kernel
theorem dX10_flippedAt_264 : decode cX10_flippedAt 264 = .ok (.iconst (-1), 1) := by decide +kernel
theorem dX10_flippedAt_265 : decode cX10_flippedAt 265 = .ok (.ireturn, 1) := by decide +kernel
theorem dX10_flippedAt_266 : decode cX10_flippedAt 266 = .ok (.iload_n 2, 1) := by decide +kernel
theorem dX10_flippedAt_267 : decode cX10_flippedAt 267 = .ok (.aload_n 0, 1) := by decide +kernel
theorem dX10_flippedAt_268 : decode cX10_flippedAt 268 = .ok (.getfield 57, 3) := by decide +kernel
theorem dX10_flippedAt_271 : decode cX10_flippedAt 271 = .ok (.bipush 112, 2) := by decide +kernel
theorem dX10_flippedAt_273 : decode cX10_flippedAt 273 = .ok (.iaload, 1) := by decide +kernel
theorem dX10_flippedAt_274 : decode cX10_flippedAt 274 = .ok (.if_icmp .ge 19, 3) := by decide +kernel
theorem dX10_flippedAt_277 : decode cX10_flippedAt 277 = .ok (.iload_n 3, 1) := by decide +kernel
theorem dX10_flippedAt_278 : decode cX10_flippedAt 278 = .ok (.bipush 32, 2) := by decide +kernel
theorem dX10_flippedAt_280 : decode cX10_flippedAt 280 = .ok (.invokestatic 344, 3) := by decide +kernel
theorem dX10_flippedAt_283 : decode cX10_flippedAt 283 = .ok (.ifCond .eq 10, 3) := by decide +kernel
theorem dX10_flippedAt_286 : decode cX10_flippedAt 286 = .ok (.bipush 122, 2) := by decide +kernel
theorem dX10_flippedAt_288 : decode cX10_flippedAt 288 = .ok (.iload_n 2, 1) := by decide +kernel
theorem dX10_flippedAt_289 : decode cX10_flippedAt 289 = .ok (.iadd, 1) := by decide +kernel
theorem dX10_flippedAt_290 : decode cX10_flippedAt 290 = .ok (.goto 4, 3) := by decide +kernel
theorem dX10_flippedAt_293 : decode cX10_flippedAt 293 = .ok (.iconst (-1), 1) := by decide +kernel
theorem dX10_flippedAt_294 : decode cX10_flippedAt 294 = .ok (.ireturn, 1) := by decide +kernel
theorem dX10_flippedAt_295 : decode cX10_flippedAt 295 = .ok (.iload_n 2, 1) := by decide +kernel
theorem dX10_flippedAt_296 : decode cX10_flippedAt 296 = .ok (.aload_n 0, 1) := by decide +kernel
theorem dX10_flippedAt_297 : decode cX10_flippedAt 297 = .ok (.getfield 57, 3) := by decide +kernel
theorem dX10_flippedAt_300 : decode cX10_flippedAt 300 = .ok (.bipush 113, 2) := by decide +kernel
theorem dX10_flippedAt_302 : decode cX10_flippedAt 302 = .ok (.iaload, 1) := by decide +kernel
theorem dX10_flippedAt_303 : decode cX10_flippedAt 303 = .ok (.if_icmp .ge 20, 3) := by decide +kernel
theorem dX10_flippedAt_306 : decode cX10_flippedAt 306 = .ok (.iload_n 3, 1) := by decide +kernel
theorem dX10_flippedAt_307 : decode cX10_flippedAt 307 = .ok (.bipush 6, 2) := by decide +kernel
theorem dX10_flippedAt_309 : decode cX10_flippedAt 309 = .ok (.invokestatic 344, 3) := by decide +kernel
theorem dX10_flippedAt_312 : decode cX10_flippedAt 312 = .ok (.ifCond .eq 11, 3) := by decide +kernel
theorem dX10_flippedAt_315 : decode cX10_flippedAt 315 = .ok (.sipush 130, 3) := by decide +kernel
theorem dX10_flippedAt_318 : decode cX10_flippedAt 318 = .ok (.iload_n 2, 1) := by decide +kernel
theorem dX10_flippedAt_319 : decode cX10_flippedAt 319 = .ok (.iadd, 1) := by decide +kernel
theorem dX10_flippedAt_320 : decode cX10_flippedAt 320 = .ok (.goto 4, 3) := by decide +kernel
theorem dX10_flippedAt_323 : decode cX10_flippedAt 323 = .ok (.iconst (-1), 1) := by decide +kernel
theorem dX10_flippedAt_324 : decode cX10_flippedAt 324 = .ok (.ireturn, 1) := by decide +kernel
theorem dX10_flippedAt_325 : decode cX10_flippedAt 325 = .ok (.iload_n 2, 1) := by decide +kernel
theorem dX10_flippedAt_326 : decode cX10_flippedAt 326 = .ok (.aload_n 0, 1) := by decide +kernel
theorem dX10_flippedAt_327 : decode cX10_flippedAt 327 = .ok (.getfield 57, 3) := by decide +kernel
theorem dX10_flippedAt_330 : decode cX10_flippedAt 330 = .ok (.bipush 113, 2) := by decide +kernel
theorem dX10_flippedAt_332 : decode cX10_flippedAt 332 = .ok (.iaload, 1) := by decide +kernel
theorem dX10_flippedAt_333 : decode cX10_flippedAt 333 = .ok (.if_icmp .ge 20, 3) := by decide +kernel
theorem dX10_flippedAt_336 : decode cX10_flippedAt 336 = .ok (.iload_n 3, 1) := by decide +kernel
theorem dX10_flippedAt_337 : decode cX10_flippedAt 337 = .ok (.bipush 32, 2) := by decide +kernel
theorem dX10_flippedAt_339 : decode cX10_flippedAt 339 = .ok (.invokestatic 344, 3) := by decide +kernel
theorem dX10_flippedAt_342 : decode cX10_flippedAt 342 = .ok (.ifCond .eq 11, 3) := by decide +kernel
theorem dX10_flippedAt_345 : decode cX10_flippedAt 345 = .ok (.sipush 138, 3) := by decide +kernel
theorem dX10_flippedAt_348 : decode cX10_flippedAt 348 = .ok (.iload_n 2, 1) := by decide +kernel
theorem dX10_flippedAt_349 : decode cX10_flippedAt 349 = .ok (.iadd, 1) := by decide +kernel
theorem dX10_flippedAt_350 : decode cX10_flippedAt 350 = .ok (.goto 4, 3) := by decide +kernel
theorem dX10_flippedAt_353 : decode cX10_flippedAt 353 = .ok (.iconst (-1), 1) := by decide +kernel
theorem dX10_flippedAt_354 : decode cX10_flippedAt 354 = .ok (.ireturn, 1) := by decide +kernel
theorem dX10_flippedAt_355 : decode cX10_flippedAt 355 = .ok (.iconst (-1), 1) := by decide +kernel
theorem dX10_flippedAt_356 : decode cX10_flippedAt 356 = .ok (.ireturn, 1) := by decide +kernel
theorem dX10_flips_0 : decode cX10_flips 0 = .ok (.aload_n 0, 1) := by decide +kernel
theorem dX10_flips_1 : decode cX10_flips 1 = .ok (.iload_n 1, 1) := by decide +kernel
theorem dX10_flips_2 : decode cX10_flips 2 = .ok (.iload_n 2, 1) := by decide +kernel
theorem dX10_flips_3 : decode cX10_flips 3 = .ok (.iload_n 3, 1) := by decide +kernel
theorem dX10_flips_4 : decode cX10_flips 4 = .ok (.invokevirtual 348, 3) := by decide +kernel
theorem dX10_flips_7 : decode cX10_flips 7 = .ok (.istore 4, 2) := by decide +kernel
theorem dX10_flips_9 : decode cX10_flips 9 = .ok (.iload 4, 2) := by decide +kernel
theorem dX10_flips_11 : decode cX10_flips 11 = .ok (.iconst (-1), 1) := by decide +kernel
theorem dX10_flips_12 : decode cX10_flips 12 = .ok (.if_icmp .ne 5, 3) := by decide +kernel
theorem dX10_flips_15 : decode cX10_flips 15 = .ok (.iconst 0, 1) := by decide +kernel
theorem dX10_flips_16 : decode cX10_flips 16 = .ok (.ireturn, 1) := by decide +kernel
theorem dX10_flips_17 : decode cX10_flips 17 = .ok (.aload_n 0, 1) := by decide +kernel
theorem dX10_flips_18 : decode cX10_flips 18 = .ok (.getfield 57, 3) := by decide +kernel
theorem dX10_flips_21 : decode cX10_flips 21 = .ok (.iload 4, 2) := by decide +kernel
theorem dX10_flips_23 : decode cX10_flips 23 = .ok (.dup2, 1) := by decide +kernel
theorem dX10_flips_24 : decode cX10_flips 24 = .ok (.iaload, 1) := by decide +kernel
theorem dX10_flips_25 : decode cX10_flips 25 = .ok (.iconst 1, 1) := by decide +kernel
theorem dX10_flips_26 : decode cX10_flips 26 = .ok (.iload_n 3, 1) := by decide +kernel
theorem dX10_flips_27 : decode cX10_flips 27 = .ok (.ishl, 1) := by decide +kernel
theorem dX10_flips_28 : decode cX10_flips 28 = .ok (.ixor, 1) := by decide +kernel
theorem dX10_flips_29 : decode cX10_flips 29 = .ok (.iastore, 1) := by decide +kernel
theorem dX10_flips_30 : decode cX10_flips 30 = .ok (.aload_n 0, 1) := by decide +kernel
theorem dX10_flips_31 : decode cX10_flips 31 = .ok (.invokevirtual 312, 3) := by decide +kernel
theorem dX10_flips_34 : decode cX10_flips 34 = .ok (.iconst 1, 1) := by decide +kernel
theorem dX10_flips_35 : decode cX10_flips 35 = .ok (.ireturn, 1) := by decide +kernel
theorem dX10_flip_0 : decode cX10_flip 0 = .ok (.aload_n 0, 1) := by decide +kernel
theorem dX10_flip_1 : decode cX10_flip 1 = .ok (.iconst 0, 1) := by decide +kernel
theorem dX10_flip_2 : decode cX10_flip 2 = .ok (.putfield 90, 3) := by decide +kernel
theorem dX10_flip_5 : decode cX10_flip 5 = .ok (.aload_n 0, 1) := by decide +kernel
theorem dX10_flip_6 : decode cX10_flip 6 = .ok (.iload_n 1, 1) := by decide +kernel
theorem dX10_flip_7 : decode cX10_flip 7 = .ok (.iload_n 2, 1) := by decide +kernel
theorem dX10_flip_8 : decode cX10_flip 8 = .ok (.iload_n 3, 1) := by decide +kernel
theorem dX10_flip_9 : decode cX10_flip 9 = .ok (.invokevirtual 351, 3) := by decide +kernel
theorem dX10_flip_12 : decode cX10_flip 12 = .ok (.ireturn, 1) := by decide +kernel
theorem dX10_stick_0 : decode cX10_stick 0 = .ok (.aload_n 0, 1) := by decide +kernel
theorem dX10_stick_1 : decode cX10_stick 1 = .ok (.iconst 0, 1) := by decide +kernel
theorem dX10_stick_2 : decode cX10_stick 2 = .ok (.putfield 90, 3) := by decide +kernel
theorem dX10_stick_5 : decode cX10_stick 5 = .ok (.iload_n 1, 1) := by decide +kernel
theorem dX10_stick_6 : decode cX10_stick 6 = .ok (.ifCond .lt 27, 3) := by decide +kernel
theorem dX10_stick_9 : decode cX10_stick 9 = .ok (.iload_n 1, 1) := by decide +kernel
theorem dX10_stick_10 : decode cX10_stick 10 = .ok (.iconst 1, 1) := by decide +kernel
theorem dX10_stick_11 : decode cX10_stick 11 = .ok (.if_icmp .gt 22, 3) := by decide +kernel
theorem dX10_stick_14 : decode cX10_stick 14 = .ok (.iload_n 2, 1) := by decide +kernel
theorem dX10_stick_15 : decode cX10_stick 15 = .ok (.ifCond .lt 18, 3) := by decide +kernel
theorem dX10_stick_18 : decode cX10_stick 18 = .ok (.iload_n 2, 1) := by decide +kernel
theorem dX10_stick_19 : decode cX10_stick 19 = .ok (.bipush 8, 2) := by decide +kernel
theorem dX10_stick_21 : decode cX10_stick 21 = .ok (.if_icmp .ge 12, 3) := by decide +kernel
theorem dX10_stick_24 : decode cX10_stick 24 = .ok (.iload_n 3, 1) := by decide +kernel
theorem dX10_stick_25 : decode cX10_stick 25 = .ok (.bipush 32, 2) := by decide +kernel
theorem dX10_stick_27 : decode cX10_stick 27 = .ok (.invokestatic 344, 3) := by decide +kernel
theorem dX10_stick_30 : decode cX10_stick 30 = .ok (.ifCond .ne 5, 3) := by decide +kernel
theorem dX10_stick_33 : decode cX10_stick 33 = .ok (.iconst 0, 1) := by decide +kernel
theorem dX10_stick_34 : decode cX10_stick 34 = .ok (.ireturn, 1) := by decide +kernel
theorem dX10_stick_35 : decode cX10_stick 35 = .ok (.bipush 8, 2) := by decide +kernel
theorem dX10_stick_37 : decode cX10_stick 37 = .ok (.iload_n 1, 1) := by decide +kernel
theorem dX10_stick_38 : decode cX10_stick 38 = .ok (.imul, 1) := by decide +kernel
theorem dX10_stick_39 : decode cX10_stick 39 = .ok (.iload_n 2, 1) := by decide +kernel
theorem dX10_stick_40 : decode cX10_stick 40 = .ok (.iadd, 1) := by decide +kernel
theorem dX10_stick_41 : decode cX10_stick 41 = .ok (.istore 5, 2) := by decide +kernel
theorem dX10_stick_43 : decode cX10_stick 43 = .ok (.aload_n 0, 1) := by decide +kernel
theorem dX10_stick_44 : decode cX10_stick 44 = .ok (.getfield 57, 3) := by decide +kernel
theorem dX10_stick_47 : decode cX10_stick 47 = .ok (.bipush 54, 2) := by decide +kernel
theorem dX10_stick_49 : decode cX10_stick 49 = .ok (.iload 5, 2) := by decide +kernel
theorem dX10_stick_51 : decode cX10_stick 51 = .ok (.iadd, 1) := by decide +kernel
theorem dX10_stick_52 : decode cX10_stick 52 = .ok (.dup2, 1) := by decide +kernel
theorem dX10_stick_53 : decode cX10_stick 53 = .ok (.iaload, 1) := by decide +kernel
theorem dX10_stick_54 : decode cX10_stick 54 = .ok (.iconst 1, 1) := by decide +kernel
theorem dX10_stick_55 : decode cX10_stick 55 = .ok (.iload_n 3, 1) := by decide +kernel
theorem dX10_stick_56 : decode cX10_stick 56 = .ok (.ishl, 1) := by decide +kernel
theorem dX10_stick_57 : decode cX10_stick 57 = .ok (.ior, 1) := by decide +kernel
theorem dX10_stick_58 : decode cX10_stick 58 = .ok (.iastore, 1) := by decide +kernel
theorem dX10_stick_59 : decode cX10_stick 59 = .ok (.aload_n 0, 1) := by decide +kernel
theorem dX10_stick_60 : decode cX10_stick 60 = .ok (.getfield 57, 3) := by decide +kernel
theorem dX10_stick_63 : decode cX10_stick 63 = .ok (.bipush 70, 2) := by decide +kernel
theorem dX10_stick_65 : decode cX10_stick 65 = .ok (.iload 5, 2) := by decide +kernel
theorem dX10_stick_67 : decode cX10_stick 67 = .ok (.iadd, 1) := by decide +kernel
theorem dX10_stick_68 : decode cX10_stick 68 = .ok (.iload 4, 2) := by decide +kernel
theorem dX10_stick_70 : decode cX10_stick 70 = .ok (.ifCond .eq 20, 3) := by decide +kernel
theorem dX10_stick_73 : decode cX10_stick 73 = .ok (.aload_n 0, 1) := by decide +kernel
theorem dX10_stick_74 : decode cX10_stick 74 = .ok (.getfield 57, 3) := by decide +kernel
theorem dX10_stick_77 : decode cX10_stick 77 = .ok (.bipush 70, 2) := by decide +kernel
theorem dX10_stick_79 : decode cX10_stick 79 = .ok (.iload 5, 2) := by decide +kernel
theorem dX10_stick_81 : decode cX10_stick 81 = .ok (.iadd, 1) := by decide +kernel
theorem dX10_stick_82 : decode cX10_stick 82 = .ok (.iaload, 1) := by decide +kernel
theorem dX10_stick_83 : decode cX10_stick 83 = .ok (.iconst 1, 1) := by decide +kernel
theorem dX10_stick_84 : decode cX10_stick 84 = .ok (.iload_n 3, 1) := by decide +kernel
theorem dX10_stick_85 : decode cX10_stick 85 = .ok (.ishl, 1) := by decide +kernel
theorem dX10_stick_86 : decode cX10_stick 86 = .ok (.ior, 1) := by decide +kernel
theorem dX10_stick_87 : decode cX10_stick 87 = .ok (.goto 19, 3) := by decide +kernel
theorem dX10_stick_90 : decode cX10_stick 90 = .ok (.aload_n 0, 1) := by decide +kernel
theorem dX10_stick_91 : decode cX10_stick 91 = .ok (.getfield 57, 3) := by decide +kernel
theorem dX10_stick_94 : decode cX10_stick 94 = .ok (.bipush 70, 2) := by decide +kernel
theorem dX10_stick_96 : decode cX10_stick 96 = .ok (.iload 5, 2) := by decide +kernel
theorem dX10_stick_98 : decode cX10_stick 98 = .ok (.iadd, 1) := by decide +kernel
theorem dX10_stick_99 : decode cX10_stick 99 = .ok (.iaload, 1) := by decide +kernel
theorem dX10_stick_100 : decode cX10_stick 100 = .ok (.iconst 1, 1) := by decide +kernel
theorem dX10_stick_101 : decode cX10_stick 101 = .ok (.iload_n 3, 1) := by decide +kernel
theorem dX10_stick_102 : decode cX10_stick 102 = .ok (.ishl, 1) := by decide +kernel
theorem dX10_stick_103 : decode cX10_stick 103 = .ok (.iconst (-1), 1) := by decide +kernel
theorem dX10_stick_104 : decode cX10_stick 104 = .ok (.ixor, 1) := by decide +kernel
theorem dX10_stick_105 : decode cX10_stick 105 = .ok (.iand, 1) := by decide +kernel
theorem dX10_stick_106 : decode cX10_stick 106 = .ok (.iastore, 1) := by decide +kernel
theorem dX10_stick_107 : decode cX10_stick 107 = .ok (.aload_n 0, 1) := by decide +kernel
theorem dX10_stick_108 : decode cX10_stick 108 = .ok (.invokevirtual 312, 3) := by decide +kernel
theorem dX10_stick_111 : decode cX10_stick 111 = .ok (.iconst 1, 1) := by decide +kernel
theorem dX10_stick_112 : decode cX10_stick 112 = .ok (.ireturn, 1) := by decide +kernel
theorem dX10_bits_0 : decode cX10_bits 0 = .ok (.iconst 0, 1) := by decide +kernel
theorem dX10_bits_1 : decode cX10_bits 1 = .ok (.istore_n 1, 1) := by decide +kernel
theorem dX10_bits_2 : decode cX10_bits 2 = .ok (.iload_n 0, 1) := by decide +kernel
theorem dX10_bits_3 : decode cX10_bits 3 = .ok (.istore_n 2, 1) := by decide +kernel
theorem dX10_bits_4 : decode cX10_bits 4 = .ok (.iload_n 2, 1) := by decide +kernel
theorem dX10_bits_5 : decode cX10_bits 5 = .ok (.ifCond .eq 15, 3) := by decide +kernel
theorem dX10_bits_8 : decode cX10_bits 8 = .ok (.iinc 1 1, 3) := by decide +kernel
theorem dX10_bits_11 : decode cX10_bits 11 = .ok (.iload_n 2, 1) := by decide +kernel
theorem dX10_bits_12 : decode cX10_bits 12 = .ok (.iload_n 2, 1) := by decide +kernel
theorem dX10_bits_13 : decode cX10_bits 13 = .ok (.iconst 1, 1) := by decide +kernel
theorem dX10_bits_14 : decode cX10_bits 14 = .ok (.isub, 1) := by decide +kernel
theorem dX10_bits_15 : decode cX10_bits 15 = .ok (.iand, 1) := by decide +kernel
theorem dX10_bits_16 : decode cX10_bits 16 = .ok (.istore_n 2, 1) := by decide +kernel
theorem dX10_bits_17 : decode cX10_bits 17 = .ok (.goto (-13), 3) := by decide +kernel
theorem dX10_bits_20 : decode cX10_bits 20 = .ok (.iload_n 1, 1) := by decide +kernel
theorem dX10_bits_21 : decode cX10_bits 21 = .ok (.ireturn, 1) := by decide +kernel
theorem dX10_stuck_0 : decode cX10_stuck 0 = .ok (.iconst 0, 1) := by decide +kernel
theorem dX10_stuck_1 : decode cX10_stuck 1 = .ok (.istore_n 1, 1) := by decide +kernel
theorem dX10_stuck_2 : decode cX10_stuck 2 = .ok (.iconst 0, 1) := by decide +kernel
theorem dX10_stuck_3 : decode cX10_stuck 3 = .ok (.istore_n 2, 1) := by decide +kernel
theorem dX10_stuck_4 : decode cX10_stuck 4 = .ok (.iload_n 2, 1) := by decide +kernel
theorem dX10_stuck_5 : decode cX10_stuck 5 = .ok (.bipush 16, 2) := by decide +kernel
theorem dX10_stuck_7 : decode cX10_stuck 7 = .ok (.if_icmp .ge 24, 3) := by decide +kernel
theorem dX10_stuck_10 : decode cX10_stuck 10 = .ok (.iload_n 1, 1) := by decide +kernel
theorem dX10_stuck_11 : decode cX10_stuck 11 = .ok (.aload_n 0, 1) := by decide +kernel
theorem dX10_stuck_12 : decode cX10_stuck 12 = .ok (.getfield 57, 3) := by decide +kernel
theorem dX10_stuck_15 : decode cX10_stuck 15 = .ok (.bipush 54, 2) := by decide +kernel
theorem dX10_stuck_17 : decode cX10_stuck 17 = .ok (.iload_n 2, 1) := by decide +kernel
theorem dX10_stuck_18 : decode cX10_stuck 18 = .ok (.iadd, 1) := by decide +kernel
theorem dX10_stuck_19 : decode cX10_stuck 19 = .ok (.iaload, 1) := by decide +kernel
theorem dX10_stuck_20 : decode cX10_stuck 20 = .ok (.invokestatic 355, 3) := by decide +kernel
theorem dX10_stuck_23 : decode cX10_stuck 23 = .ok (.iadd, 1) := by decide +kernel
theorem dX10_stuck_24 : decode cX10_stuck 24 = .ok (.istore_n 1, 1) := by decide +kernel
theorem dX10_stuck_25 : decode cX10_stuck 25 = .ok (.iinc 2 1, 3) := by decide +kernel
theorem dX10_stuck_28 : decode cX10_stuck 28 = .ok (.goto (-24), 3) := by decide +kernel
theorem dX10_stuck_31 : decode cX10_stuck 31 = .ok (.iload_n 1, 1) := by decide +kernel
theorem dX10_stuck_32 : decode cX10_stuck 32 = .ok (.ireturn, 1) := by decide +kernel
theorem dX10_loose_0 : decode cX10_loose 0 = .ok (.aload_n 0, 1) := by decide +kernel
theorem dX10_loose_1 : decode cX10_loose 1 = .ok (.iconst 0, 1) := by decide +kernel
theorem dX10_loose_2 : decode cX10_loose 2 = .ok (.putfield 90, 3) := by decide +kernel
theorem dX10_loose_5 : decode cX10_loose 5 = .ok (.aload_n 0, 1) := by decide +kernel
theorem dX10_loose_6 : decode cX10_loose 6 = .ok (.invokevirtual 358, 3) := by decide +kernel
theorem dX10_loose_9 : decode cX10_loose 9 = .ok (.istore_n 1, 1) := by decide +kernel
theorem dX10_loose_10 : decode cX10_loose 10 = .ok (.iconst 0, 1) := by decide +kernel
theorem dX10_loose_11 : decode cX10_loose 11 = .ok (.istore_n 2, 1) := by decide +kernel
theorem dX10_loose_12 : decode cX10_loose 12 = .ok (.iload_n 2, 1) := by decide +kernel
theorem dX10_loose_13 : decode cX10_loose 13 = .ok (.bipush 16, 2) := by decide +kernel
theorem dX10_loose_15 : decode cX10_loose 15 = .ok (.if_icmp .ge 29, 3) := by decide +kernel
theorem dX10_loose_18 : decode cX10_loose 18 = .ok (.aload_n 0, 1) := by decide +kernel
theorem dX10_loose_19 : decode cX10_loose 19 = .ok (.getfield 57, 3) := by decide +kernel
theorem dX10_loose_22 : decode cX10_loose 22 = .ok (.bipush 54, 2) := by decide +kernel
theorem dX10_loose_24 : decode cX10_loose 24 = .ok (.iload_n 2, 1) := by decide +kernel
theorem dX10_loose_25 : decode cX10_loose 25 = .ok (.iadd, 1) := by decide +kernel
theorem dX10_loose_26 : decode cX10_loose 26 = .ok (.iconst 0, 1) := by decide +kernel
theorem dX10_loose_27 : decode cX10_loose 27 = .ok (.iastore, 1) := by decide +kernel
theorem dX10_loose_28 : decode cX10_loose 28 = .ok (.aload_n 0, 1) := by decide +kernel
theorem dX10_loose_29 : decode cX10_loose 29 = .ok (.getfield 57, 3) := by decide +kernel
theorem dX10_loose_32 : decode cX10_loose 32 = .ok (.bipush 70, 2) := by decide +kernel
theorem dX10_loose_34 : decode cX10_loose 34 = .ok (.iload_n 2, 1) := by decide +kernel
theorem dX10_loose_35 : decode cX10_loose 35 = .ok (.iadd, 1) := by decide +kernel
theorem dX10_loose_36 : decode cX10_loose 36 = .ok (.iconst 0, 1) := by decide +kernel
theorem dX10_loose_37 : decode cX10_loose 37 = .ok (.iastore, 1) := by decide +kernel
theorem dX10_loose_38 : decode cX10_loose 38 = .ok (.iinc 2 1, 3) := by decide +kernel
theorem dX10_loose_41 : decode cX10_loose 41 = .ok (.goto (-29), 3) := by decide +kernel
theorem dX10_loose_44 : decode cX10_loose 44 = .ok (.iload_n 1, 1) := by decide +kernel
theorem dX10_loose_45 : decode cX10_loose 45 = .ok (.ireturn, 1) := by decide +kernel
theorem dX10_thread_0 : decode cX10_thread 0 = .ok (.aload_n 0, 1) := by decide +kernel
theorem dX10_thread_1 : decode cX10_thread 1 = .ok (.iconst 0, 1) := by decide +kernel
theorem dX10_thread_2 : decode cX10_thread 2 = .ok (.putfield 90, 3) := by decide +kernel
theorem dX10_thread_5 : decode cX10_thread 5 = .ok (.iload_n 1, 1) := by decide +kernel
theorem dX10_thread_6 : decode cX10_thread 6 = .ok (.ifCond .lt 8, 3) := by decide +kernel
theorem dX10_thread_9 : decode cX10_thread 9 = .ok (.iload_n 1, 1) := by decide +kernel
theorem dX10_thread_10 : decode cX10_thread 10 = .ok (.iconst 1, 1) := by decide +kernel
theorem dX10_thread_11 : decode cX10_thread 11 = .ok (.if_icmp .le 10, 3) := by decide +kernel
theorem dX10_thread_14 : decode cX10_thread 14 = .ok (.aload_n 0, 1) := by decide +kernel
theorem dX10_thread_15 : decode cX10_thread 15 = .ok (.iconst 1, 1) := by decide +kernel
theorem dX10_thread_16 : decode cX10_thread 16 = .ok (.putfield 90, 3) := by decide +kernel
theorem dX10_thread_19 : decode cX10_thread 19 = .ok (.iconst 0, 1) := by decide +kernel
theorem dX10_thread_20 : decode cX10_thread 20 = .ok (.ireturn, 1) := by decide +kernel
theorem dX10_thread_21 : decode cX10_thread 21 = .ok (.iload_n 2, 1) := by decide +kernel
theorem dX10_thread_22 : decode cX10_thread 22 = .ok (.ifCond .lt 8, 3) := by decide +kernel
theorem dX10_thread_25 : decode cX10_thread 25 = .ok (.iload_n 2, 1) := by decide +kernel
theorem dX10_thread_26 : decode cX10_thread 26 = .ok (.iconst 3, 1) := by decide +kernel
theorem dX10_thread_27 : decode cX10_thread 27 = .ok (.if_icmp .le 10, 3) := by decide +kernel
theorem dX10_thread_30 : decode cX10_thread 30 = .ok (.aload_n 0, 1) := by decide +kernel
theorem dX10_thread_31 : decode cX10_thread 31 = .ok (.iconst 2, 1) := by decide +kernel
theorem dX10_thread_32 : decode cX10_thread 32 = .ok (.putfield 90, 3) := by decide +kernel
theorem dX10_thread_35 : decode cX10_thread 35 = .ok (.iconst 0, 1) := by decide +kernel
theorem dX10_thread_36 : decode cX10_thread 36 = .ok (.ireturn, 1) := by decide +kernel
theorem dX10_thread_37 : decode cX10_thread 37 = .ok (.iload_n 2, 1) := by decide +kernel
theorem dX10_thread_38 : decode cX10_thread 38 = .ok (.ifCond .ne 14, 3) := by decide +kernel
theorem dX10_thread_41 : decode cX10_thread 41 = .ok (.aload_n 0, 1) := by decide +kernel
theorem dX10_thread_42 : decode cX10_thread 42 = .ok (.getfield 57, 3) := by decide +kernel
theorem dX10_thread_45 : decode cX10_thread 45 = .ok (.iconst 0, 1) := by decide +kernel
theorem dX10_thread_46 : decode cX10_thread 46 = .ok (.iload_n 1, 1) := by decide +kernel
theorem dX10_thread_47 : decode cX10_thread 47 = .ok (.iadd, 1) := by decide +kernel
theorem dX10_thread_48 : decode cX10_thread 48 = .ok (.iaload, 1) := by decide +kernel
theorem dX10_thread_49 : decode cX10_thread 49 = .ok (.goto 45, 3) := by decide +kernel
theorem dX10_thread_52 : decode cX10_thread 52 = .ok (.iload_n 2, 1) := by decide +kernel
theorem dX10_thread_53 : decode cX10_thread 53 = .ok (.iconst 1, 1) := by decide +kernel
theorem dX10_thread_54 : decode cX10_thread 54 = .ok (.if_icmp .ne 14, 3) := by decide +kernel
theorem dX10_thread_57 : decode cX10_thread 57 = .ok (.aload_n 0, 1) := by decide +kernel
theorem dX10_thread_58 : decode cX10_thread 58 = .ok (.getfield 57, 3) := by decide +kernel
theorem dX10_thread_61 : decode cX10_thread 61 = .ok (.iconst 2, 1) := by decide +kernel
theorem dX10_thread_62 : decode cX10_thread 62 = .ok (.iload_n 1, 1) := by decide +kernel
theorem dX10_thread_63 : decode cX10_thread 63 = .ok (.iadd, 1) := by decide +kernel
theorem dX10_thread_64 : decode cX10_thread 64 = .ok (.iaload, 1) := by decide +kernel
theorem dX10_thread_65 : decode cX10_thread 65 = .ok (.goto 29, 3) := by decide +kernel
theorem dX10_thread_68 : decode cX10_thread 68 = .ok (.iload_n 2, 1) := by decide +kernel
theorem dX10_thread_69 : decode cX10_thread 69 = .ok (.iconst 2, 1) := by decide +kernel
theorem dX10_thread_70 : decode cX10_thread 70 = .ok (.if_icmp .ne 19, 3) := by decide +kernel
theorem dX10_thread_73 : decode cX10_thread 73 = .ok (.aload_n 0, 1) := by decide +kernel
theorem dX10_thread_74 : decode cX10_thread 74 = .ok (.iload_n 1, 1) := by decide +kernel
theorem dX10_thread_75 : decode cX10_thread 75 = .ok (.invokevirtual 262, 3) := by decide +kernel
theorem dX10_thread_78 : decode cX10_thread 78 = .ok (.ifCond .eq 7, 3) := by decide +kernel
theorem dX10_thread_81 : decode cX10_thread 81 = .ok (.iconst 1, 1) := by decide +kernel
theorem dX10_thread_82 : decode cX10_thread 82 = .ok (.goto 12, 3) := by decide +kernel
theorem dX10_thread_85 : decode cX10_thread 85 = .ok (.iconst 0, 1) := by decide +kernel
theorem dX10_thread_86 : decode cX10_thread 86 = .ok (.goto 8, 3) := by decide +kernel
theorem dX10_thread_89 : decode cX10_thread 89 = .ok (.aload_n 0, 1) := by decide +kernel
theorem dX10_thread_90 : decode cX10_thread 90 = .ok (.iload_n 1, 1) := by decide +kernel
theorem dX10_thread_91 : decode cX10_thread 91 = .ok (.invokevirtual 361, 3) := by decide +kernel
theorem dX10_thread_94 : decode cX10_thread 94 = .ok (.ireturn, 1) := by decide +kernel
theorem dX10_isIn_0 : decode cX10_isIn 0 = .ok (.iload_n 0, 1) := by decide +kernel
theorem dX10_isIn_1 : decode cX10_isIn 1 = .ok (.ifCond .lt 12, 3) := by decide +kernel
theorem dX10_isIn_4 : decode cX10_isIn 4 = .ok (.iload_n 0, 1) := by decide +kernel
theorem dX10_isIn_5 : decode cX10_isIn 5 = .ok (.iload_n 1, 1) := by decide +kernel
theorem dX10_isIn_6 : decode cX10_isIn 6 = .ok (.if_icmp .ge 7, 3) := by decide +kernel
theorem dX10_isIn_9 : decode cX10_isIn 9 = .ok (.iconst 1, 1) := by decide +kernel
theorem dX10_isIn_10 : decode cX10_isIn 10 = .ok (.goto 4, 3) := by decide +kernel
theorem dX10_isIn_13 : decode cX10_isIn 13 = .ok (.iconst 0, 1) := by decide +kernel
theorem dX10_isIn_14 : decode cX10_isIn 14 = .ok (.ireturn, 1) := by decide +kernel
theorem dX10_register__0 : decode cX10_register_ 0 = .ok (.aload_n 0, 1) := by decide +kernel
theorem dX10_register__1 : decode cX10_register_ 1 = .ok (.iconst 0, 1) := by decide +kernel
theorem dX10_register__2 : decode cX10_register_ 2 = .ok (.putfield 90, 3) := by decide +kernel
theorem dX10_register__5 : decode cX10_register_ 5 = .ok (.iload_n 1, 1) := by decide +kernel
theorem dX10_register__6 : decode cX10_register_ 6 = .ok (.iconst 2, 1) := by decide +kernel
theorem dX10_register__7 : decode cX10_register_ 7 = .ok (.invokestatic 364, 3) := by decide +kernel
theorem dX10_register__10 : decode cX10_register_ 10 = .ok (.ifCond .eq 28, 3) := by decide +kernel
theorem dX10_register__13 : decode cX10_register_ 13 = .ok (.iload_n 2, 1) := by decide +kernel
theorem dX10_register__14 : decode cX10_register_ 14 = .ok (.bipush 8, 2) := by decide +kernel
theorem dX10_register__16 : decode cX10_register_ 16 = .ok (.invokestatic 364, 3) := by decide +kernel
theorem dX10_register__19 : decode cX10_register_ 19 = .ok (.ifCond .eq 19, 3) := by decide +kernel
theorem dX10_register__22 : decode cX10_register_ 22 = .ok (.aload_n 0, 1) := by decide +kernel
theorem dX10_register__23 : decode cX10_register_ 23 = .ok (.getfield 57, 3) := by decide +kernel
theorem dX10_register__26 : decode cX10_register_ 26 = .ok (.iconst 4, 1) := by decide +kernel
theorem dX10_register__27 : decode cX10_register_ 27 = .ok (.bipush 8, 2) := by decide +kernel
theorem dX10_register__29 : decode cX10_register_ 29 = .ok (.iload_n 1, 1) := by decide +kernel
theorem dX10_register__30 : decode cX10_register_ 30 = .ok (.imul, 1) := by decide +kernel
theorem dX10_register__31 : decode cX10_register_ 31 = .ok (.iadd, 1) := by decide +kernel
theorem dX10_register__32 : decode cX10_register_ 32 = .ok (.iload_n 2, 1) := by decide +kernel
theorem dX10_register__33 : decode cX10_register_ 33 = .ok (.iadd, 1) := by decide +kernel
theorem dX10_register__34 : decode cX10_register_ 34 = .ok (.iaload, 1) := by decide +kernel
theorem dX10_register__35 : decode cX10_register_ 35 = .ok (.goto 4, 3) := by decide +kernel
theorem dX10_register__38 : decode cX10_register_ 38 = .ok (.iconst 0, 1) := by decide +kernel
theorem dX10_register__39 : decode cX10_register_ 39 = .ok (.ireturn, 1) := by decide +kernel
theorem dX10_real_0 : decode cX10_real 0 = .ok (.aload_n 0, 1) := by decide +kernel
theorem dX10_real_1 : decode cX10_real 1 = .ok (.iconst 0, 1) := by decide +kernel
theorem dX10_real_2 : decode cX10_real 2 = .ok (.putfield 90, 3) := by decide +kernel
theorem dX10_real_5 : decode cX10_real 5 = .ok (.iload_n 1, 1) := by decide +kernel
theorem dX10_real_6 : decode cX10_real 6 = .ok (.iconst 2, 1) := by decide +kernel
theorem dX10_real_7 : decode cX10_real 7 = .ok (.invokestatic 364, 3) := by decide +kernel
theorem dX10_real_10 : decode cX10_real 10 = .ok (.ifCond .eq 27, 3) := by decide +kernel
theorem dX10_real_13 : decode cX10_real 13 = .ok (.iload_n 2, 1) := by decide +kernel
theorem dX10_real_14 : decode cX10_real 14 = .ok (.iconst 4, 1) := by decide +kernel
theorem dX10_real_15 : decode cX10_real 15 = .ok (.invokestatic 364, 3) := by decide +kernel
theorem dX10_real_18 : decode cX10_real 18 = .ok (.ifCond .eq 19, 3) := by decide +kernel
theorem dX10_real_21 : decode cX10_real 21 = .ok (.aload_n 0, 1) := by decide +kernel
theorem dX10_real_22 : decode cX10_real 22 = .ok (.getfield 57, 3) := by decide +kernel
theorem dX10_real_25 : decode cX10_real 25 = .ok (.bipush 20, 2) := by decide +kernel
theorem dX10_real_27 : decode cX10_real 27 = .ok (.iconst 4, 1) := by decide +kernel
theorem dX10_real_28 : decode cX10_real 28 = .ok (.iload_n 1, 1) := by decide +kernel
theorem dX10_real_29 : decode cX10_real 29 = .ok (.imul, 1) := by decide +kernel
theorem dX10_real_30 : decode cX10_real 30 = .ok (.iadd, 1) := by decide +kernel
theorem dX10_real_31 : decode cX10_real 31 = .ok (.iload_n 2, 1) := by decide +kernel
theorem dX10_real_32 : decode cX10_real 32 = .ok (.iadd, 1) := by decide +kernel
theorem dX10_real_33 : decode cX10_real 33 = .ok (.iaload, 1) := by decide +kernel
theorem dX10_real_34 : decode cX10_real 34 = .ok (.goto 4, 3) := by decide +kernel
theorem dX10_real_37 : decode cX10_real 37 = .ok (.iconst 0, 1) := by decide +kernel
theorem dX10_real_38 : decode cX10_real 38 = .ok (.ireturn, 1) := by decide +kernel
theorem dX10_memory_0 : decode cX10_memory 0 = .ok (.aload_n 0, 1) := by decide +kernel
theorem dX10_memory_1 : decode cX10_memory 1 = .ok (.iconst 0, 1) := by decide +kernel
theorem dX10_memory_2 : decode cX10_memory 2 = .ok (.putfield 90, 3) := by decide +kernel
theorem dX10_memory_5 : decode cX10_memory 5 = .ok (.iload_n 1, 1) := by decide +kernel
theorem dX10_memory_6 : decode cX10_memory 6 = .ok (.bipush 32, 2) := by decide +kernel
theorem dX10_memory_8 : decode cX10_memory 8 = .ok (.invokestatic 364, 3) := by decide +kernel
theorem dX10_memory_11 : decode cX10_memory 11 = .ok (.ifCond .eq 16, 3) := by decide +kernel
theorem dX10_memory_14 : decode cX10_memory 14 = .ok (.aload_n 0, 1) := by decide +kernel
theorem dX10_memory_15 : decode cX10_memory 15 = .ok (.getfield 57, 3) := by decide +kernel
theorem dX10_memory_18 : decode cX10_memory 18 = .ok (.sipush 146, 3) := by decide +kernel
theorem dX10_memory_21 : decode cX10_memory 21 = .ok (.iload_n 1, 1) := by decide +kernel
theorem dX10_memory_22 : decode cX10_memory 22 = .ok (.iadd, 1) := by decide +kernel
theorem dX10_memory_23 : decode cX10_memory 23 = .ok (.iaload, 1) := by decide +kernel
theorem dX10_memory_24 : decode cX10_memory 24 = .ok (.goto 4, 3) := by decide +kernel
theorem dX10_memory_27 : decode cX10_memory 27 = .ok (.iconst 0, 1) := by decide +kernel
theorem dX10_memory_28 : decode cX10_memory 28 = .ok (.ireturn, 1) := by decide +kernel
theorem dX10_output_0 : decode cX10_output 0 = .ok (.aload_n 0, 1) := by decide +kernel
theorem dX10_output_1 : decode cX10_output 1 = .ok (.iconst 0, 1) := by decide +kernel
theorem dX10_output_2 : decode cX10_output 2 = .ok (.putfield 90, 3) := by decide +kernel
theorem dX10_output_5 : decode cX10_output 5 = .ok (.iload_n 1, 1) := by decide +kernel
theorem dX10_output_6 : decode cX10_output 6 = .ok (.aload_n 0, 1) := by decide +kernel
theorem dX10_output_7 : decode cX10_output 7 = .ok (.getfield 57, 3) := by decide +kernel
theorem dX10_output_10 : decode cX10_output 10 = .ok (.sipush 178, 3) := by decide +kernel
theorem dX10_output_13 : decode cX10_output 13 = .ok (.iaload, 1) := by decide +kernel
theorem dX10_output_14 : decode cX10_output 14 = .ok (.invokestatic 364, 3) := by decide +kernel
theorem dX10_output_17 : decode cX10_output 17 = .ok (.ifCond .eq 16, 3) := by decide +kernel
theorem dX10_output_20 : decode cX10_output 20 = .ok (.aload_n 0, 1) := by decide +kernel
theorem dX10_output_21 : decode cX10_output 21 = .ok (.getfield 57, 3) := by decide +kernel
theorem dX10_output_24 : decode cX10_output 24 = .ok (.sipush 179, 3) := by decide +kernel
theorem dX10_output_27 : decode cX10_output 27 = .ok (.iload_n 1, 1) := by decide +kernel
theorem dX10_output_28 : decode cX10_output 28 = .ok (.iadd, 1) := by decide +kernel
theorem dX10_output_29 : decode cX10_output 29 = .ok (.iaload, 1) := by decide +kernel
theorem dX10_output_30 : decode cX10_output 30 = .ok (.goto 4, 3) := by decide +kernel
theorem dX10_output_33 : decode cX10_output 33 = .ok (.iconst 0, 1) := by decide +kernel
theorem dX10_output_34 : decode cX10_output 34 = .ok (.ireturn, 1) := by decide +kernel
theorem dX10_heldAt_0 : decode cX10_heldAt 0 = .ok (.iload_n 2, 1) := by decide +kernel
theorem dX10_heldAt_1 : decode cX10_heldAt 1 = .ok (.ifCond .ne 13, 3) := by decide +kernel
theorem dX10_heldAt_4 : decode cX10_heldAt 4 = .ok (.aload_n 0, 1) := by decide +kernel
theorem dX10_heldAt_5 : decode cX10_heldAt 5 = .ok (.getfield 57, 3) := by decide +kernel
theorem dX10_heldAt_8 : decode cX10_heldAt 8 = .ok (.bipush 114, 2) := by decide +kernel
theorem dX10_heldAt_10 : decode cX10_heldAt 10 = .ok (.iload_n 1, 1) := by decide +kernel
theorem dX10_heldAt_11 : decode cX10_heldAt 11 = .ok (.iadd, 1) := by decide +kernel
theorem dX10_heldAt_12 : decode cX10_heldAt 12 = .ok (.iaload, 1) := by decide +kernel
theorem dX10_heldAt_13 : decode cX10_heldAt 13 = .ok (.ireturn, 1) := by decide +kernel
theorem dX10_heldAt_14 : decode cX10_heldAt 14 = .ok (.iload_n 2, 1) := by decide +kernel
theorem dX10_heldAt_15 : decode cX10_heldAt 15 = .ok (.iconst 1, 1) := by decide +kernel
theorem dX10_heldAt_16 : decode cX10_heldAt 16 = .ok (.if_icmp .ne 13, 3) := by decide +kernel
theorem dX10_heldAt_19 : decode cX10_heldAt 19 = .ok (.aload_n 0, 1) := by decide +kernel
theorem dX10_heldAt_20 : decode cX10_heldAt 20 = .ok (.getfield 57, 3) := by decide +kernel
theorem dX10_heldAt_23 : decode cX10_heldAt 23 = .ok (.bipush 122, 2) := by decide +kernel
theorem dX10_heldAt_25 : decode cX10_heldAt 25 = .ok (.iload_n 1, 1) := by decide +kernel
theorem dX10_heldAt_26 : decode cX10_heldAt 26 = .ok (.iadd, 1) := by decide +kernel
theorem dX10_heldAt_27 : decode cX10_heldAt 27 = .ok (.iaload, 1) := by decide +kernel
theorem dX10_heldAt_28 : decode cX10_heldAt 28 = .ok (.ireturn, 1) := by decide +kernel
theorem dX10_heldAt_29 : decode cX10_heldAt 29 = .ok (.iload_n 1, 1) := by decide +kernel
theorem dX10_heldAt_30 : decode cX10_heldAt 30 = .ok (.aload_n 0, 1) := by decide +kernel
theorem dX10_heldAt_31 : decode cX10_heldAt 31 = .ok (.getfield 57, 3) := by decide +kernel
theorem dX10_heldAt_34 : decode cX10_heldAt 34 = .ok (.bipush 113, 2) := by decide +kernel
theorem dX10_heldAt_36 : decode cX10_heldAt 36 = .ok (.iaload, 1) := by decide +kernel
theorem dX10_heldAt_37 : decode cX10_heldAt 37 = .ok (.if_icmp .ge 7, 3) := by decide +kernel
theorem dX10_heldAt_40 : decode cX10_heldAt 40 = .ok (.iconst 1, 1) := by decide +kernel
theorem dX10_heldAt_41 : decode cX10_heldAt 41 = .ok (.goto 4, 3) := by decide +kernel
theorem dX10_heldAt_44 : decode cX10_heldAt 44 = .ok (.iconst 0, 1) := by decide +kernel
theorem dX10_heldAt_45 : decode cX10_heldAt 45 = .ok (.istore_n 3, 1) := by decide +kernel
theorem dX10_heldAt_46 : decode cX10_heldAt 46 = .ok (.iload_n 3, 1) := by decide +kernel
theorem dX10_heldAt_47 : decode cX10_heldAt 47 = .ok (.ifCond .ne 7, 3) := by decide +kernel
theorem dX10_heldAt_50 : decode cX10_heldAt 50 = .ok (.iconst 0, 1) := by decide +kernel
theorem dX10_heldAt_51 : decode cX10_heldAt 51 = .ok (.goto 40, 3) := by decide +kernel
theorem dX10_heldAt_54 : decode cX10_heldAt 54 = .ok (.iload_n 2, 1) := by decide +kernel
theorem dX10_heldAt_55 : decode cX10_heldAt 55 = .ok (.iconst 2, 1) := by decide +kernel
theorem dX10_heldAt_56 : decode cX10_heldAt 56 = .ok (.if_icmp .ne 7, 3) := by decide +kernel
theorem dX10_heldAt_59 : decode cX10_heldAt 59 = .ok (.iconst 1, 1) := by decide +kernel
theorem dX10_heldAt_60 : decode cX10_heldAt 60 = .ok (.goto 31, 3) := by decide +kernel
theorem dX10_heldAt_63 : decode cX10_heldAt 63 = .ok (.iload_n 2, 1) := by decide +kernel
theorem dX10_heldAt_64 : decode cX10_heldAt 64 = .ok (.iconst 3, 1) := by decide +kernel
theorem dX10_heldAt_65 : decode cX10_heldAt 65 = .ok (.if_icmp .ne 16, 3) := by decide +kernel
theorem dX10_heldAt_68 : decode cX10_heldAt 68 = .ok (.aload_n 0, 1) := by decide +kernel
theorem dX10_heldAt_69 : decode cX10_heldAt 69 = .ok (.getfield 57, 3) := by decide +kernel
theorem dX10_heldAt_72 : decode cX10_heldAt 72 = .ok (.sipush 130, 3) := by decide +kernel
theorem dX10_heldAt_75 : decode cX10_heldAt 75 = .ok (.iload_n 1, 1) := by decide +kernel
theorem dX10_heldAt_76 : decode cX10_heldAt 76 = .ok (.iadd, 1) := by decide +kernel
theorem dX10_heldAt_77 : decode cX10_heldAt 77 = .ok (.iaload, 1) := by decide +kernel
theorem dX10_heldAt_78 : decode cX10_heldAt 78 = .ok (.goto 13, 3) := by decide +kernel
theorem dX10_heldAt_81 : decode cX10_heldAt 81 = .ok (.aload_n 0, 1) := by decide +kernel
theorem dX10_heldAt_82 : decode cX10_heldAt 82 = .ok (.getfield 57, 3) := by decide +kernel
theorem dX10_heldAt_85 : decode cX10_heldAt 85 = .ok (.sipush 138, 3) := by decide +kernel
theorem dX10_heldAt_88 : decode cX10_heldAt 88 = .ok (.iload_n 1, 1) := by decide +kernel
theorem dX10_heldAt_89 : decode cX10_heldAt 89 = .ok (.iadd, 1) := by decide +kernel
theorem dX10_heldAt_90 : decode cX10_heldAt 90 = .ok (.iaload, 1) := by decide +kernel
theorem dX10_heldAt_91 : decode cX10_heldAt 91 = .ok (.ireturn, 1) := by decide +kernel
theorem dX10_queued_0 : decode cX10_queued 0 = .ok (.aload_n 0, 1) := by decide +kernel
theorem dX10_queued_1 : decode cX10_queued 1 = .ok (.iconst 0, 1) := by decide +kernel
theorem dX10_queued_2 : decode cX10_queued 2 = .ok (.putfield 90, 3) := by decide +kernel
theorem dX10_queued_5 : decode cX10_queued 5 = .ok (.iload_n 3, 1) := by decide +kernel
theorem dX10_queued_6 : decode cX10_queued 6 = .ok (.ifCond .lt 7, 3) := by decide +kernel
theorem dX10_queued_9 : decode cX10_queued 9 = .ok (.iload_n 2, 1) := by decide +kernel
theorem dX10_queued_10 : decode cX10_queued 10 = .ok (.ifCond .ge 5, 3) := by decide +kernel
theorem dX10_queued_13 : decode cX10_queued 13 = .ok (.iconst 0, 1) := by decide +kernel
theorem dX10_queued_14 : decode cX10_queued 14 = .ok (.ireturn, 1) := by decide +kernel
theorem dX10_queued_15 : decode cX10_queued 15 = .ok (.iload_n 1, 1) := by decide +kernel
theorem dX10_queued_16 : decode cX10_queued 16 = .ok (.ifCond .ne 44, 3) := by decide +kernel
theorem dX10_queued_19 : decode cX10_queued 19 = .ok (.iload_n 2, 1) := by decide +kernel
theorem dX10_queued_20 : decode cX10_queued 20 = .ok (.aload_n 0, 1) := by decide +kernel
theorem dX10_queued_21 : decode cX10_queued 21 = .ok (.getfield 57, 3) := by decide +kernel
theorem dX10_queued_24 : decode cX10_queued 24 = .ok (.bipush 86, 2) := by decide +kernel
theorem dX10_queued_26 : decode cX10_queued 26 = .ok (.iaload, 1) := by decide +kernel
theorem dX10_queued_27 : decode cX10_queued 27 = .ok (.if_icmp .ge 31, 3) := by decide +kernel
theorem dX10_queued_30 : decode cX10_queued 30 = .ok (.iload_n 3, 1) := by decide +kernel
theorem dX10_queued_31 : decode cX10_queued 31 = .ok (.iconst 2, 1) := by decide +kernel
theorem dX10_queued_32 : decode cX10_queued 32 = .ok (.if_icmp .ge 26, 3) := by decide +kernel
theorem dX10_queued_35 : decode cX10_queued 35 = .ok (.aload_n 0, 1) := by decide +kernel
theorem dX10_queued_36 : decode cX10_queued 36 = .ok (.getfield 57, 3) := by decide +kernel
theorem dX10_queued_39 : decode cX10_queued 39 = .ok (.iload_n 3, 1) := by decide +kernel
theorem dX10_queued_40 : decode cX10_queued 40 = .ok (.ifCond .ne 10, 3) := by decide +kernel
theorem dX10_queued_43 : decode cX10_queued 43 = .ok (.bipush 87, 2) := by decide +kernel
theorem dX10_queued_45 : decode cX10_queued 45 = .ok (.iload_n 2, 1) := by decide +kernel
theorem dX10_queued_46 : decode cX10_queued 46 = .ok (.iadd, 1) := by decide +kernel
theorem dX10_queued_47 : decode cX10_queued 47 = .ok (.goto 7, 3) := by decide +kernel
theorem dX10_queued_50 : decode cX10_queued 50 = .ok (.bipush 95, 2) := by decide +kernel
theorem dX10_queued_52 : decode cX10_queued 52 = .ok (.iload_n 2, 1) := by decide +kernel
theorem dX10_queued_53 : decode cX10_queued 53 = .ok (.iadd, 1) := by decide +kernel
theorem dX10_queued_54 : decode cX10_queued 54 = .ok (.iaload, 1) := by decide +kernel
theorem dX10_queued_55 : decode cX10_queued 55 = .ok (.goto 4, 3) := by decide +kernel
theorem dX10_queued_58 : decode cX10_queued 58 = .ok (.iconst 0, 1) := by decide +kernel
theorem dX10_queued_59 : decode cX10_queued 59 = .ok (.ireturn, 1) := by decide +kernel
theorem dX10_queued_60 : decode cX10_queued 60 = .ok (.iload_n 1, 1) := by decide +kernel
theorem dX10_queued_61 : decode cX10_queued 61 = .ok (.iconst 1, 1) := by decide +kernel
theorem dX10_queued_62 : decode cX10_queued 62 = .ok (.if_icmp .ne 32, 3) := by decide +kernel
theorem dX10_queued_65 : decode cX10_queued 65 = .ok (.iload_n 2, 1) := by decide +kernel
theorem dX10_queued_66 : decode cX10_queued 66 = .ok (.aload_n 0, 1) := by decide +kernel
theorem dX10_queued_67 : decode cX10_queued 67 = .ok (.getfield 57, 3) := by decide +kernel
theorem dX10_queued_70 : decode cX10_queued 70 = .ok (.bipush 103, 2) := by decide +kernel
theorem dX10_queued_72 : decode cX10_queued 72 = .ok (.iaload, 1) := by decide +kernel
theorem dX10_queued_73 : decode cX10_queued 73 = .ok (.if_icmp .ge 19, 3) := by decide +kernel
theorem dX10_queued_76 : decode cX10_queued 76 = .ok (.iload_n 3, 1) := by decide +kernel
theorem dX10_queued_77 : decode cX10_queued 77 = .ok (.ifCond .ne 15, 3) := by decide +kernel
theorem dX10_queued_80 : decode cX10_queued 80 = .ok (.aload_n 0, 1) := by decide +kernel
theorem dX10_queued_81 : decode cX10_queued 81 = .ok (.getfield 57, 3) := by decide +kernel
theorem dX10_queued_84 : decode cX10_queued 84 = .ok (.bipush 104, 2) := by decide +kernel
theorem dX10_queued_86 : decode cX10_queued 86 = .ok (.iload_n 2, 1) := by decide +kernel
theorem dX10_queued_87 : decode cX10_queued 87 = .ok (.iadd, 1) := by decide +kernel
theorem dX10_queued_88 : decode cX10_queued 88 = .ok (.iaload, 1) := by decide +kernel
theorem dX10_queued_89 : decode cX10_queued 89 = .ok (.goto 4, 3) := by decide +kernel
theorem dX10_queued_92 : decode cX10_queued 92 = .ok (.iconst 0, 1) := by decide +kernel
theorem dX10_queued_93 : decode cX10_queued 93 = .ok (.ireturn, 1) := by decide +kernel
theorem dX10_queued_94 : decode cX10_queued 94 = .ok (.iload_n 1, 1) := by decide +kernel
theorem dX10_queued_95 : decode cX10_queued 95 = .ok (.iconst 2, 1) := by decide +kernel
theorem dX10_queued_96 : decode cX10_queued 96 = .ok (.if_icmp .ne 28, 3) := by decide +kernel
theorem dX10_queued_99 : decode cX10_queued 99 = .ok (.iload_n 2, 1) := by decide +kernel
theorem dX10_queued_100 : decode cX10_queued 100 = .ok (.aload_n 0, 1) := by decide +kernel
theorem dX10_queued_101 : decode cX10_queued 101 = .ok (.getfield 57, 3) := by decide +kernel
theorem dX10_queued_104 : decode cX10_queued 104 = .ok (.bipush 112, 2) := by decide +kernel
theorem dX10_queued_106 : decode cX10_queued 106 = .ok (.iaload, 1) := by decide +kernel
theorem dX10_queued_107 : decode cX10_queued 107 = .ok (.if_icmp .ge 17, 3) := by decide +kernel
theorem dX10_queued_110 : decode cX10_queued 110 = .ok (.iload_n 3, 1) := by decide +kernel
theorem dX10_queued_111 : decode cX10_queued 111 = .ok (.iconst 5, 1) := by decide +kernel
theorem dX10_queued_112 : decode cX10_queued 112 = .ok (.if_icmp .ge 12, 3) := by decide +kernel
theorem dX10_queued_115 : decode cX10_queued 115 = .ok (.aload_n 0, 1) := by decide +kernel
theorem dX10_queued_116 : decode cX10_queued 116 = .ok (.iload_n 2, 1) := by decide +kernel
theorem dX10_queued_117 : decode cX10_queued 117 = .ok (.iload_n 3, 1) := by decide +kernel
theorem dX10_queued_118 : decode cX10_queued 118 = .ok (.invokevirtual 367, 3) := by decide +kernel
theorem dX10_queued_121 : decode cX10_queued 121 = .ok (.goto 4, 3) := by decide +kernel
theorem dX10_queued_124 : decode cX10_queued 124 = .ok (.iconst 0, 1) := by decide +kernel
theorem dX10_queued_125 : decode cX10_queued 125 = .ok (.ireturn, 1) := by decide +kernel
theorem dX10_next_0 : decode cX10_next 0 = .ok (.aload_n 0, 1) := by decide +kernel
theorem dX10_next_1 : decode cX10_next 1 = .ok (.iconst 0, 1) := by decide +kernel
theorem dX10_next_2 : decode cX10_next 2 = .ok (.putfield 90, 3) := by decide +kernel
theorem dX10_next_5 : decode cX10_next 5 = .ok (.aload_n 0, 1) := by decide +kernel
theorem dX10_next_6 : decode cX10_next 6 = .ok (.invokevirtual 324, 3) := by decide +kernel
theorem dX10_next_9 : decode cX10_next 9 = .ok (.ifCond .eq 6, 3) := by decide +kernel
theorem dX10_next_12 : decode cX10_next 12 = .ok (.bipush (-2), 2) := by decide +kernel
theorem dX10_next_14 : decode cX10_next 14 = .ok (.ireturn, 1) := by decide +kernel
theorem dX10_next_15 : decode cX10_next 15 = .ok (.aload_n 0, 1) := by decide +kernel
theorem dX10_next_16 : decode cX10_next 16 = .ok (.invokevirtual 274, 3) := by decide +kernel
theorem dX10_next_19 : decode cX10_next 19 = .ok (.ifCond .ne 7, 3) := by decide +kernel
theorem dX10_next_22 : decode cX10_next 22 = .ok (.iconst 0, 1) := by decide +kernel
theorem dX10_next_23 : decode cX10_next 23 = .ok (.goto 15, 3) := by decide +kernel
theorem dX10_next_26 : decode cX10_next 26 = .ok (.aload_n 0, 1) := by decide +kernel
theorem dX10_next_27 : decode cX10_next 27 = .ok (.invokevirtual 271, 3) := by decide +kernel
theorem dX10_next_30 : decode cX10_next 30 = .ok (.ifCond .ne 7, 3) := by decide +kernel
theorem dX10_next_33 : decode cX10_next 33 = .ok (.iconst 1, 1) := by decide +kernel
theorem dX10_next_34 : decode cX10_next 34 = .ok (.goto 4, 3) := by decide +kernel
theorem dX10_next_37 : decode cX10_next 37 = .ok (.iconst 2, 1) := by decide +kernel
theorem dX10_next_38 : decode cX10_next 38 = .ok (.istore_n 1, 1) := by decide +kernel
theorem dX10_next_39 : decode cX10_next 39 = .ok (.aload_n 0, 1) := by decide +kernel
theorem dX10_next_40 : decode cX10_next 40 = .ok (.getfield 57, 3) := by decide +kernel
theorem dX10_next_43 : decode cX10_next 43 = .ok (.sipush 221, 3) := by decide +kernel
theorem dX10_next_46 : decode cX10_next 46 = .ok (.iaload, 1) := by decide +kernel
theorem dX10_next_47 : decode cX10_next 47 = .ok (.istore_n 2, 1) := by decide +kernel
theorem dX10_next_48 : decode cX10_next 48 = .ok (.aload_n 0, 1) := by decide +kernel
theorem dX10_next_49 : decode cX10_next 49 = .ok (.getfield 57, 3) := by decide +kernel
theorem dX10_next_52 : decode cX10_next 52 = .ok (.aload_n 0, 1) := by decide +kernel
theorem dX10_next_53 : decode cX10_next 53 = .ok (.getfield 60, 3) := by decide +kernel
theorem dX10_next_56 : decode cX10_next 56 = .ok (.invokestatic 370, 3) := by decide +kernel
theorem dX10_next_59 : decode cX10_next 59 = .ok (.aload_n 0, 1) := by decide +kernel
theorem dX10_next_60 : decode cX10_next 60 = .ok (.iconst 0, 1) := by decide +kernel
theorem dX10_next_61 : decode cX10_next 61 = .ok (.invokevirtual 341, 3) := by decide +kernel
theorem dX10_next_64 : decode cX10_next 64 = .ok (.pop, 1) := by decide +kernel
theorem dX10_next_65 : decode cX10_next 65 = .ok (.aload_n 0, 1) := by decide +kernel
theorem dX10_next_66 : decode cX10_next 66 = .ok (.getfield 57, 3) := by decide +kernel
theorem dX10_next_69 : decode cX10_next 69 = .ok (.sipush 221, 3) := by decide +kernel
theorem dX10_next_72 : decode cX10_next 72 = .ok (.iaload, 1) := by decide +kernel
theorem dX10_next_73 : decode cX10_next 73 = .ok (.iload_n 2, 1) := by decide +kernel
theorem dX10_next_74 : decode cX10_next 74 = .ok (.if_icmp .le 17, 3) := by decide +kernel
theorem dX10_next_77 : decode cX10_next 77 = .ok (.bipush 10, 2) := by decide +kernel
theorem dX10_next_79 : decode cX10_next 79 = .ok (.aload_n 0, 1) := by decide +kernel
theorem dX10_next_80 : decode cX10_next 80 = .ok (.getfield 57, 3) := by decide +kernel
theorem dX10_next_83 : decode cX10_next 83 = .ok (.sipush 233, 3) := by decide +kernel
theorem dX10_next_86 : decode cX10_next 86 = .ok (.iaload, 1) := by decide +kernel
theorem dX10_next_87 : decode cX10_next 87 = .ok (.iadd, 1) := by decide +kernel
theorem dX10_next_88 : decode cX10_next 88 = .ok (.goto 4, 3) := by decide +kernel
theorem dX10_next_91 : decode cX10_next 91 = .ok (.iload_n 1, 1) := by decide +kernel
theorem dX10_next_92 : decode cX10_next 92 = .ok (.istore_n 3, 1) := by decide +kernel
theorem dX10_next_93 : decode cX10_next 93 = .ok (.aload_n 0, 1) := by decide +kernel
theorem dX10_next_94 : decode cX10_next 94 = .ok (.getfield 60, 3) := by decide +kernel
theorem dX10_next_97 : decode cX10_next 97 = .ok (.aload_n 0, 1) := by decide +kernel
theorem dX10_next_98 : decode cX10_next 98 = .ok (.getfield 57, 3) := by decide +kernel
theorem dX10_next_101 : decode cX10_next 101 = .ok (.invokestatic 370, 3) := by decide +kernel
theorem dX10_next_104 : decode cX10_next 104 = .ok (.iload_n 3, 1) := by decide +kernel
theorem dX10_next_105 : decode cX10_next 105 = .ok (.ireturn, 1) := by decide +kernel
theorem dX10_alarm_0 : decode cX10_alarm 0 = .ok (.aload_n 0, 1) := by decide +kernel
theorem dX10_alarm_1 : decode cX10_alarm 1 = .ok (.iconst 0, 1) := by decide +kernel
theorem dX10_alarm_2 : decode cX10_alarm 2 = .ok (.putfield 90, 3) := by decide +kernel
theorem dX10_alarm_5 : decode cX10_alarm 5 = .ok (.aload_n 0, 1) := by decide +kernel
theorem dX10_alarm_6 : decode cX10_alarm 6 = .ok (.getfield 57, 3) := by decide +kernel
theorem dX10_alarm_9 : decode cX10_alarm 9 = .ok (.sipush 221, 3) := by decide +kernel
theorem dX10_alarm_12 : decode cX10_alarm 12 = .ok (.iaload, 1) := by decide +kernel
theorem dX10_alarm_13 : decode cX10_alarm 13 = .ok (.bipush 8, 2) := by decide +kernel
theorem dX10_alarm_15 : decode cX10_alarm 15 = .ok (.if_icmp .ge 14, 3) := by decide +kernel
theorem dX10_alarm_18 : decode cX10_alarm 18 = .ok (.aload_n 0, 1) := by decide +kernel
theorem dX10_alarm_19 : decode cX10_alarm 19 = .ok (.getfield 57, 3) := by decide +kernel
theorem dX10_alarm_22 : decode cX10_alarm 22 = .ok (.sipush 221, 3) := by decide +kernel
theorem dX10_alarm_25 : decode cX10_alarm 25 = .ok (.iaload, 1) := by decide +kernel
theorem dX10_alarm_26 : decode cX10_alarm 26 = .ok (.goto 5, 3) := by decide +kernel
theorem dX10_alarm_29 : decode cX10_alarm 29 = .ok (.bipush 8, 2) := by decide +kernel
theorem dX10_alarm_31 : decode cX10_alarm 31 = .ok (.istore_n 3, 1) := by decide +kernel
theorem dX10_alarm_32 : decode cX10_alarm 32 = .ok (.iload_n 1, 1) := by decide +kernel
theorem dX10_alarm_33 : decode cX10_alarm 33 = .ok (.iload_n 3, 1) := by decide +kernel
theorem dX10_alarm_34 : decode cX10_alarm 34 = .ok (.invokestatic 364, 3) := by decide +kernel
theorem dX10_alarm_37 : decode cX10_alarm 37 = .ok (.ifCond .eq 28, 3) := by decide +kernel
theorem dX10_alarm_40 : decode cX10_alarm 40 = .ok (.iload_n 2, 1) := by decide +kernel
theorem dX10_alarm_41 : decode cX10_alarm 41 = .ok (.iconst 4, 1) := by decide +kernel
theorem dX10_alarm_42 : decode cX10_alarm 42 = .ok (.invokestatic 364, 3) := by decide +kernel
theorem dX10_alarm_45 : decode cX10_alarm 45 = .ok (.ifCond .eq 20, 3) := by decide +kernel
theorem dX10_alarm_48 : decode cX10_alarm 48 = .ok (.aload_n 0, 1) := by decide +kernel
theorem dX10_alarm_49 : decode cX10_alarm 49 = .ok (.getfield 57, 3) := by decide +kernel
theorem dX10_alarm_52 : decode cX10_alarm 52 = .ok (.sipush 233, 3) := by decide +kernel
theorem dX10_alarm_55 : decode cX10_alarm 55 = .ok (.iconst 4, 1) := by decide +kernel
theorem dX10_alarm_56 : decode cX10_alarm 56 = .ok (.iload_n 1, 1) := by decide +kernel
theorem dX10_alarm_57 : decode cX10_alarm 57 = .ok (.imul, 1) := by decide +kernel
theorem dX10_alarm_58 : decode cX10_alarm 58 = .ok (.iadd, 1) := by decide +kernel
theorem dX10_alarm_59 : decode cX10_alarm 59 = .ok (.iload_n 2, 1) := by decide +kernel
theorem dX10_alarm_60 : decode cX10_alarm 60 = .ok (.iadd, 1) := by decide +kernel
theorem dX10_alarm_61 : decode cX10_alarm 61 = .ok (.iaload, 1) := by decide +kernel
theorem dX10_alarm_62 : decode cX10_alarm 62 = .ok (.goto 4, 3) := by decide +kernel
theorem dX10_alarm_65 : decode cX10_alarm 65 = .ok (.iconst (-1), 1) := by decide +kernel
theorem dX10_alarm_66 : decode cX10_alarm 66 = .ok (.ireturn, 1) := by decide +kernel
theorem dX10_alone_0 : decode cX10_alone 0 = .ok (.aload_n 0, 1) := by decide +kernel
theorem dX10_alone_1 : decode cX10_alone 1 = .ok (.iconst 0, 1) := by decide +kernel
theorem dX10_alone_2 : decode cX10_alone 2 = .ok (.putfield 374, 3) := by decide +kernel
theorem dX10_alone_5 : decode cX10_alone 5 = .ok (.iconst 0, 1) := by decide +kernel
theorem dX10_alone_6 : decode cX10_alone 6 = .ok (.istore_n 2, 1) := by decide +kernel
theorem dX10_alone_7 : decode cX10_alone 7 = .ok (.iload_n 2, 1) := by decide +kernel
theorem dX10_alone_8 : decode cX10_alone 8 = .ok (.bipush 8, 2) := by decide +kernel
theorem dX10_alone_10 : decode cX10_alone 10 = .ok (.if_icmp .ge 16, 3) := by decide +kernel
theorem dX10_alone_13 : decode cX10_alone 13 = .ok (.aload_n 0, 1) := by decide +kernel
theorem dX10_alone_14 : decode cX10_alone 14 = .ok (.getfield 72, 3) := by decide +kernel
theorem dX10_alone_17 : decode cX10_alone 17 = .ok (.iload_n 2, 1) := by decide +kernel
theorem dX10_alone_18 : decode cX10_alone 18 = .ok (.iconst 0, 1) := by decide +kernel
theorem dX10_alone_19 : decode cX10_alone 19 = .ok (.iastore, 1) := by decide +kernel
theorem dX10_alone_20 : decode cX10_alone 20 = .ok (.iinc 2 1, 3) := by decide +kernel
theorem dX10_alone_23 : decode cX10_alone 23 = .ok (.goto (-16), 3) := by decide +kernel
theorem dX10_alone_26 : decode cX10_alone 26 = .ok (.iconst 0, 1) := by decide +kernel
theorem dX10_alone_27 : decode cX10_alone 27 = .ok (.istore_n 2, 1) := by decide +kernel
theorem dX10_alone_28 : decode cX10_alone 28 = .ok (.iload_n 2, 1) := by decide +kernel
theorem dX10_alone_29 : decode cX10_alone 29 = .ok (.iconst 4, 1) := by decide +kernel
theorem dX10_alone_30 : decode cX10_alone 30 = .ok (.if_icmp .ge 16, 3) := by decide +kernel
theorem dX10_alone_33 : decode cX10_alone 33 = .ok (.aload_n 0, 1) := by decide +kernel
theorem dX10_alone_34 : decode cX10_alone 34 = .ok (.getfield 75, 3) := by decide +kernel
theorem dX10_alone_37 : decode cX10_alone 37 = .ok (.iload_n 2, 1) := by decide +kernel
theorem dX10_alone_38 : decode cX10_alone 38 = .ok (.iconst 0, 1) := by decide +kernel
theorem dX10_alone_39 : decode cX10_alone 39 = .ok (.iastore, 1) := by decide +kernel
theorem dX10_alone_40 : decode cX10_alone 40 = .ok (.iinc 2 1, 3) := by decide +kernel
theorem dX10_alone_43 : decode cX10_alone 43 = .ok (.goto (-15), 3) := by decide +kernel
theorem dX10_alone_46 : decode cX10_alone 46 = .ok (.iconst 0, 1) := by decide +kernel
theorem dX10_alone_47 : decode cX10_alone 47 = .ok (.istore_n 2, 1) := by decide +kernel
theorem dX10_alone_48 : decode cX10_alone 48 = .ok (.iload_n 2, 1) := by decide +kernel
theorem dX10_alone_49 : decode cX10_alone 49 = .ok (.bipush 32, 2) := by decide +kernel
theorem dX10_alone_51 : decode cX10_alone 51 = .ok (.if_icmp .ge 21, 3) := by decide +kernel
theorem dX10_alone_54 : decode cX10_alone 54 = .ok (.aload_n 0, 1) := by decide +kernel
theorem dX10_alone_55 : decode cX10_alone 55 = .ok (.getfield 78, 3) := by decide +kernel
theorem dX10_alone_58 : decode cX10_alone 58 = .ok (.iload_n 2, 1) := by decide +kernel
theorem dX10_alone_59 : decode cX10_alone 59 = .ok (.aload_n 0, 1) := by decide +kernel
theorem dX10_alone_60 : decode cX10_alone 60 = .ok (.getfield 47, 3) := by decide +kernel
theorem dX10_alone_63 : decode cX10_alone 63 = .ok (.iload_n 2, 1) := by decide +kernel
theorem dX10_alone_64 : decode cX10_alone 64 = .ok (.iaload, 1) := by decide +kernel
theorem dX10_alone_65 : decode cX10_alone 65 = .ok (.iastore, 1) := by decide +kernel
theorem dX10_alone_66 : decode cX10_alone 66 = .ok (.iinc 2 1, 3) := by decide +kernel
theorem dX10_alone_69 : decode cX10_alone 69 = .ok (.goto (-21), 3) := by decide +kernel
theorem dX10_alone_72 : decode cX10_alone 72 = .ok (.aload_n 0, 1) := by decide +kernel
theorem dX10_alone_73 : decode cX10_alone 73 = .ok (.iload_n 1, 1) := by decide +kernel
theorem dX10_alone_74 : decode cX10_alone 74 = .ok (.invokevirtual 377, 3) := by decide +kernel
theorem dX10_alone_77 : decode cX10_alone 77 = .ok (.return_, 1) := by decide +kernel
theorem dX10_aloneGoes_0 : decode cX10_aloneGoes 0 = .ok (.aload_n 0, 1) := by decide +kernel
theorem dX10_aloneGoes_1 : decode cX10_aloneGoes 1 = .ok (.iconst 0, 1) := by decide +kernel
theorem dX10_aloneGoes_2 : decode cX10_aloneGoes 2 = .ok (.putfield 380, 3) := by decide +kernel
theorem dX10_aloneGoes_5 : decode cX10_aloneGoes 5 = .ok (.aload_n 0, 1) := by decide +kernel
theorem dX10_aloneGoes_6 : decode cX10_aloneGoes 6 = .ok (.iconst 0, 1) := by decide +kernel
theorem dX10_aloneGoes_7 : decode cX10_aloneGoes 7 = .ok (.putfield 383, 3) := by decide +kernel
theorem dX10_aloneGoes_10 : decode cX10_aloneGoes 10 = .ok (.aload_n 0, 1) := by decide +kernel
theorem dX10_aloneGoes_11 : decode cX10_aloneGoes 11 = .ok (.getfield 380, 3) := by decide +kernel
theorem dX10_aloneGoes_14 : decode cX10_aloneGoes 14 = .ok (.iload_n 1, 1) := by decide +kernel
theorem dX10_aloneGoes_15 : decode cX10_aloneGoes 15 = .ok (.if_icmp .ge 35, 3) := by decide +kernel
theorem dX10_aloneGoes_18 : decode cX10_aloneGoes 18 = .ok (.aload_n 0, 1) := by decide +kernel
theorem dX10_aloneGoes_19 : decode cX10_aloneGoes 19 = .ok (.aload_n 0, 1) := by decide +kernel
theorem dX10_aloneGoes_20 : decode cX10_aloneGoes 20 = .ok (.getfield 374, 3) := by decide +kernel
theorem dX10_aloneGoes_23 : decode cX10_aloneGoes 23 = .ok (.invokevirtual 256, 3) := by decide +kernel
theorem dX10_aloneGoes_26 : decode cX10_aloneGoes 26 = .ok (.ifCond .ne 24, 3) := by decide +kernel
theorem dX10_aloneGoes_29 : decode cX10_aloneGoes 29 = .ok (.aload_n 0, 1) := by decide +kernel
theorem dX10_aloneGoes_30 : decode cX10_aloneGoes 30 = .ok (.aload_n 0, 1) := by decide +kernel
theorem dX10_aloneGoes_31 : decode cX10_aloneGoes 31 = .ok (.getfield 374, 3) := by decide +kernel
theorem dX10_aloneGoes_34 : decode cX10_aloneGoes 34 = .ok (.invokevirtual 386, 3) := by decide +kernel
theorem dX10_aloneGoes_37 : decode cX10_aloneGoes 37 = .ok (.aload_n 0, 1) := by decide +kernel
theorem dX10_aloneGoes_38 : decode cX10_aloneGoes 38 = .ok (.dup, 1) := by decide +kernel
theorem dX10_aloneGoes_39 : decode cX10_aloneGoes 39 = .ok (.getfield 380, 3) := by decide +kernel
theorem dX10_aloneGoes_42 : decode cX10_aloneGoes 42 = .ok (.iconst 1, 1) := by decide +kernel
theorem dX10_aloneGoes_43 : decode cX10_aloneGoes 43 = .ok (.iadd, 1) := by decide +kernel
theorem dX10_aloneGoes_44 : decode cX10_aloneGoes 44 = .ok (.putfield 380, 3) := by decide +kernel
theorem dX10_aloneGoes_47 : decode cX10_aloneGoes 47 = .ok (.goto (-37), 3) := by decide +kernel
theorem dX10_aloneGoes_50 : decode cX10_aloneGoes 50 = .ok (.return_, 1) := by decide +kernel
theorem dX10_aloneStep_0 : decode cX10_aloneStep 0 = .ok (.aload_n 0, 1) := by decide +kernel
theorem dX10_aloneStep_1 : decode cX10_aloneStep 1 = .ok (.getfield 23, 3) := by decide +kernel
theorem dX10_aloneStep_4 : decode cX10_aloneStep 4 = .ok (.iload_n 1, 1) := by decide +kernel
theorem dX10_aloneStep_5 : decode cX10_aloneStep 5 = .ok (.iaload, 1) := by decide +kernel
theorem dX10_aloneStep_6 : decode cX10_aloneStep 6 = .ok (.istore_n 2, 1) := by decide +kernel
theorem dX10_aloneStep_7 : decode cX10_aloneStep 7 = .ok (.aload_n 0, 1) := by decide +kernel
theorem dX10_aloneStep_8 : decode cX10_aloneStep 8 = .ok (.getfield 72, 3) := by decide +kernel
theorem dX10_aloneStep_11 : decode cX10_aloneStep 11 = .ok (.aload_n 0, 1) := by decide +kernel
theorem dX10_aloneStep_12 : decode cX10_aloneStep 12 = .ok (.getfield 26, 3) := by decide +kernel
theorem dX10_aloneStep_15 : decode cX10_aloneStep 15 = .ok (.iload_n 1, 1) := by decide +kernel
theorem dX10_aloneStep_16 : decode cX10_aloneStep 16 = .ok (.iaload, 1) := by decide +kernel
theorem dX10_aloneStep_17 : decode cX10_aloneStep 17 = .ok (.bipush 8, 2) := by decide +kernel
theorem dX10_aloneStep_19 : decode cX10_aloneStep 19 = .ok (.irem, 1) := by decide +kernel
theorem dX10_aloneStep_20 : decode cX10_aloneStep 20 = .ok (.iaload, 1) := by decide +kernel
theorem dX10_aloneStep_21 : decode cX10_aloneStep 21 = .ok (.istore_n 3, 1) := by decide +kernel
theorem dX10_aloneStep_22 : decode cX10_aloneStep 22 = .ok (.aload_n 0, 1) := by decide +kernel
theorem dX10_aloneStep_23 : decode cX10_aloneStep 23 = .ok (.getfield 75, 3) := by decide +kernel
theorem dX10_aloneStep_26 : decode cX10_aloneStep 26 = .ok (.aload_n 0, 1) := by decide +kernel
theorem dX10_aloneStep_27 : decode cX10_aloneStep 27 = .ok (.getfield 26, 3) := by decide +kernel
theorem dX10_aloneStep_30 : decode cX10_aloneStep 30 = .ok (.iload_n 1, 1) := by decide +kernel
theorem dX10_aloneStep_31 : decode cX10_aloneStep 31 = .ok (.iaload, 1) := by decide +kernel
theorem dX10_aloneStep_32 : decode cX10_aloneStep 32 = .ok (.iconst 4, 1) := by decide +kernel
theorem dX10_aloneStep_33 : decode cX10_aloneStep 33 = .ok (.irem, 1) := by decide +kernel
theorem dX10_aloneStep_34 : decode cX10_aloneStep 34 = .ok (.iaload, 1) := by decide +kernel
theorem dX10_aloneStep_35 : decode cX10_aloneStep 35 = .ok (.istore 4, 2) := by decide +kernel
theorem dX10_aloneStep_37 : decode cX10_aloneStep 37 = .ok (.iload_n 3, 1) := by decide +kernel
theorem dX10_aloneStep_38 : decode cX10_aloneStep 38 = .ok (.aload_n 0, 1) := by decide +kernel
theorem dX10_aloneStep_39 : decode cX10_aloneStep 39 = .ok (.getfield 29, 3) := by decide +kernel
theorem dX10_aloneStep_42 : decode cX10_aloneStep 42 = .ok (.iload_n 1, 1) := by decide +kernel
theorem dX10_aloneStep_43 : decode cX10_aloneStep 43 = .ok (.iaload, 1) := by decide +kernel
theorem dX10_aloneStep_44 : decode cX10_aloneStep 44 = .ok (.iadd, 1) := by decide +kernel
theorem dX10_aloneStep_45 : decode cX10_aloneStep 45 = .ok (.bipush 31, 2) := by decide +kernel
theorem dX10_aloneStep_47 : decode cX10_aloneStep 47 = .ok (.iand, 1) := by decide +kernel
theorem dX10_aloneStep_48 : decode cX10_aloneStep 48 = .ok (.istore 5, 2) := by decide +kernel
theorem dX10_aloneStep_50 : decode cX10_aloneStep 50 = .ok (.iload_n 1, 1) := by decide +kernel
theorem dX10_aloneStep_51 : decode cX10_aloneStep 51 = .ok (.iconst 1, 1) := by decide +kernel
theorem dX10_aloneStep_52 : decode cX10_aloneStep 52 = .ok (.iadd, 1) := by decide +kernel
theorem dX10_aloneStep_53 : decode cX10_aloneStep 53 = .ok (.bipush 64, 2) := by decide +kernel
theorem dX10_aloneStep_55 : decode cX10_aloneStep 55 = .ok (.irem, 1) := by decide +kernel
theorem dX10_aloneStep_56 : decode cX10_aloneStep 56 = .ok (.istore 6, 2) := by decide +kernel
theorem dX10_aloneStep_58 : decode cX10_aloneStep 58 = .ok (.aload_n 0, 1) := by decide +kernel
theorem dX10_aloneStep_59 : decode cX10_aloneStep 59 = .ok (.getfield 20, 3) := by decide +kernel
theorem dX10_aloneStep_62 : decode cX10_aloneStep 62 = .ok (.iload_n 1, 1) := by decide +kernel
theorem dX10_aloneStep_63 : decode cX10_aloneStep 63 = .ok (.iaload, 1) := by decide +kernel
theorem dX10_aloneStep_64 : decode cX10_aloneStep 64 = .ok (.tableswitch 335 7 20 #[72, 87, 109, 131, 153, 175, 191, 207, 235, 249, 263, 274, 299, 324], 72) := by decide +kernel
theorem dX10_aloneStep_136 : decode cX10_aloneStep 136 = .ok (.aload_n 0, 1) := by decide +kernel
theorem dX10_aloneStep_137 : decode cX10_aloneStep 137 = .ok (.getfield 72, 3) := by decide +kernel
theorem dX10_aloneStep_140 : decode cX10_aloneStep 140 = .ok (.iload_n 2, 1) := by decide +kernel
theorem dX10_aloneStep_141 : decode cX10_aloneStep 141 = .ok (.aload_n 0, 1) := by decide +kernel
theorem dX10_aloneStep_142 : decode cX10_aloneStep 142 = .ok (.getfield 26, 3) := by decide +kernel
theorem dX10_aloneStep_145 : decode cX10_aloneStep 145 = .ok (.iload_n 1, 1) := by decide +kernel
theorem dX10_aloneStep_146 : decode cX10_aloneStep 146 = .ok (.iaload, 1) := by decide +kernel
theorem dX10_aloneStep_147 : decode cX10_aloneStep 147 = .ok (.iastore, 1) := by decide +kernel
theorem dX10_aloneStep_148 : decode cX10_aloneStep 148 = .ok (.goto 288, 3) := by decide +kernel
theorem dX10_aloneStep_151 : decode cX10_aloneStep 151 = .ok (.aload_n 0, 1) := by decide +kernel
theorem dX10_aloneStep_152 : decode cX10_aloneStep 152 = .ok (.getfield 72, 3) := by decide +kernel
theorem dX10_aloneStep_155 : decode cX10_aloneStep 155 = .ok (.iload_n 2, 1) := by decide +kernel
theorem dX10_aloneStep_156 : decode cX10_aloneStep 156 = .ok (.iload_n 3, 1) := by decide +kernel
theorem dX10_aloneStep_157 : decode cX10_aloneStep 157 = .ok (.aload_n 0, 1) := by decide +kernel
theorem dX10_aloneStep_158 : decode cX10_aloneStep 158 = .ok (.getfield 72, 3) := by decide +kernel
theorem dX10_aloneStep_161 : decode cX10_aloneStep 161 = .ok (.aload_n 0, 1) := by decide +kernel
theorem dX10_aloneStep_162 : decode cX10_aloneStep 162 = .ok (.getfield 29, 3) := by decide +kernel
theorem dX10_aloneStep_165 : decode cX10_aloneStep 165 = .ok (.iload_n 1, 1) := by decide +kernel
theorem dX10_aloneStep_166 : decode cX10_aloneStep 166 = .ok (.iaload, 1) := by decide +kernel
theorem dX10_aloneStep_167 : decode cX10_aloneStep 167 = .ok (.iaload, 1) := by decide +kernel
theorem dX10_aloneStep_168 : decode cX10_aloneStep 168 = .ok (.iadd, 1) := by decide +kernel
theorem dX10_aloneStep_169 : decode cX10_aloneStep 169 = .ok (.iastore, 1) := by decide +kernel
theorem dX10_aloneStep_170 : decode cX10_aloneStep 170 = .ok (.goto 266, 3) := by decide +kernel
theorem dX10_aloneStep_173 : decode cX10_aloneStep 173 = .ok (.aload_n 0, 1) := by decide +kernel
theorem dX10_aloneStep_174 : decode cX10_aloneStep 174 = .ok (.getfield 72, 3) := by decide +kernel
theorem dX10_aloneStep_177 : decode cX10_aloneStep 177 = .ok (.iload_n 2, 1) := by decide +kernel
theorem dX10_aloneStep_178 : decode cX10_aloneStep 178 = .ok (.iload_n 3, 1) := by decide +kernel
theorem dX10_aloneStep_179 : decode cX10_aloneStep 179 = .ok (.aload_n 0, 1) := by decide +kernel
theorem dX10_aloneStep_180 : decode cX10_aloneStep 180 = .ok (.getfield 72, 3) := by decide +kernel
theorem dX10_aloneStep_183 : decode cX10_aloneStep 183 = .ok (.aload_n 0, 1) := by decide +kernel
theorem dX10_aloneStep_184 : decode cX10_aloneStep 184 = .ok (.getfield 29, 3) := by decide +kernel
theorem dX10_aloneStep_187 : decode cX10_aloneStep 187 = .ok (.iload_n 1, 1) := by decide +kernel
theorem dX10_aloneStep_188 : decode cX10_aloneStep 188 = .ok (.iaload, 1) := by decide +kernel
theorem dX10_aloneStep_189 : decode cX10_aloneStep 189 = .ok (.iaload, 1) := by decide +kernel
theorem dX10_aloneStep_190 : decode cX10_aloneStep 190 = .ok (.isub, 1) := by decide +kernel
theorem dX10_aloneStep_191 : decode cX10_aloneStep 191 = .ok (.iastore, 1) := by decide +kernel
theorem dX10_aloneStep_192 : decode cX10_aloneStep 192 = .ok (.goto 244, 3) := by decide +kernel
theorem dX10_aloneStep_195 : decode cX10_aloneStep 195 = .ok (.aload_n 0, 1) := by decide +kernel
theorem dX10_aloneStep_196 : decode cX10_aloneStep 196 = .ok (.getfield 72, 3) := by decide +kernel
theorem dX10_aloneStep_199 : decode cX10_aloneStep 199 = .ok (.iload_n 2, 1) := by decide +kernel
theorem dX10_aloneStep_200 : decode cX10_aloneStep 200 = .ok (.iload_n 3, 1) := by decide +kernel
theorem dX10_aloneStep_201 : decode cX10_aloneStep 201 = .ok (.aload_n 0, 1) := by decide +kernel
theorem dX10_aloneStep_202 : decode cX10_aloneStep 202 = .ok (.getfield 72, 3) := by decide +kernel
theorem dX10_aloneStep_205 : decode cX10_aloneStep 205 = .ok (.aload_n 0, 1) := by decide +kernel
theorem dX10_aloneStep_206 : decode cX10_aloneStep 206 = .ok (.getfield 29, 3) := by decide +kernel
theorem dX10_aloneStep_209 : decode cX10_aloneStep 209 = .ok (.iload_n 1, 1) := by decide +kernel
theorem dX10_aloneStep_210 : decode cX10_aloneStep 210 = .ok (.iaload, 1) := by decide +kernel
theorem dX10_aloneStep_211 : decode cX10_aloneStep 211 = .ok (.iaload, 1) := by decide +kernel
theorem dX10_aloneStep_212 : decode cX10_aloneStep 212 = .ok (.imul, 1) := by decide +kernel
theorem dX10_aloneStep_213 : decode cX10_aloneStep 213 = .ok (.iastore, 1) := by decide +kernel
theorem dX10_aloneStep_214 : decode cX10_aloneStep 214 = .ok (.goto 222, 3) := by decide +kernel
theorem dX10_aloneStep_217 : decode cX10_aloneStep 217 = .ok (.aload_n 0, 1) := by decide +kernel
theorem dX10_aloneStep_218 : decode cX10_aloneStep 218 = .ok (.getfield 72, 3) := by decide +kernel
theorem dX10_aloneStep_221 : decode cX10_aloneStep 221 = .ok (.iload_n 2, 1) := by decide +kernel
theorem dX10_aloneStep_222 : decode cX10_aloneStep 222 = .ok (.iload_n 3, 1) := by decide +kernel
theorem dX10_aloneStep_223 : decode cX10_aloneStep 223 = .ok (.aload_n 0, 1) := by decide +kernel
theorem dX10_aloneStep_224 : decode cX10_aloneStep 224 = .ok (.getfield 72, 3) := by decide +kernel
theorem dX10_aloneStep_227 : decode cX10_aloneStep 227 = .ok (.aload_n 0, 1) := by decide +kernel
theorem dX10_aloneStep_228 : decode cX10_aloneStep 228 = .ok (.getfield 29, 3) := by decide +kernel
theorem dX10_aloneStep_231 : decode cX10_aloneStep 231 = .ok (.iload_n 1, 1) := by decide +kernel
theorem dX10_aloneStep_232 : decode cX10_aloneStep 232 = .ok (.iaload, 1) := by decide +kernel
theorem dX10_aloneStep_233 : decode cX10_aloneStep 233 = .ok (.iaload, 1) := by decide +kernel
theorem dX10_aloneStep_234 : decode cX10_aloneStep 234 = .ok (.ixor, 1) := by decide +kernel
theorem dX10_aloneStep_235 : decode cX10_aloneStep 235 = .ok (.iastore, 1) := by decide +kernel
theorem dX10_aloneStep_236 : decode cX10_aloneStep 236 = .ok (.goto 200, 3) := by decide +kernel
theorem dX10_aloneStep_239 : decode cX10_aloneStep 239 = .ok (.aload_n 0, 1) := by decide +kernel
theorem dX10_aloneStep_240 : decode cX10_aloneStep 240 = .ok (.getfield 72, 3) := by decide +kernel
theorem dX10_aloneStep_243 : decode cX10_aloneStep 243 = .ok (.iload_n 2, 1) := by decide +kernel
theorem dX10_aloneStep_244 : decode cX10_aloneStep 244 = .ok (.aload_n 0, 1) := by decide +kernel
theorem dX10_aloneStep_245 : decode cX10_aloneStep 245 = .ok (.getfield 78, 3) := by decide +kernel
theorem dX10_aloneStep_248 : decode cX10_aloneStep 248 = .ok (.iload 5, 2) := by decide +kernel
theorem dX10_aloneStep_250 : decode cX10_aloneStep 250 = .ok (.iaload, 1) := by decide +kernel
theorem dX10_aloneStep_251 : decode cX10_aloneStep 251 = .ok (.iastore, 1) := by decide +kernel
theorem dX10_aloneStep_252 : decode cX10_aloneStep 252 = .ok (.goto 184, 3) := by decide +kernel
theorem dX10_aloneStep_255 : decode cX10_aloneStep 255 = .ok (.aload_n 0, 1) := by decide +kernel
theorem dX10_aloneStep_256 : decode cX10_aloneStep 256 = .ok (.getfield 78, 3) := by decide +kernel
theorem dX10_aloneStep_259 : decode cX10_aloneStep 259 = .ok (.iload 5, 2) := by decide +kernel
theorem dX10_aloneStep_261 : decode cX10_aloneStep 261 = .ok (.aload_n 0, 1) := by decide +kernel
theorem dX10_aloneStep_262 : decode cX10_aloneStep 262 = .ok (.getfield 72, 3) := by decide +kernel
theorem dX10_aloneStep_265 : decode cX10_aloneStep 265 = .ok (.iload_n 2, 1) := by decide +kernel
theorem dX10_aloneStep_266 : decode cX10_aloneStep 266 = .ok (.iaload, 1) := by decide +kernel
theorem dX10_aloneStep_267 : decode cX10_aloneStep 267 = .ok (.iastore, 1) := by decide +kernel
theorem dX10_aloneStep_268 : decode cX10_aloneStep 268 = .ok (.goto 168, 3) := by decide +kernel
theorem dX10_aloneStep_271 : decode cX10_aloneStep 271 = .ok (.aload_n 0, 1) := by decide +kernel
theorem dX10_aloneStep_272 : decode cX10_aloneStep 272 = .ok (.getfield 81, 3) := by decide +kernel
theorem dX10_aloneStep_275 : decode cX10_aloneStep 275 = .ok (.aload_n 0, 1) := by decide +kernel
theorem dX10_aloneStep_276 : decode cX10_aloneStep 276 = .ok (.getfield 383, 3) := by decide +kernel
theorem dX10_aloneStep_279 : decode cX10_aloneStep 279 = .ok (.aload_n 0, 1) := by decide +kernel
theorem dX10_aloneStep_280 : decode cX10_aloneStep 280 = .ok (.getfield 72, 3) := by decide +kernel
theorem dX10_aloneStep_283 : decode cX10_aloneStep 283 = .ok (.iload_n 2, 1) := by decide +kernel
theorem dX10_aloneStep_284 : decode cX10_aloneStep 284 = .ok (.iaload, 1) := by decide +kernel
theorem dX10_aloneStep_285 : decode cX10_aloneStep 285 = .ok (.iastore, 1) := by decide +kernel
theorem dX10_aloneStep_286 : decode cX10_aloneStep 286 = .ok (.aload_n 0, 1) := by decide +kernel
theorem dX10_aloneStep_287 : decode cX10_aloneStep 287 = .ok (.dup, 1) := by decide +kernel
theorem dX10_aloneStep_288 : decode cX10_aloneStep 288 = .ok (.getfield 383, 3) := by decide +kernel
theorem dX10_aloneStep_291 : decode cX10_aloneStep 291 = .ok (.iconst 1, 1) := by decide +kernel
theorem dX10_aloneStep_292 : decode cX10_aloneStep 292 = .ok (.iadd, 1) := by decide +kernel
theorem dX10_aloneStep_293 : decode cX10_aloneStep 293 = .ok (.putfield 383, 3) := by decide +kernel
theorem dX10_aloneStep_296 : decode cX10_aloneStep 296 = .ok (.goto 140, 3) := by decide +kernel
theorem dX10_aloneStep_299 : decode cX10_aloneStep 299 = .ok (.aload_n 0, 1) := by decide +kernel
theorem dX10_aloneStep_300 : decode cX10_aloneStep 300 = .ok (.getfield 75, 3) := by decide +kernel
theorem dX10_aloneStep_303 : decode cX10_aloneStep 303 = .ok (.iload_n 2, 1) := by decide +kernel
theorem dX10_aloneStep_304 : decode cX10_aloneStep 304 = .ok (.iload_n 3, 1) := by decide +kernel
theorem dX10_aloneStep_305 : decode cX10_aloneStep 305 = .ok (.i2d, 1) := by decide +kernel
theorem dX10_aloneStep_306 : decode cX10_aloneStep 306 = .ok (.invokestatic 246, 3) := by decide +kernel
theorem dX10_aloneStep_309 : decode cX10_aloneStep 309 = .ok (.iastore, 1) := by decide +kernel
theorem dX10_aloneStep_310 : decode cX10_aloneStep 310 = .ok (.goto 126, 3) := by decide +kernel
theorem dX10_aloneStep_313 : decode cX10_aloneStep 313 = .ok (.aload_n 0, 1) := by decide +kernel
theorem dX10_aloneStep_314 : decode cX10_aloneStep 314 = .ok (.getfield 72, 3) := by decide +kernel
theorem dX10_aloneStep_317 : decode cX10_aloneStep 317 = .ok (.iload_n 2, 1) := by decide +kernel
theorem dX10_aloneStep_318 : decode cX10_aloneStep 318 = .ok (.iload 4, 2) := by decide +kernel
theorem dX10_aloneStep_320 : decode cX10_aloneStep 320 = .ok (.invokestatic 295, 3) := by decide +kernel
theorem dX10_aloneStep_323 : decode cX10_aloneStep 323 = .ok (.iastore, 1) := by decide +kernel
theorem dX10_aloneStep_324 : decode cX10_aloneStep 324 = .ok (.goto 112, 3) := by decide +kernel
theorem dX10_aloneStep_327 : decode cX10_aloneStep 327 = .ok (.aload_n 0, 1) := by decide +kernel
theorem dX10_aloneStep_328 : decode cX10_aloneStep 328 = .ok (.getfield 72, 3) := by decide +kernel
theorem dX10_aloneStep_331 : decode cX10_aloneStep 331 = .ok (.iload_n 2, 1) := by decide +kernel
theorem dX10_aloneStep_332 : decode cX10_aloneStep 332 = .ok (.iload 4, 2) := by decide +kernel
theorem dX10_aloneStep_334 : decode cX10_aloneStep 334 = .ok (.iastore, 1) := by decide +kernel
theorem dX10_aloneStep_335 : decode cX10_aloneStep 335 = .ok (.goto 101, 3) := by decide +kernel
theorem dX10_aloneStep_338 : decode cX10_aloneStep 338 = .ok (.aload_n 0, 1) := by decide +kernel
theorem dX10_aloneStep_339 : decode cX10_aloneStep 339 = .ok (.getfield 75, 3) := by decide +kernel
theorem dX10_aloneStep_342 : decode cX10_aloneStep 342 = .ok (.iload_n 2, 1) := by decide +kernel
theorem dX10_aloneStep_343 : decode cX10_aloneStep 343 = .ok (.iload 4, 2) := by decide +kernel
theorem dX10_aloneStep_345 : decode cX10_aloneStep 345 = .ok (.aload_n 0, 1) := by decide +kernel
theorem dX10_aloneStep_346 : decode cX10_aloneStep 346 = .ok (.getfield 75, 3) := by decide +kernel
theorem dX10_aloneStep_349 : decode cX10_aloneStep 349 = .ok (.aload_n 0, 1) := by decide +kernel
theorem dX10_aloneStep_350 : decode cX10_aloneStep 350 = .ok (.getfield 29, 3) := by decide +kernel
theorem dX10_aloneStep_353 : decode cX10_aloneStep 353 = .ok (.iload_n 1, 1) := by decide +kernel
theorem dX10_aloneStep_354 : decode cX10_aloneStep 354 = .ok (.iaload, 1) := by decide +kernel
theorem dX10_aloneStep_355 : decode cX10_aloneStep 355 = .ok (.iaload, 1) := by decide +kernel
theorem dX10_aloneStep_356 : decode cX10_aloneStep 356 = .ok (.invokestatic 298, 3) := by decide +kernel
theorem dX10_aloneStep_359 : decode cX10_aloneStep 359 = .ok (.iastore, 1) := by decide +kernel
theorem dX10_aloneStep_360 : decode cX10_aloneStep 360 = .ok (.goto 76, 3) := by decide +kernel
theorem dX10_aloneStep_363 : decode cX10_aloneStep 363 = .ok (.aload_n 0, 1) := by decide +kernel
theorem dX10_aloneStep_364 : decode cX10_aloneStep 364 = .ok (.getfield 75, 3) := by decide +kernel
theorem dX10_aloneStep_367 : decode cX10_aloneStep 367 = .ok (.iload_n 2, 1) := by decide +kernel
theorem dX10_aloneStep_368 : decode cX10_aloneStep 368 = .ok (.iload 4, 2) := by decide +kernel
theorem dX10_aloneStep_370 : decode cX10_aloneStep 370 = .ok (.aload_n 0, 1) := by decide +kernel
theorem dX10_aloneStep_371 : decode cX10_aloneStep 371 = .ok (.getfield 75, 3) := by decide +kernel
theorem dX10_aloneStep_374 : decode cX10_aloneStep 374 = .ok (.aload_n 0, 1) := by decide +kernel
theorem dX10_aloneStep_375 : decode cX10_aloneStep 375 = .ok (.getfield 29, 3) := by decide +kernel
theorem dX10_aloneStep_378 : decode cX10_aloneStep 378 = .ok (.iload_n 1, 1) := by decide +kernel
theorem dX10_aloneStep_379 : decode cX10_aloneStep 379 = .ok (.iaload, 1) := by decide +kernel
theorem dX10_aloneStep_380 : decode cX10_aloneStep 380 = .ok (.iaload, 1) := by decide +kernel
theorem dX10_aloneStep_381 : decode cX10_aloneStep 381 = .ok (.invokestatic 301, 3) := by decide +kernel
theorem dX10_aloneStep_384 : decode cX10_aloneStep 384 = .ok (.iastore, 1) := by decide +kernel
theorem dX10_aloneStep_385 : decode cX10_aloneStep 385 = .ok (.goto 51, 3) := by decide +kernel
theorem dX10_aloneStep_388 : decode cX10_aloneStep 388 = .ok (.aload_n 0, 1) := by decide +kernel
theorem dX10_aloneStep_389 : decode cX10_aloneStep 389 = .ok (.getfield 38, 3) := by decide +kernel
theorem dX10_aloneStep_392 : decode cX10_aloneStep 392 = .ok (.iload_n 1, 1) := by decide +kernel
theorem dX10_aloneStep_393 : decode cX10_aloneStep 393 = .ok (.iaload, 1) := by decide +kernel
theorem dX10_aloneStep_394 : decode cX10_aloneStep 394 = .ok (.istore 6, 2) := by decide +kernel
theorem dX10_aloneStep_396 : decode cX10_aloneStep 396 = .ok (.goto 40, 3) := by decide +kernel
theorem dX10_aloneStep_399 : decode cX10_aloneStep 399 = .ok (.aload_n 0, 1) := by decide +kernel
theorem dX10_aloneStep_400 : decode cX10_aloneStep 400 = .ok (.getfield 20, 3) := by decide +kernel
theorem dX10_aloneStep_403 : decode cX10_aloneStep 403 = .ok (.iload_n 1, 1) := by decide +kernel
theorem dX10_aloneStep_404 : decode cX10_aloneStep 404 = .ok (.iaload, 1) := by decide +kernel
theorem dX10_aloneStep_405 : decode cX10_aloneStep 405 = .ok (.aload_n 0, 1) := by decide +kernel
theorem dX10_aloneStep_406 : decode cX10_aloneStep 406 = .ok (.getfield 72, 3) := by decide +kernel
theorem dX10_aloneStep_409 : decode cX10_aloneStep 409 = .ok (.iload_n 2, 1) := by decide +kernel
theorem dX10_aloneStep_410 : decode cX10_aloneStep 410 = .ok (.iaload, 1) := by decide +kernel
theorem dX10_aloneStep_411 : decode cX10_aloneStep 411 = .ok (.iload_n 3, 1) := by decide +kernel
theorem dX10_aloneStep_412 : decode cX10_aloneStep 412 = .ok (.aload_n 0, 1) := by decide +kernel
theorem dX10_aloneStep_413 : decode cX10_aloneStep 413 = .ok (.getfield 75, 3) := by decide +kernel
theorem dX10_aloneStep_416 : decode cX10_aloneStep 416 = .ok (.iload_n 2, 1) := by decide +kernel
theorem dX10_aloneStep_417 : decode cX10_aloneStep 417 = .ok (.iconst 4, 1) := by decide +kernel
theorem dX10_aloneStep_418 : decode cX10_aloneStep 418 = .ok (.irem, 1) := by decide +kernel
theorem dX10_aloneStep_419 : decode cX10_aloneStep 419 = .ok (.iaload, 1) := by decide +kernel
theorem dX10_aloneStep_420 : decode cX10_aloneStep 420 = .ok (.iload 4, 2) := by decide +kernel
theorem dX10_aloneStep_422 : decode cX10_aloneStep 422 = .ok (.invokestatic 304, 3) := by decide +kernel
theorem dX10_aloneStep_425 : decode cX10_aloneStep 425 = .ok (.ifCond .eq 11, 3) := by decide +kernel
theorem dX10_aloneStep_428 : decode cX10_aloneStep 428 = .ok (.aload_n 0, 1) := by decide +kernel
theorem dX10_aloneStep_429 : decode cX10_aloneStep 429 = .ok (.getfield 38, 3) := by decide +kernel
theorem dX10_aloneStep_432 : decode cX10_aloneStep 432 = .ok (.iload_n 1, 1) := by decide +kernel
theorem dX10_aloneStep_433 : decode cX10_aloneStep 433 = .ok (.iaload, 1) := by decide +kernel
theorem dX10_aloneStep_434 : decode cX10_aloneStep 434 = .ok (.istore 6, 2) := by decide +kernel
theorem dX10_aloneStep_436 : decode cX10_aloneStep 436 = .ok (.aload_n 0, 1) := by decide +kernel
theorem dX10_aloneStep_437 : decode cX10_aloneStep 437 = .ok (.iload 6, 2) := by decide +kernel
theorem dX10_aloneStep_439 : decode cX10_aloneStep 439 = .ok (.putfield 374, 3) := by decide +kernel
theorem dX10_aloneStep_442 : decode cX10_aloneStep 442 = .ok (.return_, 1) := by decide +kernel
theorem dX10_plain_0 : decode cX10_plain 0 = .ok (.aload_n 0, 1) := by decide +kernel
theorem dX10_plain_1 : decode cX10_plain 1 = .ok (.iconst 0, 1) := by decide +kernel
theorem dX10_plain_2 : decode cX10_plain 2 = .ok (.putfield 90, 3) := by decide +kernel
theorem dX10_plain_5 : decode cX10_plain 5 = .ok (.iload_n 1, 1) := by decide +kernel
theorem dX10_plain_6 : decode cX10_plain 6 = .ok (.ifCond .lt 19, 3) := by decide +kernel
theorem dX10_plain_9 : decode cX10_plain 9 = .ok (.iload_n 1, 1) := by decide +kernel
theorem dX10_plain_10 : decode cX10_plain 10 = .ok (.sipush 999, 3) := by decide +kernel
theorem dX10_plain_13 : decode cX10_plain 13 = .ok (.if_icmp .gt 12, 3) := by decide +kernel
theorem dX10_plain_16 : decode cX10_plain 16 = .ok (.iload_n 2, 1) := by decide +kernel
theorem dX10_plain_17 : decode cX10_plain 17 = .ok (.ifCond .lt 8, 3) := by decide +kernel
theorem dX10_plain_20 : decode cX10_plain 20 = .ok (.iload_n 2, 1) := by decide +kernel
theorem dX10_plain_21 : decode cX10_plain 21 = .ok (.iconst 3, 1) := by decide +kernel
theorem dX10_plain_22 : decode cX10_plain 22 = .ok (.if_icmp .le 5, 3) := by decide +kernel
theorem dX10_plain_25 : decode cX10_plain 25 = .ok (.iconst (-1), 1) := by decide +kernel
theorem dX10_plain_26 : decode cX10_plain 26 = .ok (.ireturn, 1) := by decide +kernel
theorem dX10_plain_27 : decode cX10_plain 27 = .ok (.aload_n 0, 1) := by decide +kernel
theorem dX10_plain_28 : decode cX10_plain 28 = .ok (.iload_n 1, 1) := by decide +kernel
theorem dX10_plain_29 : decode cX10_plain 29 = .ok (.invokevirtual 389, 3) := by decide +kernel
theorem dX10_plain_32 : decode cX10_plain 32 = .ok (.iload_n 2, 1) := by decide +kernel
theorem dX10_plain_33 : decode cX10_plain 33 = .ok (.ifCond .ne 10, 3) := by decide +kernel
theorem dX10_plain_36 : decode cX10_plain 36 = .ok (.aload_n 0, 1) := by decide +kernel
theorem dX10_plain_37 : decode cX10_plain 37 = .ok (.getfield 374, 3) := by decide +kernel
theorem dX10_plain_40 : decode cX10_plain 40 = .ok (.goto 43, 3) := by decide +kernel
theorem dX10_plain_43 : decode cX10_plain 43 = .ok (.iload_n 2, 1) := by decide +kernel
theorem dX10_plain_44 : decode cX10_plain 44 = .ok (.iconst 1, 1) := by decide +kernel
theorem dX10_plain_45 : decode cX10_plain 45 = .ok (.if_icmp .ne 22, 3) := by decide +kernel
theorem dX10_plain_48 : decode cX10_plain 48 = .ok (.aload_n 0, 1) := by decide +kernel
theorem dX10_plain_49 : decode cX10_plain 49 = .ok (.aload_n 0, 1) := by decide +kernel
theorem dX10_plain_50 : decode cX10_plain 50 = .ok (.getfield 374, 3) := by decide +kernel
theorem dX10_plain_53 : decode cX10_plain 53 = .ok (.invokevirtual 256, 3) := by decide +kernel
theorem dX10_plain_56 : decode cX10_plain 56 = .ok (.ifCond .eq 7, 3) := by decide +kernel
theorem dX10_plain_59 : decode cX10_plain 59 = .ok (.iconst 1, 1) := by decide +kernel
theorem dX10_plain_60 : decode cX10_plain 60 = .ok (.goto 23, 3) := by decide +kernel
theorem dX10_plain_63 : decode cX10_plain 63 = .ok (.iconst 0, 1) := by decide +kernel
theorem dX10_plain_64 : decode cX10_plain 64 = .ok (.goto 19, 3) := by decide +kernel
theorem dX10_plain_67 : decode cX10_plain 67 = .ok (.iload_n 2, 1) := by decide +kernel
theorem dX10_plain_68 : decode cX10_plain 68 = .ok (.iconst 2, 1) := by decide +kernel
theorem dX10_plain_69 : decode cX10_plain 69 = .ok (.if_icmp .ne 10, 3) := by decide +kernel
theorem dX10_plain_72 : decode cX10_plain 72 = .ok (.aload_n 0, 1) := by decide +kernel
theorem dX10_plain_73 : decode cX10_plain 73 = .ok (.getfield 380, 3) := by decide +kernel
theorem dX10_plain_76 : decode cX10_plain 76 = .ok (.goto 7, 3) := by decide +kernel
theorem dX10_plain_79 : decode cX10_plain 79 = .ok (.aload_n 0, 1) := by decide +kernel
theorem dX10_plain_80 : decode cX10_plain 80 = .ok (.getfield 383, 3) := by decide +kernel
theorem dX10_plain_83 : decode cX10_plain 83 = .ok (.ireturn, 1) := by decide +kernel
theorem dX10_plainOf_0 : decode cX10_plainOf 0 = .ok (.aload_n 0, 1) := by decide +kernel
theorem dX10_plainOf_1 : decode cX10_plainOf 1 = .ok (.iconst 0, 1) := by decide +kernel
theorem dX10_plainOf_2 : decode cX10_plainOf 2 = .ok (.putfield 90, 3) := by decide +kernel
theorem dX10_plainOf_5 : decode cX10_plainOf 5 = .ok (.iload_n 1, 1) := by decide +kernel
theorem dX10_plainOf_6 : decode cX10_plainOf 6 = .ok (.ifCond .lt 14, 3) := by decide +kernel
theorem dX10_plainOf_9 : decode cX10_plainOf 9 = .ok (.iload_n 1, 1) := by decide +kernel
theorem dX10_plainOf_10 : decode cX10_plainOf 10 = .ok (.sipush 999, 3) := by decide +kernel
theorem dX10_plainOf_13 : decode cX10_plainOf 13 = .ok (.if_icmp .gt 7, 3) := by decide +kernel
theorem dX10_plainOf_16 : decode cX10_plainOf 16 = .ok (.iload_n 3, 1) := by decide +kernel
theorem dX10_plainOf_17 : decode cX10_plainOf 17 = .ok (.ifCond .ge 5, 3) := by decide +kernel
theorem dX10_plainOf_20 : decode cX10_plainOf 20 = .ok (.iconst 0, 1) := by decide +kernel
theorem dX10_plainOf_21 : decode cX10_plainOf 21 = .ok (.ireturn, 1) := by decide +kernel
theorem dX10_plainOf_22 : decode cX10_plainOf 22 = .ok (.aload_n 0, 1) := by decide +kernel
theorem dX10_plainOf_23 : decode cX10_plainOf 23 = .ok (.iload_n 1, 1) := by decide +kernel
theorem dX10_plainOf_24 : decode cX10_plainOf 24 = .ok (.invokevirtual 389, 3) := by decide +kernel
theorem dX10_plainOf_27 : decode cX10_plainOf 27 = .ok (.iload_n 2, 1) := by decide +kernel
theorem dX10_plainOf_28 : decode cX10_plainOf 28 = .ok (.ifCond .ne 20, 3) := by decide +kernel
theorem dX10_plainOf_31 : decode cX10_plainOf 31 = .ok (.iload_n 3, 1) := by decide +kernel
theorem dX10_plainOf_32 : decode cX10_plainOf 32 = .ok (.bipush 8, 2) := by decide +kernel
theorem dX10_plainOf_34 : decode cX10_plainOf 34 = .ok (.if_icmp .ge 12, 3) := by decide +kernel
theorem dX10_plainOf_37 : decode cX10_plainOf 37 = .ok (.aload_n 0, 1) := by decide +kernel
theorem dX10_plainOf_38 : decode cX10_plainOf 38 = .ok (.getfield 72, 3) := by decide +kernel
theorem dX10_plainOf_41 : decode cX10_plainOf 41 = .ok (.iload_n 3, 1) := by decide +kernel
theorem dX10_plainOf_42 : decode cX10_plainOf 42 = .ok (.iaload, 1) := by decide +kernel
theorem dX10_plainOf_43 : decode cX10_plainOf 43 = .ok (.goto 4, 3) := by decide +kernel
theorem dX10_plainOf_46 : decode cX10_plainOf 46 = .ok (.iconst 0, 1) := by decide +kernel
theorem dX10_plainOf_47 : decode cX10_plainOf 47 = .ok (.ireturn, 1) := by decide +kernel
theorem dX10_plainOf_48 : decode cX10_plainOf 48 = .ok (.iload_n 2, 1) := by decide +kernel
theorem dX10_plainOf_49 : decode cX10_plainOf 49 = .ok (.iconst 1, 1) := by decide +kernel
theorem dX10_plainOf_50 : decode cX10_plainOf 50 = .ok (.if_icmp .ne 19, 3) := by decide +kernel
theorem dX10_plainOf_53 : decode cX10_plainOf 53 = .ok (.iload_n 3, 1) := by decide +kernel
theorem dX10_plainOf_54 : decode cX10_plainOf 54 = .ok (.iconst 4, 1) := by decide +kernel
theorem dX10_plainOf_55 : decode cX10_plainOf 55 = .ok (.if_icmp .ge 12, 3) := by decide +kernel
theorem dX10_plainOf_58 : decode cX10_plainOf 58 = .ok (.aload_n 0, 1) := by decide +kernel
theorem dX10_plainOf_59 : decode cX10_plainOf 59 = .ok (.getfield 75, 3) := by decide +kernel
theorem dX10_plainOf_62 : decode cX10_plainOf 62 = .ok (.iload_n 3, 1) := by decide +kernel
theorem dX10_plainOf_63 : decode cX10_plainOf 63 = .ok (.iaload, 1) := by decide +kernel
theorem dX10_plainOf_64 : decode cX10_plainOf 64 = .ok (.goto 4, 3) := by decide +kernel
theorem dX10_plainOf_67 : decode cX10_plainOf 67 = .ok (.iconst 0, 1) := by decide +kernel
theorem dX10_plainOf_68 : decode cX10_plainOf 68 = .ok (.ireturn, 1) := by decide +kernel
theorem dX10_plainOf_69 : decode cX10_plainOf 69 = .ok (.iload_n 2, 1) := by decide +kernel
theorem dX10_plainOf_70 : decode cX10_plainOf 70 = .ok (.iconst 2, 1) := by decide +kernel
theorem dX10_plainOf_71 : decode cX10_plainOf 71 = .ok (.if_icmp .ne 20, 3) := by decide +kernel
theorem dX10_plainOf_74 : decode cX10_plainOf 74 = .ok (.iload_n 3, 1) := by decide +kernel
theorem dX10_plainOf_75 : decode cX10_plainOf 75 = .ok (.bipush 32, 2) := by decide +kernel
theorem dX10_plainOf_77 : decode cX10_plainOf 77 = .ok (.if_icmp .ge 12, 3) := by decide +kernel
theorem dX10_plainOf_80 : decode cX10_plainOf 80 = .ok (.aload_n 0, 1) := by decide +kernel
theorem dX10_plainOf_81 : decode cX10_plainOf 81 = .ok (.getfield 78, 3) := by decide +kernel
theorem dX10_plainOf_84 : decode cX10_plainOf 84 = .ok (.iload_n 3, 1) := by decide +kernel
theorem dX10_plainOf_85 : decode cX10_plainOf 85 = .ok (.iaload, 1) := by decide +kernel
theorem dX10_plainOf_86 : decode cX10_plainOf 86 = .ok (.goto 4, 3) := by decide +kernel
theorem dX10_plainOf_89 : decode cX10_plainOf 89 = .ok (.iconst 0, 1) := by decide +kernel
theorem dX10_plainOf_90 : decode cX10_plainOf 90 = .ok (.ireturn, 1) := by decide +kernel
theorem dX10_plainOf_91 : decode cX10_plainOf 91 = .ok (.iload_n 2, 1) := by decide +kernel
theorem dX10_plainOf_92 : decode cX10_plainOf 92 = .ok (.iconst 3, 1) := by decide +kernel
theorem dX10_plainOf_93 : decode cX10_plainOf 93 = .ok (.if_icmp .ne 20, 3) := by decide +kernel
theorem dX10_plainOf_96 : decode cX10_plainOf 96 = .ok (.iload_n 3, 1) := by decide +kernel
theorem dX10_plainOf_97 : decode cX10_plainOf 97 = .ok (.aload_n 0, 1) := by decide +kernel
theorem dX10_plainOf_98 : decode cX10_plainOf 98 = .ok (.getfield 383, 3) := by decide +kernel
theorem dX10_plainOf_101 : decode cX10_plainOf 101 = .ok (.if_icmp .ge 12, 3) := by decide +kernel
theorem dX10_plainOf_104 : decode cX10_plainOf 104 = .ok (.aload_n 0, 1) := by decide +kernel
theorem dX10_plainOf_105 : decode cX10_plainOf 105 = .ok (.getfield 81, 3) := by decide +kernel
theorem dX10_plainOf_108 : decode cX10_plainOf 108 = .ok (.iload_n 3, 1) := by decide +kernel
theorem dX10_plainOf_109 : decode cX10_plainOf 109 = .ok (.iaload, 1) := by decide +kernel
theorem dX10_plainOf_110 : decode cX10_plainOf 110 = .ok (.goto 4, 3) := by decide +kernel
theorem dX10_plainOf_113 : decode cX10_plainOf 113 = .ok (.iconst 0, 1) := by decide +kernel
theorem dX10_plainOf_114 : decode cX10_plainOf 114 = .ok (.ireturn, 1) := by decide +kernel
theorem dX10_strays_0 : decode cX10_strays 0 = .ok (.aload_n 0, 1) := by decide +kernel
theorem dX10_strays_1 : decode cX10_strays 1 = .ok (.iconst 0, 1) := by decide +kernel
theorem dX10_strays_2 : decode cX10_strays 2 = .ok (.putfield 90, 3) := by decide +kernel
theorem dX10_strays_5 : decode cX10_strays 5 = .ok (.iload_n 1, 1) := by decide +kernel
theorem dX10_strays_6 : decode cX10_strays 6 = .ok (.iconst 2, 1) := by decide +kernel
theorem dX10_strays_7 : decode cX10_strays 7 = .ok (.invokestatic 364, 3) := by decide +kernel
theorem dX10_strays_10 : decode cX10_strays 10 = .ok (.ifCond .ne 5, 3) := by decide +kernel
theorem dX10_strays_13 : decode cX10_strays 13 = .ok (.iconst (-1), 1) := by decide +kernel
theorem dX10_strays_14 : decode cX10_strays 14 = .ok (.ireturn, 1) := by decide +kernel
theorem dX10_strays_15 : decode cX10_strays 15 = .ok (.aload_n 0, 1) := by decide +kernel
theorem dX10_strays_16 : decode cX10_strays 16 = .ok (.aload_n 0, 1) := by decide +kernel
theorem dX10_strays_17 : decode cX10_strays 17 = .ok (.getfield 57, 3) := by decide +kernel
theorem dX10_strays_20 : decode cX10_strays 20 = .ok (.bipush 28, 2) := by decide +kernel
theorem dX10_strays_22 : decode cX10_strays 22 = .ok (.iload_n 1, 1) := by decide +kernel
theorem dX10_strays_23 : decode cX10_strays 23 = .ok (.iadd, 1) := by decide +kernel
theorem dX10_strays_24 : decode cX10_strays 24 = .ok (.iaload, 1) := by decide +kernel
theorem dX10_strays_25 : decode cX10_strays 25 = .ok (.putfield 374, 3) := by decide +kernel
theorem dX10_strays_28 : decode cX10_strays 28 = .ok (.iconst 0, 1) := by decide +kernel
theorem dX10_strays_29 : decode cX10_strays 29 = .ok (.istore_n 2, 1) := by decide +kernel
theorem dX10_strays_30 : decode cX10_strays 30 = .ok (.iload_n 2, 1) := by decide +kernel
theorem dX10_strays_31 : decode cX10_strays 31 = .ok (.bipush 8, 2) := by decide +kernel
theorem dX10_strays_33 : decode cX10_strays 33 = .ok (.if_icmp .ge 29, 3) := by decide +kernel
theorem dX10_strays_36 : decode cX10_strays 36 = .ok (.aload_n 0, 1) := by decide +kernel
theorem dX10_strays_37 : decode cX10_strays 37 = .ok (.getfield 72, 3) := by decide +kernel
theorem dX10_strays_40 : decode cX10_strays 40 = .ok (.iload_n 2, 1) := by decide +kernel
theorem dX10_strays_41 : decode cX10_strays 41 = .ok (.aload_n 0, 1) := by decide +kernel
theorem dX10_strays_42 : decode cX10_strays 42 = .ok (.getfield 57, 3) := by decide +kernel
theorem dX10_strays_45 : decode cX10_strays 45 = .ok (.bipush 30, 2) := by decide +kernel
theorem dX10_strays_47 : decode cX10_strays 47 = .ok (.bipush 8, 2) := by decide +kernel
theorem dX10_strays_49 : decode cX10_strays 49 = .ok (.iload_n 1, 1) := by decide +kernel
theorem dX10_strays_50 : decode cX10_strays 50 = .ok (.imul, 1) := by decide +kernel
theorem dX10_strays_51 : decode cX10_strays 51 = .ok (.iadd, 1) := by decide +kernel
theorem dX10_strays_52 : decode cX10_strays 52 = .ok (.iload_n 2, 1) := by decide +kernel
theorem dX10_strays_53 : decode cX10_strays 53 = .ok (.iadd, 1) := by decide +kernel
theorem dX10_strays_54 : decode cX10_strays 54 = .ok (.iaload, 1) := by decide +kernel
theorem dX10_strays_55 : decode cX10_strays 55 = .ok (.iastore, 1) := by decide +kernel
theorem dX10_strays_56 : decode cX10_strays 56 = .ok (.iinc 2 1, 3) := by decide +kernel
theorem dX10_strays_59 : decode cX10_strays 59 = .ok (.goto (-29), 3) := by decide +kernel
theorem dX10_strays_62 : decode cX10_strays 62 = .ok (.iconst 0, 1) := by decide +kernel
theorem dX10_strays_63 : decode cX10_strays 63 = .ok (.istore_n 2, 1) := by decide +kernel
theorem dX10_strays_64 : decode cX10_strays 64 = .ok (.iload_n 2, 1) := by decide +kernel
theorem dX10_strays_65 : decode cX10_strays 65 = .ok (.iconst 4, 1) := by decide +kernel
theorem dX10_strays_66 : decode cX10_strays 66 = .ok (.if_icmp .ge 28, 3) := by decide +kernel
theorem dX10_strays_69 : decode cX10_strays 69 = .ok (.aload_n 0, 1) := by decide +kernel
theorem dX10_strays_70 : decode cX10_strays 70 = .ok (.getfield 75, 3) := by decide +kernel
theorem dX10_strays_73 : decode cX10_strays 73 = .ok (.iload_n 2, 1) := by decide +kernel
theorem dX10_strays_74 : decode cX10_strays 74 = .ok (.aload_n 0, 1) := by decide +kernel
theorem dX10_strays_75 : decode cX10_strays 75 = .ok (.getfield 57, 3) := by decide +kernel
theorem dX10_strays_78 : decode cX10_strays 78 = .ok (.bipush 46, 2) := by decide +kernel
theorem dX10_strays_80 : decode cX10_strays 80 = .ok (.iconst 4, 1) := by decide +kernel
theorem dX10_strays_81 : decode cX10_strays 81 = .ok (.iload_n 1, 1) := by decide +kernel
theorem dX10_strays_82 : decode cX10_strays 82 = .ok (.imul, 1) := by decide +kernel
theorem dX10_strays_83 : decode cX10_strays 83 = .ok (.iadd, 1) := by decide +kernel
theorem dX10_strays_84 : decode cX10_strays 84 = .ok (.iload_n 2, 1) := by decide +kernel
theorem dX10_strays_85 : decode cX10_strays 85 = .ok (.iadd, 1) := by decide +kernel
theorem dX10_strays_86 : decode cX10_strays 86 = .ok (.iaload, 1) := by decide +kernel
theorem dX10_strays_87 : decode cX10_strays 87 = .ok (.iastore, 1) := by decide +kernel
theorem dX10_strays_88 : decode cX10_strays 88 = .ok (.iinc 2 1, 3) := by decide +kernel
theorem dX10_strays_91 : decode cX10_strays 91 = .ok (.goto (-27), 3) := by decide +kernel
theorem dX10_strays_94 : decode cX10_strays 94 = .ok (.iconst 0, 1) := by decide +kernel
theorem dX10_strays_95 : decode cX10_strays 95 = .ok (.istore_n 2, 1) := by decide +kernel
theorem dX10_strays_96 : decode cX10_strays 96 = .ok (.iload_n 2, 1) := by decide +kernel
theorem dX10_strays_97 : decode cX10_strays 97 = .ok (.bipush 32, 2) := by decide +kernel
theorem dX10_strays_99 : decode cX10_strays 99 = .ok (.if_icmp .ge 25, 3) := by decide +kernel
theorem dX10_strays_102 : decode cX10_strays 102 = .ok (.aload_n 0, 1) := by decide +kernel
theorem dX10_strays_103 : decode cX10_strays 103 = .ok (.getfield 78, 3) := by decide +kernel
theorem dX10_strays_106 : decode cX10_strays 106 = .ok (.iload_n 2, 1) := by decide +kernel
theorem dX10_strays_107 : decode cX10_strays 107 = .ok (.aload_n 0, 1) := by decide +kernel
theorem dX10_strays_108 : decode cX10_strays 108 = .ok (.getfield 57, 3) := by decide +kernel
theorem dX10_strays_111 : decode cX10_strays 111 = .ok (.sipush 146, 3) := by decide +kernel
theorem dX10_strays_114 : decode cX10_strays 114 = .ok (.iload_n 2, 1) := by decide +kernel
theorem dX10_strays_115 : decode cX10_strays 115 = .ok (.iadd, 1) := by decide +kernel
theorem dX10_strays_116 : decode cX10_strays 116 = .ok (.iaload, 1) := by decide +kernel
theorem dX10_strays_117 : decode cX10_strays 117 = .ok (.iastore, 1) := by decide +kernel
theorem dX10_strays_118 : decode cX10_strays 118 = .ok (.iinc 2 1, 3) := by decide +kernel
theorem dX10_strays_121 : decode cX10_strays 121 = .ok (.goto (-25), 3) := by decide +kernel
theorem dX10_strays_124 : decode cX10_strays 124 = .ok (.aload_n 0, 1) := by decide +kernel
theorem dX10_strays_125 : decode cX10_strays 125 = .ok (.aload_n 0, 1) := by decide +kernel
theorem dX10_strays_126 : decode cX10_strays 126 = .ok (.getfield 57, 3) := by decide +kernel
theorem dX10_strays_129 : decode cX10_strays 129 = .ok (.iconst 2, 1) := by decide +kernel
theorem dX10_strays_130 : decode cX10_strays 130 = .ok (.iload_n 1, 1) := by decide +kernel
theorem dX10_strays_131 : decode cX10_strays 131 = .ok (.iadd, 1) := by decide +kernel
theorem dX10_strays_132 : decode cX10_strays 132 = .ok (.iaload, 1) := by decide +kernel
theorem dX10_strays_133 : decode cX10_strays 133 = .ok (.invokevirtual 377, 3) := by decide +kernel
theorem dX10_strays_136 : decode cX10_strays 136 = .ok (.aload_n 0, 1) := by decide +kernel
theorem dX10_strays_137 : decode cX10_strays 137 = .ok (.getfield 374, 3) := by decide +kernel
theorem dX10_strays_140 : decode cX10_strays 140 = .ok (.aload_n 0, 1) := by decide +kernel
theorem dX10_strays_141 : decode cX10_strays 141 = .ok (.getfield 57, 3) := by decide +kernel
theorem dX10_strays_144 : decode cX10_strays 144 = .ok (.iconst 0, 1) := by decide +kernel
theorem dX10_strays_145 : decode cX10_strays 145 = .ok (.iload_n 1, 1) := by decide +kernel
theorem dX10_strays_146 : decode cX10_strays 146 = .ok (.iadd, 1) := by decide +kernel
theorem dX10_strays_147 : decode cX10_strays 147 = .ok (.iaload, 1) := by decide +kernel
theorem dX10_strays_148 : decode cX10_strays 148 = .ok (.if_icmp .ne 7, 3) := by decide +kernel
theorem dX10_strays_151 : decode cX10_strays 151 = .ok (.iconst 0, 1) := by decide +kernel
theorem dX10_strays_152 : decode cX10_strays 152 = .ok (.goto 4, 3) := by decide +kernel
theorem dX10_strays_155 : decode cX10_strays 155 = .ok (.iconst 1, 1) := by decide +kernel
theorem dX10_strays_156 : decode cX10_strays 156 = .ok (.istore_n 2, 1) := by decide +kernel
theorem dX10_strays_157 : decode cX10_strays 157 = .ok (.iconst 0, 1) := by decide +kernel
theorem dX10_strays_158 : decode cX10_strays 158 = .ok (.istore_n 3, 1) := by decide +kernel
theorem dX10_strays_159 : decode cX10_strays 159 = .ok (.iload_n 3, 1) := by decide +kernel
theorem dX10_strays_160 : decode cX10_strays 160 = .ok (.bipush 8, 2) := by decide +kernel
theorem dX10_strays_162 : decode cX10_strays 162 = .ok (.if_icmp .ge 39, 3) := by decide +kernel
theorem dX10_strays_165 : decode cX10_strays 165 = .ok (.iload_n 2, 1) := by decide +kernel
theorem dX10_strays_166 : decode cX10_strays 166 = .ok (.aload_n 0, 1) := by decide +kernel
theorem dX10_strays_167 : decode cX10_strays 167 = .ok (.getfield 72, 3) := by decide +kernel
theorem dX10_strays_170 : decode cX10_strays 170 = .ok (.iload_n 3, 1) := by decide +kernel
theorem dX10_strays_171 : decode cX10_strays 171 = .ok (.iaload, 1) := by decide +kernel
theorem dX10_strays_172 : decode cX10_strays 172 = .ok (.aload_n 0, 1) := by decide +kernel
theorem dX10_strays_173 : decode cX10_strays 173 = .ok (.getfield 57, 3) := by decide +kernel
theorem dX10_strays_176 : decode cX10_strays 176 = .ok (.iconst 4, 1) := by decide +kernel
theorem dX10_strays_177 : decode cX10_strays 177 = .ok (.bipush 8, 2) := by decide +kernel
theorem dX10_strays_179 : decode cX10_strays 179 = .ok (.iload_n 1, 1) := by decide +kernel
theorem dX10_strays_180 : decode cX10_strays 180 = .ok (.imul, 1) := by decide +kernel
theorem dX10_strays_181 : decode cX10_strays 181 = .ok (.iadd, 1) := by decide +kernel
theorem dX10_strays_182 : decode cX10_strays 182 = .ok (.iload_n 3, 1) := by decide +kernel
theorem dX10_strays_183 : decode cX10_strays 183 = .ok (.iadd, 1) := by decide +kernel
theorem dX10_strays_184 : decode cX10_strays 184 = .ok (.iaload, 1) := by decide +kernel
theorem dX10_strays_185 : decode cX10_strays 185 = .ok (.if_icmp .ne 7, 3) := by decide +kernel
theorem dX10_strays_188 : decode cX10_strays 188 = .ok (.iconst 0, 1) := by decide +kernel
theorem dX10_strays_189 : decode cX10_strays 189 = .ok (.goto 4, 3) := by decide +kernel
theorem dX10_strays_192 : decode cX10_strays 192 = .ok (.iconst 1, 1) := by decide +kernel
theorem dX10_strays_193 : decode cX10_strays 193 = .ok (.iadd, 1) := by decide +kernel
theorem dX10_strays_194 : decode cX10_strays 194 = .ok (.istore_n 2, 1) := by decide +kernel
theorem dX10_strays_195 : decode cX10_strays 195 = .ok (.iinc 3 1, 3) := by decide +kernel
theorem dX10_strays_198 : decode cX10_strays 198 = .ok (.goto (-39), 3) := by decide +kernel
theorem dX10_strays_201 : decode cX10_strays 201 = .ok (.iconst 0, 1) := by decide +kernel
theorem dX10_strays_202 : decode cX10_strays 202 = .ok (.istore_n 3, 1) := by decide +kernel
theorem dX10_strays_203 : decode cX10_strays 203 = .ok (.iload_n 3, 1) := by decide +kernel
theorem dX10_strays_204 : decode cX10_strays 204 = .ok (.iconst 4, 1) := by decide +kernel
theorem dX10_strays_205 : decode cX10_strays 205 = .ok (.if_icmp .ge 39, 3) := by decide +kernel
theorem dX10_strays_208 : decode cX10_strays 208 = .ok (.iload_n 2, 1) := by decide +kernel
theorem dX10_strays_209 : decode cX10_strays 209 = .ok (.aload_n 0, 1) := by decide +kernel
theorem dX10_strays_210 : decode cX10_strays 210 = .ok (.getfield 75, 3) := by decide +kernel
theorem dX10_strays_213 : decode cX10_strays 213 = .ok (.iload_n 3, 1) := by decide +kernel
theorem dX10_strays_214 : decode cX10_strays 214 = .ok (.iaload, 1) := by decide +kernel
theorem dX10_strays_215 : decode cX10_strays 215 = .ok (.aload_n 0, 1) := by decide +kernel
theorem dX10_strays_216 : decode cX10_strays 216 = .ok (.getfield 57, 3) := by decide +kernel
theorem dX10_strays_219 : decode cX10_strays 219 = .ok (.bipush 20, 2) := by decide +kernel
theorem dX10_strays_221 : decode cX10_strays 221 = .ok (.iconst 4, 1) := by decide +kernel
theorem dX10_strays_222 : decode cX10_strays 222 = .ok (.iload_n 1, 1) := by decide +kernel
theorem dX10_strays_223 : decode cX10_strays 223 = .ok (.imul, 1) := by decide +kernel
theorem dX10_strays_224 : decode cX10_strays 224 = .ok (.iadd, 1) := by decide +kernel
theorem dX10_strays_225 : decode cX10_strays 225 = .ok (.iload_n 3, 1) := by decide +kernel
theorem dX10_strays_226 : decode cX10_strays 226 = .ok (.iadd, 1) := by decide +kernel
theorem dX10_strays_227 : decode cX10_strays 227 = .ok (.iaload, 1) := by decide +kernel
theorem dX10_strays_228 : decode cX10_strays 228 = .ok (.if_icmp .ne 7, 3) := by decide +kernel
theorem dX10_strays_231 : decode cX10_strays 231 = .ok (.iconst 0, 1) := by decide +kernel
theorem dX10_strays_232 : decode cX10_strays 232 = .ok (.goto 4, 3) := by decide +kernel
theorem dX10_strays_235 : decode cX10_strays 235 = .ok (.iconst 1, 1) := by decide +kernel
theorem dX10_strays_236 : decode cX10_strays 236 = .ok (.iadd, 1) := by decide +kernel
theorem dX10_strays_237 : decode cX10_strays 237 = .ok (.istore_n 2, 1) := by decide +kernel
theorem dX10_strays_238 : decode cX10_strays 238 = .ok (.iinc 3 1, 3) := by decide +kernel
theorem dX10_strays_241 : decode cX10_strays 241 = .ok (.goto (-38), 3) := by decide +kernel
theorem dX10_strays_244 : decode cX10_strays 244 = .ok (.iload_n 2, 1) := by decide +kernel
theorem dX10_strays_245 : decode cX10_strays 245 = .ok (.ireturn, 1) := by decide +kernel
theorem dX10_compared_0 : decode cX10_compared 0 = .ok (.aload_n 0, 1) := by decide +kernel
theorem dX10_compared_1 : decode cX10_compared 1 = .ok (.iconst 0, 1) := by decide +kernel
theorem dX10_compared_2 : decode cX10_compared 2 = .ok (.putfield 90, 3) := by decide +kernel
theorem dX10_compared_5 : decode cX10_compared 5 = .ok (.aload_n 0, 1) := by decide +kernel
theorem dX10_compared_6 : decode cX10_compared 6 = .ok (.getfield 57, 3) := by decide +kernel
theorem dX10_compared_9 : decode cX10_compared 9 = .ok (.sipush 231, 3) := by decide +kernel
theorem dX10_compared_12 : decode cX10_compared 12 = .ok (.iaload, 1) := by decide +kernel
theorem dX10_compared_13 : decode cX10_compared 13 = .ok (.ireturn, 1) := by decide +kernel
theorem dX10_shoots_0 : decode cX10_shoots 0 = .ok (.aload_n 0, 1) := by decide +kernel
theorem dX10_shoots_1 : decode cX10_shoots 1 = .ok (.getfield 57, 3) := by decide +kernel
theorem dX10_shoots_4 : decode cX10_shoots 4 = .ok (.aload_n 0, 1) := by decide +kernel
theorem dX10_shoots_5 : decode cX10_shoots 5 = .ok (.getfield 60, 3) := by decide +kernel
theorem dX10_shoots_8 : decode cX10_shoots 8 = .ok (.invokestatic 370, 3) := by decide +kernel
theorem dX10_shoots_11 : decode cX10_shoots 11 = .ok (.aload_n 0, 1) := by decide +kernel
theorem dX10_shoots_12 : decode cX10_shoots 12 = .ok (.iload_n 1, 1) := by decide +kernel
theorem dX10_shoots_13 : decode cX10_shoots 13 = .ok (.iload_n 2, 1) := by decide +kernel
theorem dX10_shoots_14 : decode cX10_shoots 14 = .ok (.iload_n 3, 1) := by decide +kernel
theorem dX10_shoots_15 : decode cX10_shoots 15 = .ok (.invokevirtual 351, 3) := by decide +kernel
theorem dX10_shoots_18 : decode cX10_shoots 18 = .ok (.pop, 1) := by decide +kernel
theorem dX10_shoots_19 : decode cX10_shoots 19 = .ok (.aload_n 0, 1) := by decide +kernel
theorem dX10_shoots_20 : decode cX10_shoots 20 = .ok (.getfield 57, 3) := by decide +kernel
theorem dX10_shoots_23 : decode cX10_shoots 23 = .ok (.sipush 220, 3) := by decide +kernel
theorem dX10_shoots_26 : decode cX10_shoots 26 = .ok (.iaload, 1) := by decide +kernel
theorem dX10_shoots_27 : decode cX10_shoots 27 = .ok (.istore 4, 2) := by decide +kernel
theorem dX10_shoots_29 : decode cX10_shoots 29 = .ok (.aload_n 0, 1) := by decide +kernel
theorem dX10_shoots_30 : decode cX10_shoots 30 = .ok (.getfield 57, 3) := by decide +kernel
theorem dX10_shoots_33 : decode cX10_shoots 33 = .ok (.sipush 221, 3) := by decide +kernel
theorem dX10_shoots_36 : decode cX10_shoots 36 = .ok (.iaload, 1) := by decide +kernel
theorem dX10_shoots_37 : decode cX10_shoots 37 = .ok (.istore 5, 2) := by decide +kernel
theorem dX10_shoots_39 : decode cX10_shoots 39 = .ok (.iconst 0, 1) := by decide +kernel
theorem dX10_shoots_40 : decode cX10_shoots 40 = .ok (.istore 6, 2) := by decide +kernel
theorem dX10_shoots_42 : decode cX10_shoots 42 = .ok (.aload_n 0, 1) := by decide +kernel
theorem dX10_shoots_43 : decode cX10_shoots 43 = .ok (.getfield 57, 3) := by decide +kernel
theorem dX10_shoots_46 : decode cX10_shoots 46 = .ok (.sipush 221, 3) := by decide +kernel
theorem dX10_shoots_49 : decode cX10_shoots 49 = .ok (.iaload, 1) := by decide +kernel
theorem dX10_shoots_50 : decode cX10_shoots 50 = .ok (.iload 5, 2) := by decide +kernel
theorem dX10_shoots_52 : decode cX10_shoots 52 = .ok (.if_icmp .ne 30, 3) := by decide +kernel
theorem dX10_shoots_55 : decode cX10_shoots 55 = .ok (.aload_n 0, 1) := by decide +kernel
theorem dX10_shoots_56 : decode cX10_shoots 56 = .ok (.getfield 57, 3) := by decide +kernel
theorem dX10_shoots_59 : decode cX10_shoots 59 = .ok (.sipush 220, 3) := by decide +kernel
theorem dX10_shoots_62 : decode cX10_shoots 62 = .ok (.iaload, 1) := by decide +kernel
theorem dX10_shoots_63 : decode cX10_shoots 63 = .ok (.iload 4, 2) := by decide +kernel
theorem dX10_shoots_65 : decode cX10_shoots 65 = .ok (.if_icmp .ne 17, 3) := by decide +kernel
theorem dX10_shoots_68 : decode cX10_shoots 68 = .ok (.aload_n 0, 1) := by decide +kernel
theorem dX10_shoots_69 : decode cX10_shoots 69 = .ok (.iconst 0, 1) := by decide +kernel
theorem dX10_shoots_70 : decode cX10_shoots 70 = .ok (.invokevirtual 341, 3) := by decide +kernel
theorem dX10_shoots_73 : decode cX10_shoots 73 = .ok (.ifCond .eq 9, 3) := by decide +kernel
theorem dX10_shoots_76 : decode cX10_shoots 76 = .ok (.iinc 6 1, 3) := by decide +kernel
theorem dX10_shoots_79 : decode cX10_shoots 79 = .ok (.goto (-37), 3) := by decide +kernel
theorem dX10_shoots_82 : decode cX10_shoots 82 = .ok (.aload_n 0, 1) := by decide +kernel
theorem dX10_shoots_83 : decode cX10_shoots 83 = .ok (.getfield 57, 3) := by decide +kernel
theorem dX10_shoots_86 : decode cX10_shoots 86 = .ok (.sipush 221, 3) := by decide +kernel
theorem dX10_shoots_89 : decode cX10_shoots 89 = .ok (.iaload, 1) := by decide +kernel
theorem dX10_shoots_90 : decode cX10_shoots 90 = .ok (.iload 5, 2) := by decide +kernel
theorem dX10_shoots_92 : decode cX10_shoots 92 = .ok (.if_icmp .le 7, 3) := by decide +kernel
theorem dX10_shoots_95 : decode cX10_shoots 95 = .ok (.iconst 1, 1) := by decide +kernel
theorem dX10_shoots_96 : decode cX10_shoots 96 = .ok (.goto 4, 3) := by decide +kernel
theorem dX10_shoots_99 : decode cX10_shoots 99 = .ok (.iconst 0, 1) := by decide +kernel
theorem dX10_shoots_100 : decode cX10_shoots 100 = .ok (.istore 7, 2) := by decide +kernel
theorem dX10_shoots_102 : decode cX10_shoots 102 = .ok (.aload_n 0, 1) := by decide +kernel
theorem dX10_shoots_103 : decode cX10_shoots 103 = .ok (.aload_n 0, 1) := by decide +kernel
theorem dX10_shoots_104 : decode cX10_shoots 104 = .ok (.getfield 57, 3) := by decide +kernel
theorem dX10_shoots_107 : decode cX10_shoots 107 = .ok (.sipush 233, 3) := by decide +kernel
theorem dX10_shoots_110 : decode cX10_shoots 110 = .ok (.iaload, 1) := by decide +kernel
theorem dX10_shoots_111 : decode cX10_shoots 111 = .ok (.putfield 392, 3) := by decide +kernel
theorem dX10_shoots_114 : decode cX10_shoots 114 = .ok (.aload_n 0, 1) := by decide +kernel
theorem dX10_shoots_115 : decode cX10_shoots 115 = .ok (.getfield 60, 3) := by decide +kernel
theorem dX10_shoots_118 : decode cX10_shoots 118 = .ok (.aload_n 0, 1) := by decide +kernel
theorem dX10_shoots_119 : decode cX10_shoots 119 = .ok (.getfield 57, 3) := by decide +kernel
theorem dX10_shoots_122 : decode cX10_shoots 122 = .ok (.invokestatic 370, 3) := by decide +kernel
theorem dX10_shoots_125 : decode cX10_shoots 125 = .ok (.iload 7, 2) := by decide +kernel
theorem dX10_shoots_127 : decode cX10_shoots 127 = .ok (.ifCond .eq 8, 3) := by decide +kernel
theorem dX10_shoots_130 : decode cX10_shoots 130 = .ok (.iload 6, 2) := by decide +kernel
theorem dX10_shoots_132 : decode cX10_shoots 132 = .ok (.goto 5, 3) := by decide +kernel
theorem dX10_shoots_135 : decode cX10_shoots 135 = .ok (.bipush (-2), 2) := by decide +kernel
theorem dX10_shoots_137 : decode cX10_shoots 137 = .ok (.ireturn, 1) := by decide +kernel
theorem dX10_shot_0 : decode cX10_shot 0 = .ok (.aload_n 0, 1) := by decide +kernel
theorem dX10_shot_1 : decode cX10_shot 1 = .ok (.iconst 0, 1) := by decide +kernel
theorem dX10_shot_2 : decode cX10_shot 2 = .ok (.putfield 90, 3) := by decide +kernel
theorem dX10_shot_5 : decode cX10_shot 5 = .ok (.iload 4, 2) := by decide +kernel
theorem dX10_shot_7 : decode cX10_shot 7 = .ok (.iconst 2, 1) := by decide +kernel
theorem dX10_shot_8 : decode cX10_shot 8 = .ok (.invokestatic 364, 3) := by decide +kernel
theorem dX10_shot_11 : decode cX10_shot 11 = .ok (.ifCond .eq 14, 3) := by decide +kernel
theorem dX10_shot_14 : decode cX10_shot 14 = .ok (.aload_n 0, 1) := by decide +kernel
theorem dX10_shot_15 : decode cX10_shot 15 = .ok (.iload_n 1, 1) := by decide +kernel
theorem dX10_shot_16 : decode cX10_shot 16 = .ok (.iload_n 2, 1) := by decide +kernel
theorem dX10_shot_17 : decode cX10_shot 17 = .ok (.iload_n 3, 1) := by decide +kernel
theorem dX10_shot_18 : decode cX10_shot 18 = .ok (.invokevirtual 348, 3) := by decide +kernel
theorem dX10_shot_21 : decode cX10_shot 21 = .ok (.iconst (-1), 1) := by decide +kernel
theorem dX10_shot_22 : decode cX10_shot 22 = .ok (.if_icmp .ne 5, 3) := by decide +kernel
theorem dX10_shot_25 : decode cX10_shot 25 = .ok (.iconst (-1), 1) := by decide +kernel
theorem dX10_shot_26 : decode cX10_shot 26 = .ok (.ireturn, 1) := by decide +kernel
theorem dX10_shot_27 : decode cX10_shot 27 = .ok (.aload_n 0, 1) := by decide +kernel
theorem dX10_shot_28 : decode cX10_shot 28 = .ok (.iload_n 1, 1) := by decide +kernel
theorem dX10_shot_29 : decode cX10_shot 29 = .ok (.iload_n 2, 1) := by decide +kernel
theorem dX10_shot_30 : decode cX10_shot 30 = .ok (.iload_n 3, 1) := by decide +kernel
theorem dX10_shot_31 : decode cX10_shot 31 = .ok (.invokevirtual 395, 3) := by decide +kernel
theorem dX10_shot_34 : decode cX10_shot 34 = .ok (.istore 5, 2) := by decide +kernel
theorem dX10_shot_36 : decode cX10_shot 36 = .ok (.iload 5, 2) := by decide +kernel
theorem dX10_shot_38 : decode cX10_shot 38 = .ok (.bipush (-2), 2) := by decide +kernel
theorem dX10_shot_40 : decode cX10_shot 40 = .ok (.if_icmp .eq 8, 3) := by decide +kernel
theorem dX10_shot_43 : decode cX10_shot 43 = .ok (.iload 4, 2) := by decide +kernel
theorem dX10_shot_45 : decode cX10_shot 45 = .ok (.ifCond .ne 8, 3) := by decide +kernel
theorem dX10_shot_48 : decode cX10_shot 48 = .ok (.iload 5, 2) := by decide +kernel
theorem dX10_shot_50 : decode cX10_shot 50 = .ok (.goto 7, 3) := by decide +kernel
theorem dX10_shot_53 : decode cX10_shot 53 = .ok (.aload_n 0, 1) := by decide +kernel
theorem dX10_shot_54 : decode cX10_shot 54 = .ok (.getfield 392, 3) := by decide +kernel
theorem dX10_shot_57 : decode cX10_shot 57 = .ok (.ireturn, 1) := by decide +kernel
theorem dX10_shotsOf_0 : decode cX10_shotsOf 0 = .ok (.iconst 0, 1) := by decide +kernel
theorem dX10_shotsOf_1 : decode cX10_shotsOf 1 = .ok (.istore_n 3, 1) := by decide +kernel
theorem dX10_shotsOf_2 : decode cX10_shotsOf 2 = .ok (.bipush (-2), 2) := by decide +kernel
theorem dX10_shotsOf_4 : decode cX10_shotsOf 4 = .ok (.istore 4, 2) := by decide +kernel
theorem dX10_shotsOf_6 : decode cX10_shotsOf 6 = .ok (.iconst 0, 1) := by decide +kernel
theorem dX10_shotsOf_7 : decode cX10_shotsOf 7 = .ok (.istore 5, 2) := by decide +kernel
theorem dX10_shotsOf_9 : decode cX10_shotsOf 9 = .ok (.iload 5, 2) := by decide +kernel
theorem dX10_shotsOf_11 : decode cX10_shotsOf 11 = .ok (.bipush 8, 2) := by decide +kernel
theorem dX10_shotsOf_13 : decode cX10_shotsOf 13 = .ok (.if_icmp .ge 67, 3) := by decide +kernel
theorem dX10_shotsOf_16 : decode cX10_shotsOf 16 = .ok (.iconst 0, 1) := by decide +kernel
theorem dX10_shotsOf_17 : decode cX10_shotsOf 17 = .ok (.istore 6, 2) := by decide +kernel
theorem dX10_shotsOf_19 : decode cX10_shotsOf 19 = .ok (.iload 6, 2) := by decide +kernel
theorem dX10_shotsOf_21 : decode cX10_shotsOf 21 = .ok (.bipush 32, 2) := by decide +kernel
theorem dX10_shotsOf_23 : decode cX10_shotsOf 23 = .ok (.if_icmp .ge 51, 3) := by decide +kernel
theorem dX10_shotsOf_26 : decode cX10_shotsOf 26 = .ok (.aload_n 0, 1) := by decide +kernel
theorem dX10_shotsOf_27 : decode cX10_shotsOf 27 = .ok (.iload_n 1, 1) := by decide +kernel
theorem dX10_shotsOf_28 : decode cX10_shotsOf 28 = .ok (.iload 5, 2) := by decide +kernel
theorem dX10_shotsOf_30 : decode cX10_shotsOf 30 = .ok (.iload 6, 2) := by decide +kernel
theorem dX10_shotsOf_32 : decode cX10_shotsOf 32 = .ok (.invokevirtual 395, 3) := by decide +kernel
theorem dX10_shotsOf_35 : decode cX10_shotsOf 35 = .ok (.istore 7, 2) := by decide +kernel
theorem dX10_shotsOf_37 : decode cX10_shotsOf 37 = .ok (.iload_n 3, 1) := by decide +kernel
theorem dX10_shotsOf_38 : decode cX10_shotsOf 38 = .ok (.iload 7, 2) := by decide +kernel
theorem dX10_shotsOf_40 : decode cX10_shotsOf 40 = .ok (.bipush (-2), 2) := by decide +kernel
theorem dX10_shotsOf_42 : decode cX10_shotsOf 42 = .ok (.if_icmp .ne 7, 3) := by decide +kernel
theorem dX10_shotsOf_45 : decode cX10_shotsOf 45 = .ok (.iconst 0, 1) := by decide +kernel
theorem dX10_shotsOf_46 : decode cX10_shotsOf 46 = .ok (.goto 4, 3) := by decide +kernel
theorem dX10_shotsOf_49 : decode cX10_shotsOf 49 = .ok (.iconst 1, 1) := by decide +kernel
theorem dX10_shotsOf_50 : decode cX10_shotsOf 50 = .ok (.iadd, 1) := by decide +kernel
theorem dX10_shotsOf_51 : decode cX10_shotsOf 51 = .ok (.istore_n 3, 1) := by decide +kernel
theorem dX10_shotsOf_52 : decode cX10_shotsOf 52 = .ok (.iload 7, 2) := by decide +kernel
theorem dX10_shotsOf_54 : decode cX10_shotsOf 54 = .ok (.iload 4, 2) := by decide +kernel
theorem dX10_shotsOf_56 : decode cX10_shotsOf 56 = .ok (.if_icmp .le 8, 3) := by decide +kernel
theorem dX10_shotsOf_59 : decode cX10_shotsOf 59 = .ok (.iload 7, 2) := by decide +kernel
theorem dX10_shotsOf_61 : decode cX10_shotsOf 61 = .ok (.goto 5, 3) := by decide +kernel
theorem dX10_shotsOf_64 : decode cX10_shotsOf 64 = .ok (.iload 4, 2) := by decide +kernel
theorem dX10_shotsOf_66 : decode cX10_shotsOf 66 = .ok (.istore 4, 2) := by decide +kernel
theorem dX10_shotsOf_68 : decode cX10_shotsOf 68 = .ok (.iinc 6 1, 3) := by decide +kernel
theorem dX10_shotsOf_71 : decode cX10_shotsOf 71 = .ok (.goto (-52), 3) := by decide +kernel
theorem dX10_shotsOf_74 : decode cX10_shotsOf 74 = .ok (.iinc 5 1, 3) := by decide +kernel
theorem dX10_shotsOf_77 : decode cX10_shotsOf 77 = .ok (.goto (-68), 3) := by decide +kernel
theorem dX10_shotsOf_80 : decode cX10_shotsOf 80 = .ok (.iload_n 2, 1) := by decide +kernel
theorem dX10_shotsOf_81 : decode cX10_shotsOf 81 = .ok (.ifCond .eq 7, 3) := by decide +kernel
theorem dX10_shotsOf_84 : decode cX10_shotsOf 84 = .ok (.iload_n 3, 1) := by decide +kernel
theorem dX10_shotsOf_85 : decode cX10_shotsOf 85 = .ok (.goto 5, 3) := by decide +kernel
theorem dX10_shotsOf_88 : decode cX10_shotsOf 88 = .ok (.iload 4, 2) := by decide +kernel
theorem dX10_shotsOf_90 : decode cX10_shotsOf 90 = .ok (.ireturn, 1) := by decide +kernel
theorem dX10_matters_0 : decode cX10_matters 0 = .ok (.aload_n 0, 1) := by decide +kernel
theorem dX10_matters_1 : decode cX10_matters 1 = .ok (.iconst 0, 1) := by decide +kernel
theorem dX10_matters_2 : decode cX10_matters 2 = .ok (.putfield 90, 3) := by decide +kernel
theorem dX10_matters_5 : decode cX10_matters 5 = .ok (.iload_n 1, 1) := by decide +kernel
theorem dX10_matters_6 : decode cX10_matters 6 = .ok (.iconst 2, 1) := by decide +kernel
theorem dX10_matters_7 : decode cX10_matters 7 = .ok (.invokestatic 364, 3) := by decide +kernel
theorem dX10_matters_10 : decode cX10_matters 10 = .ok (.ifCond .eq 12, 3) := by decide +kernel
theorem dX10_matters_13 : decode cX10_matters 13 = .ok (.aload_n 0, 1) := by decide +kernel
theorem dX10_matters_14 : decode cX10_matters 14 = .ok (.iload_n 1, 1) := by decide +kernel
theorem dX10_matters_15 : decode cX10_matters 15 = .ok (.iconst 1, 1) := by decide +kernel
theorem dX10_matters_16 : decode cX10_matters 16 = .ok (.invokevirtual 398, 3) := by decide +kernel
theorem dX10_matters_19 : decode cX10_matters 19 = .ok (.goto 4, 3) := by decide +kernel
theorem dX10_matters_22 : decode cX10_matters 22 = .ok (.iconst (-1), 1) := by decide +kernel
theorem dX10_matters_23 : decode cX10_matters 23 = .ok (.ireturn, 1) := by decide +kernel
theorem dX10_slowest_0 : decode cX10_slowest 0 = .ok (.aload_n 0, 1) := by decide +kernel
theorem dX10_slowest_1 : decode cX10_slowest 1 = .ok (.iconst 0, 1) := by decide +kernel
theorem dX10_slowest_2 : decode cX10_slowest 2 = .ok (.putfield 90, 3) := by decide +kernel
theorem dX10_slowest_5 : decode cX10_slowest 5 = .ok (.iload_n 1, 1) := by decide +kernel
theorem dX10_slowest_6 : decode cX10_slowest 6 = .ok (.iconst 2, 1) := by decide +kernel
theorem dX10_slowest_7 : decode cX10_slowest 7 = .ok (.invokestatic 364, 3) := by decide +kernel
theorem dX10_slowest_10 : decode cX10_slowest 10 = .ok (.ifCond .eq 12, 3) := by decide +kernel
theorem dX10_slowest_13 : decode cX10_slowest 13 = .ok (.aload_n 0, 1) := by decide +kernel
theorem dX10_slowest_14 : decode cX10_slowest 14 = .ok (.iload_n 1, 1) := by decide +kernel
theorem dX10_slowest_15 : decode cX10_slowest 15 = .ok (.iconst 0, 1) := by decide +kernel
theorem dX10_slowest_16 : decode cX10_slowest 16 = .ok (.invokevirtual 398, 3) := by decide +kernel
theorem dX10_slowest_19 : decode cX10_slowest 19 = .ok (.goto 4, 3) := by decide +kernel
theorem dX10_slowest_22 : decode cX10_slowest 22 = .ok (.iconst (-1), 1) := by decide +kernel
theorem dX10_slowest_23 : decode cX10_slowest 23 = .ok (.ireturn, 1) := by decide +kernel
theorem dX10_longs_0 : decode cX10_longs 0 = .ok (.aload_n 0, 1) := by decide +kernel
theorem dX10_longs_1 : decode cX10_longs 1 = .ok (.getfield 57, 3) := by decide +kernel
theorem dX10_longs_4 : decode cX10_longs 4 = .ok (.aload_n 0, 1) := by decide +kernel
theorem dX10_longs_5 : decode cX10_longs 5 = .ok (.getfield 63, 3) := by decide +kernel
theorem dX10_longs_8 : decode cX10_longs 8 = .ok (.invokestatic 370, 3) := by decide +kernel
theorem dX10_longs_11 : decode cX10_longs 11 = .ok (.aload_n 0, 1) := by decide +kernel
theorem dX10_longs_12 : decode cX10_longs 12 = .ok (.invokevirtual 87, 3) := by decide +kernel
theorem dX10_longs_15 : decode cX10_longs 15 = .ok (.aload_n 0, 1) := by decide +kernel
theorem dX10_longs_16 : decode cX10_longs 16 = .ok (.iload_n 1, 1) := by decide +kernel
theorem dX10_longs_17 : decode cX10_longs 17 = .ok (.putfield 250, 3) := by decide +kernel
theorem dX10_longs_20 : decode cX10_longs 20 = .ok (.iload_n 2, 1) := by decide +kernel
theorem dX10_longs_21 : decode cX10_longs 21 = .ok (.iconst (-1), 1) := by decide +kernel
theorem dX10_longs_22 : decode cX10_longs 22 = .ok (.if_icmp .eq 10, 3) := by decide +kernel
theorem dX10_longs_25 : decode cX10_longs 25 = .ok (.aload_n 0, 1) := by decide +kernel
theorem dX10_longs_26 : decode cX10_longs 26 = .ok (.getfield 69, 3) := by decide +kernel
theorem dX10_longs_29 : decode cX10_longs 29 = .ok (.iload_n 2, 1) := by decide +kernel
theorem dX10_longs_30 : decode cX10_longs 30 = .ok (.iload_n 3, 1) := by decide +kernel
theorem dX10_longs_31 : decode cX10_longs 31 = .ok (.iastore, 1) := by decide +kernel
theorem dX10_longs_32 : decode cX10_longs 32 = .ok (.aload_n 0, 1) := by decide +kernel
theorem dX10_longs_33 : decode cX10_longs 33 = .ok (.getfield 57, 3) := by decide +kernel
theorem dX10_longs_36 : decode cX10_longs 36 = .ok (.sipush 219, 3) := by decide +kernel
theorem dX10_longs_39 : decode cX10_longs 39 = .ok (.iaload, 1) := by decide +kernel
theorem dX10_longs_40 : decode cX10_longs 40 = .ok (.sipush 999, 3) := by decide +kernel
theorem dX10_longs_43 : decode cX10_longs 43 = .ok (.if_icmp .ge 46, 3) := by decide +kernel
theorem dX10_longs_46 : decode cX10_longs 46 = .ok (.aload_n 0, 1) := by decide +kernel
theorem dX10_longs_47 : decode cX10_longs 47 = .ok (.aload_n 0, 1) := by decide +kernel
theorem dX10_longs_48 : decode cX10_longs 48 = .ok (.getfield 57, 3) := by decide +kernel
theorem dX10_longs_51 : decode cX10_longs 51 = .ok (.sipush 219, 3) := by decide +kernel
theorem dX10_longs_54 : decode cX10_longs 54 = .ok (.iaload, 1) := by decide +kernel
theorem dX10_longs_55 : decode cX10_longs 55 = .ok (.iconst 1, 1) := by decide +kernel
theorem dX10_longs_56 : decode cX10_longs 56 = .ok (.iadd, 1) := by decide +kernel
theorem dX10_longs_57 : decode cX10_longs 57 = .ok (.iload 4, 2) := by decide +kernel
theorem dX10_longs_59 : decode cX10_longs 59 = .ok (.if_icmp .ne 8, 3) := by decide +kernel
theorem dX10_longs_62 : decode cX10_longs 62 = .ok (.bipush 7, 2) := by decide +kernel
theorem dX10_longs_64 : decode cX10_longs 64 = .ok (.goto 4, 3) := by decide +kernel
theorem dX10_longs_67 : decode cX10_longs 67 = .ok (.iconst 0, 1) := by decide +kernel
theorem dX10_longs_68 : decode cX10_longs 68 = .ok (.invokevirtual 341, 3) := by decide +kernel
theorem dX10_longs_71 : decode cX10_longs 71 = .ok (.ifCond .eq 18, 3) := by decide +kernel
theorem dX10_longs_74 : decode cX10_longs 74 = .ok (.aload_n 0, 1) := by decide +kernel
theorem dX10_longs_75 : decode cX10_longs 75 = .ok (.getfield 57, 3) := by decide +kernel
theorem dX10_longs_78 : decode cX10_longs 78 = .ok (.sipush 226, 3) := by decide +kernel
theorem dX10_longs_81 : decode cX10_longs 81 = .ok (.iaload, 1) := by decide +kernel
theorem dX10_longs_82 : decode cX10_longs 82 = .ok (.iconst 1, 1) := by decide +kernel
theorem dX10_longs_83 : decode cX10_longs 83 = .ok (.if_icmp .ne (-51), 3) := by decide +kernel
theorem dX10_longs_86 : decode cX10_longs 86 = .ok (.goto 3, 3) := by decide +kernel
theorem dX10_longs_89 : decode cX10_longs 89 = .ok (.aload_n 0, 1) := by decide +kernel
theorem dX10_longs_90 : decode cX10_longs 90 = .ok (.getfield 57, 3) := by decide +kernel
theorem dX10_longs_93 : decode cX10_longs 93 = .ok (.sipush 226, 3) := by decide +kernel
theorem dX10_longs_96 : decode cX10_longs 96 = .ok (.iaload, 1) := by decide +kernel
theorem dX10_longs_97 : decode cX10_longs 97 = .ok (.iconst 1, 1) := by decide +kernel
theorem dX10_longs_98 : decode cX10_longs 98 = .ok (.if_icmp .ne 14, 3) := by decide +kernel
theorem dX10_longs_101 : decode cX10_longs 101 = .ok (.aload_n 0, 1) := by decide +kernel
theorem dX10_longs_102 : decode cX10_longs 102 = .ok (.getfield 57, 3) := by decide +kernel
theorem dX10_longs_105 : decode cX10_longs 105 = .ok (.sipush 219, 3) := by decide +kernel
theorem dX10_longs_108 : decode cX10_longs 108 = .ok (.iaload, 1) := by decide +kernel
theorem dX10_longs_109 : decode cX10_longs 109 = .ok (.goto 5, 3) := by decide +kernel
theorem dX10_longs_112 : decode cX10_longs 112 = .ok (.bipush (-2), 2) := by decide +kernel
theorem dX10_longs_114 : decode cX10_longs 114 = .ok (.istore 5, 2) := by decide +kernel
theorem dX10_longs_116 : decode cX10_longs 116 = .ok (.aload_n 0, 1) := by decide +kernel
theorem dX10_longs_117 : decode cX10_longs 117 = .ok (.getfield 63, 3) := by decide +kernel
theorem dX10_longs_120 : decode cX10_longs 120 = .ok (.aload_n 0, 1) := by decide +kernel
theorem dX10_longs_121 : decode cX10_longs 121 = .ok (.getfield 57, 3) := by decide +kernel
theorem dX10_longs_124 : decode cX10_longs 124 = .ok (.invokestatic 370, 3) := by decide +kernel
theorem dX10_longs_127 : decode cX10_longs 127 = .ok (.aload_n 0, 1) := by decide +kernel
theorem dX10_longs_128 : decode cX10_longs 128 = .ok (.invokevirtual 253, 3) := by decide +kernel
theorem dX10_longs_131 : decode cX10_longs 131 = .ok (.iload 5, 2) := by decide +kernel
theorem dX10_longs_133 : decode cX10_longs 133 = .ok (.ireturn, 1) := by decide +kernel
theorem dX10_longBy_0 : decode cX10_longBy 0 = .ok (.aload_n 0, 1) := by decide +kernel
theorem dX10_longBy_1 : decode cX10_longBy 1 = .ok (.iconst 0, 1) := by decide +kernel
theorem dX10_longBy_2 : decode cX10_longBy 2 = .ok (.putfield 90, 3) := by decide +kernel
theorem dX10_longBy_5 : decode cX10_longBy 5 = .ok (.iload_n 1, 1) := by decide +kernel
theorem dX10_longBy_6 : decode cX10_longBy 6 = .ok (.iconst 1, 1) := by decide +kernel
theorem dX10_longBy_7 : decode cX10_longBy 7 = .ok (.if_icmp .lt 9, 3) := by decide +kernel
theorem dX10_longBy_10 : decode cX10_longBy 10 = .ok (.iload_n 1, 1) := by decide +kernel
theorem dX10_longBy_11 : decode cX10_longBy 11 = .ok (.bipush 40, 2) := by decide +kernel
theorem dX10_longBy_13 : decode cX10_longBy 13 = .ok (.if_icmp .le 7, 3) := by decide +kernel
theorem dX10_longBy_16 : decode cX10_longBy 16 = .ok (.iconst (-1), 1) := by decide +kernel
theorem dX10_longBy_17 : decode cX10_longBy 17 = .ok (.goto 11, 3) := by decide +kernel
theorem dX10_longBy_20 : decode cX10_longBy 20 = .ok (.aload_n 0, 1) := by decide +kernel
theorem dX10_longBy_21 : decode cX10_longBy 21 = .ok (.iload_n 1, 1) := by decide +kernel
theorem dX10_longBy_22 : decode cX10_longBy 22 = .ok (.iconst (-1), 1) := by decide +kernel
theorem dX10_longBy_23 : decode cX10_longBy 23 = .ok (.iconst 0, 1) := by decide +kernel
theorem dX10_longBy_24 : decode cX10_longBy 24 = .ok (.iconst 0, 1) := by decide +kernel
theorem dX10_longBy_25 : decode cX10_longBy 25 = .ok (.invokevirtual 402, 3) := by decide +kernel
theorem dX10_longBy_28 : decode cX10_longBy 28 = .ok (.ireturn, 1) := by decide +kernel
theorem dX10_longWith_0 : decode cX10_longWith 0 = .ok (.aload_n 0, 1) := by decide +kernel
theorem dX10_longWith_1 : decode cX10_longWith 1 = .ok (.iconst 0, 1) := by decide +kernel
theorem dX10_longWith_2 : decode cX10_longWith 2 = .ok (.putfield 90, 3) := by decide +kernel
theorem dX10_longWith_5 : decode cX10_longWith 5 = .ok (.iload_n 1, 1) := by decide +kernel
theorem dX10_longWith_6 : decode cX10_longWith 6 = .ok (.iconst 1, 1) := by decide +kernel
theorem dX10_longWith_7 : decode cX10_longWith 7 = .ok (.if_icmp .lt 21, 3) := by decide +kernel
theorem dX10_longWith_10 : decode cX10_longWith 10 = .ok (.iload_n 1, 1) := by decide +kernel
theorem dX10_longWith_11 : decode cX10_longWith 11 = .ok (.bipush 40, 2) := by decide +kernel
theorem dX10_longWith_13 : decode cX10_longWith 13 = .ok (.if_icmp .gt 15, 3) := by decide +kernel
theorem dX10_longWith_16 : decode cX10_longWith 16 = .ok (.iload_n 2, 1) := by decide +kernel
theorem dX10_longWith_17 : decode cX10_longWith 17 = .ok (.iconst 1, 1) := by decide +kernel
theorem dX10_longWith_18 : decode cX10_longWith 18 = .ok (.if_icmp .lt 10, 3) := by decide +kernel
theorem dX10_longWith_21 : decode cX10_longWith 21 = .ok (.iload_n 2, 1) := by decide +kernel
theorem dX10_longWith_22 : decode cX10_longWith 22 = .ok (.sipush 200, 3) := by decide +kernel
theorem dX10_longWith_25 : decode cX10_longWith 25 = .ok (.if_icmp .le 7, 3) := by decide +kernel
theorem dX10_longWith_28 : decode cX10_longWith 28 = .ok (.iconst (-1), 1) := by decide +kernel
theorem dX10_longWith_29 : decode cX10_longWith 29 = .ok (.goto 11, 3) := by decide +kernel
theorem dX10_longWith_32 : decode cX10_longWith 32 = .ok (.aload_n 0, 1) := by decide +kernel
theorem dX10_longWith_33 : decode cX10_longWith 33 = .ok (.iload_n 1, 1) := by decide +kernel
theorem dX10_longWith_34 : decode cX10_longWith 34 = .ok (.iconst (-1), 1) := by decide +kernel
theorem dX10_longWith_35 : decode cX10_longWith 35 = .ok (.iconst 0, 1) := by decide +kernel
theorem dX10_longWith_36 : decode cX10_longWith 36 = .ok (.iload_n 2, 1) := by decide +kernel
theorem dX10_longWith_37 : decode cX10_longWith 37 = .ok (.invokevirtual 402, 3) := by decide +kernel
theorem dX10_longWith_40 : decode cX10_longWith 40 = .ok (.ireturn, 1) := by decide +kernel
theorem dX10_bestSpan_0 : decode cX10_bestSpan 0 = .ok (.aload_n 0, 1) := by decide +kernel
theorem dX10_bestSpan_1 : decode cX10_bestSpan 1 = .ok (.iconst 0, 1) := by decide +kernel
theorem dX10_bestSpan_2 : decode cX10_bestSpan 2 = .ok (.putfield 90, 3) := by decide +kernel
theorem dX10_bestSpan_5 : decode cX10_bestSpan 5 = .ok (.iload_n 1, 1) := by decide +kernel
theorem dX10_bestSpan_6 : decode cX10_bestSpan 6 = .ok (.iconst 1, 1) := by decide +kernel
theorem dX10_bestSpan_7 : decode cX10_bestSpan 7 = .ok (.if_icmp .lt 10, 3) := by decide +kernel
theorem dX10_bestSpan_10 : decode cX10_bestSpan 10 = .ok (.iload_n 1, 1) := by decide +kernel
theorem dX10_bestSpan_11 : decode cX10_bestSpan 11 = .ok (.sipush 200, 3) := by decide +kernel
theorem dX10_bestSpan_14 : decode cX10_bestSpan 14 = .ok (.if_icmp .le 5, 3) := by decide +kernel
theorem dX10_bestSpan_17 : decode cX10_bestSpan 17 = .ok (.iconst (-1), 1) := by decide +kernel
theorem dX10_bestSpan_18 : decode cX10_bestSpan 18 = .ok (.ireturn, 1) := by decide +kernel
theorem dX10_bestSpan_19 : decode cX10_bestSpan 19 = .ok (.bipush (-2), 2) := by decide +kernel
theorem dX10_bestSpan_21 : decode cX10_bestSpan 21 = .ok (.istore_n 2, 1) := by decide +kernel
theorem dX10_bestSpan_22 : decode cX10_bestSpan 22 = .ok (.iconst 0, 1) := by decide +kernel
theorem dX10_bestSpan_23 : decode cX10_bestSpan 23 = .ok (.istore_n 3, 1) := by decide +kernel
theorem dX10_bestSpan_24 : decode cX10_bestSpan 24 = .ok (.iconst 1, 1) := by decide +kernel
theorem dX10_bestSpan_25 : decode cX10_bestSpan 25 = .ok (.istore 4, 2) := by decide +kernel
theorem dX10_bestSpan_27 : decode cX10_bestSpan 27 = .ok (.iload 4, 2) := by decide +kernel
theorem dX10_bestSpan_29 : decode cX10_bestSpan 29 = .ok (.bipush 40, 2) := by decide +kernel
theorem dX10_bestSpan_31 : decode cX10_bestSpan 31 = .ok (.if_icmp .gt 48, 3) := by decide +kernel
theorem dX10_bestSpan_34 : decode cX10_bestSpan 34 = .ok (.aload_n 0, 1) := by decide +kernel
theorem dX10_bestSpan_35 : decode cX10_bestSpan 35 = .ok (.iload 4, 2) := by decide +kernel
theorem dX10_bestSpan_37 : decode cX10_bestSpan 37 = .ok (.iconst (-1), 1) := by decide +kernel
theorem dX10_bestSpan_38 : decode cX10_bestSpan 38 = .ok (.iconst 0, 1) := by decide +kernel
theorem dX10_bestSpan_39 : decode cX10_bestSpan 39 = .ok (.iload_n 1, 1) := by decide +kernel
theorem dX10_bestSpan_40 : decode cX10_bestSpan 40 = .ok (.invokevirtual 402, 3) := by decide +kernel
theorem dX10_bestSpan_43 : decode cX10_bestSpan 43 = .ok (.istore 5, 2) := by decide +kernel
theorem dX10_bestSpan_45 : decode cX10_bestSpan 45 = .ok (.iload 5, 2) := by decide +kernel
theorem dX10_bestSpan_47 : decode cX10_bestSpan 47 = .ok (.bipush (-2), 2) := by decide +kernel
theorem dX10_bestSpan_49 : decode cX10_bestSpan 49 = .ok (.if_icmp .eq 24, 3) := by decide +kernel
theorem dX10_bestSpan_52 : decode cX10_bestSpan 52 = .ok (.iload_n 2, 1) := by decide +kernel
theorem dX10_bestSpan_53 : decode cX10_bestSpan 53 = .ok (.bipush (-2), 2) := by decide +kernel
theorem dX10_bestSpan_55 : decode cX10_bestSpan 55 = .ok (.if_icmp .eq 12, 3) := by decide +kernel
theorem dX10_bestSpan_58 : decode cX10_bestSpan 58 = .ok (.iload 5, 2) := by decide +kernel
theorem dX10_bestSpan_60 : decode cX10_bestSpan 60 = .ok (.iload_n 3, 1) := by decide +kernel
theorem dX10_bestSpan_61 : decode cX10_bestSpan 61 = .ok (.if_icmp .lt 6, 3) := by decide +kernel
theorem dX10_bestSpan_64 : decode cX10_bestSpan 64 = .ok (.goto 9, 3) := by decide +kernel
theorem dX10_bestSpan_67 : decode cX10_bestSpan 67 = .ok (.iload 4, 2) := by decide +kernel
theorem dX10_bestSpan_69 : decode cX10_bestSpan 69 = .ok (.istore_n 2, 1) := by decide +kernel
theorem dX10_bestSpan_70 : decode cX10_bestSpan 70 = .ok (.iload 5, 2) := by decide +kernel
theorem dX10_bestSpan_72 : decode cX10_bestSpan 72 = .ok (.istore_n 3, 1) := by decide +kernel
theorem dX10_bestSpan_73 : decode cX10_bestSpan 73 = .ok (.iinc 4 1, 3) := by decide +kernel
theorem dX10_bestSpan_76 : decode cX10_bestSpan 76 = .ok (.goto (-49), 3) := by decide +kernel
theorem dX10_bestSpan_79 : decode cX10_bestSpan 79 = .ok (.iload_n 2, 1) := by decide +kernel
theorem dX10_bestSpan_80 : decode cX10_bestSpan 80 = .ok (.ireturn, 1) := by decide +kernel
theorem dX10_need_0 : decode cX10_need 0 = .ok (.aload_n 0, 1) := by decide +kernel
theorem dX10_need_1 : decode cX10_need 1 = .ok (.iconst 0, 1) := by decide +kernel
theorem dX10_need_2 : decode cX10_need 2 = .ok (.putfield 90, 3) := by decide +kernel
theorem dX10_need_5 : decode cX10_need 5 = .ok (.iload_n 1, 1) := by decide +kernel
theorem dX10_need_6 : decode cX10_need 6 = .ok (.iconst 3, 1) := by decide +kernel
theorem dX10_need_7 : decode cX10_need 7 = .ok (.invokestatic 364, 3) := by decide +kernel
theorem dX10_need_10 : decode cX10_need 10 = .ok (.ifCond .ne 5, 3) := by decide +kernel
theorem dX10_need_13 : decode cX10_need 13 = .ok (.iconst (-1), 1) := by decide +kernel
theorem dX10_need_14 : decode cX10_need 14 = .ok (.ireturn, 1) := by decide +kernel
theorem dX10_need_15 : decode cX10_need 15 = .ok (.aload_n 0, 1) := by decide +kernel
theorem dX10_need_16 : decode cX10_need 16 = .ok (.aload_n 0, 1) := by decide +kernel
theorem dX10_need_17 : decode cX10_need 17 = .ok (.getfield 13, 3) := by decide +kernel
theorem dX10_need_20 : decode cX10_need 20 = .ok (.iconst 0, 1) := by decide +kernel
theorem dX10_need_21 : decode cX10_need 21 = .ok (.iaload, 1) := by decide +kernel
theorem dX10_need_22 : decode cX10_need 22 = .ok (.iload_n 1, 1) := by decide +kernel
theorem dX10_need_23 : decode cX10_need 23 = .ok (.bipush 8, 2) := by decide +kernel
theorem dX10_need_25 : decode cX10_need 25 = .ok (.iconst 0, 1) := by decide +kernel
theorem dX10_need_26 : decode cX10_need 26 = .ok (.invokevirtual 402, 3) := by decide +kernel
theorem dX10_need_29 : decode cX10_need 29 = .ok (.istore_n 2, 1) := by decide +kernel
theorem dX10_need_30 : decode cX10_need 30 = .ok (.iload_n 2, 1) := by decide +kernel
theorem dX10_need_31 : decode cX10_need 31 = .ok (.bipush (-2), 2) := by decide +kernel
theorem dX10_need_33 : decode cX10_need 33 = .ok (.if_icmp .ne 6, 3) := by decide +kernel
theorem dX10_need_36 : decode cX10_need 36 = .ok (.bipush (-2), 2) := by decide +kernel
theorem dX10_need_38 : decode cX10_need 38 = .ok (.ireturn, 1) := by decide +kernel
theorem dX10_need_39 : decode cX10_need 39 = .ok (.iconst 1, 1) := by decide +kernel
theorem dX10_need_40 : decode cX10_need 40 = .ok (.istore_n 3, 1) := by decide +kernel
theorem dX10_need_41 : decode cX10_need 41 = .ok (.aload_n 0, 1) := by decide +kernel
theorem dX10_need_42 : decode cX10_need 42 = .ok (.aload_n 0, 1) := by decide +kernel
theorem dX10_need_43 : decode cX10_need 43 = .ok (.getfield 13, 3) := by decide +kernel
theorem dX10_need_46 : decode cX10_need 46 = .ok (.iconst 0, 1) := by decide +kernel
theorem dX10_need_47 : decode cX10_need 47 = .ok (.iaload, 1) := by decide +kernel
theorem dX10_need_48 : decode cX10_need 48 = .ok (.iload_n 1, 1) := by decide +kernel
theorem dX10_need_49 : decode cX10_need 49 = .ok (.iload_n 3, 1) := by decide +kernel
theorem dX10_need_50 : decode cX10_need 50 = .ok (.iconst 0, 1) := by decide +kernel
theorem dX10_need_51 : decode cX10_need 51 = .ok (.invokevirtual 402, 3) := by decide +kernel
theorem dX10_need_54 : decode cX10_need 54 = .ok (.istore 4, 2) := by decide +kernel
theorem dX10_need_56 : decode cX10_need 56 = .ok (.iload 4, 2) := by decide +kernel
theorem dX10_need_58 : decode cX10_need 58 = .ok (.bipush (-2), 2) := by decide +kernel
theorem dX10_need_60 : decode cX10_need 60 = .ok (.if_icmp .eq 9, 3) := by decide +kernel
theorem dX10_need_63 : decode cX10_need 63 = .ok (.iload 4, 2) := by decide +kernel
theorem dX10_need_65 : decode cX10_need 65 = .ok (.iload_n 2, 1) := by decide +kernel
theorem dX10_need_66 : decode cX10_need 66 = .ok (.if_icmp .le 24, 3) := by decide +kernel
theorem dX10_need_69 : decode cX10_need 69 = .ok (.iinc 3 1, 3) := by decide +kernel
theorem dX10_need_72 : decode cX10_need 72 = .ok (.aload_n 0, 1) := by decide +kernel
theorem dX10_need_73 : decode cX10_need 73 = .ok (.aload_n 0, 1) := by decide +kernel
theorem dX10_need_74 : decode cX10_need 74 = .ok (.getfield 13, 3) := by decide +kernel
theorem dX10_need_77 : decode cX10_need 77 = .ok (.iconst 0, 1) := by decide +kernel
theorem dX10_need_78 : decode cX10_need 78 = .ok (.iaload, 1) := by decide +kernel
theorem dX10_need_79 : decode cX10_need 79 = .ok (.iload_n 1, 1) := by decide +kernel
theorem dX10_need_80 : decode cX10_need 80 = .ok (.iload_n 3, 1) := by decide +kernel
theorem dX10_need_81 : decode cX10_need 81 = .ok (.iconst 0, 1) := by decide +kernel
theorem dX10_need_82 : decode cX10_need 82 = .ok (.invokevirtual 402, 3) := by decide +kernel
theorem dX10_need_85 : decode cX10_need 85 = .ok (.istore 4, 2) := by decide +kernel
theorem dX10_need_87 : decode cX10_need 87 = .ok (.goto (-31), 3) := by decide +kernel
theorem dX10_need_90 : decode cX10_need 90 = .ok (.iload_n 3, 1) := by decide +kernel
theorem dX10_need_91 : decode cX10_need 91 = .ok (.ireturn, 1) := by decide +kernel
theorem dX10_mean_0 : decode cX10_mean 0 = .ok (.aload_n 0, 1) := by decide +kernel
theorem dX10_mean_1 : decode cX10_mean 1 = .ok (.iconst 0, 1) := by decide +kernel
theorem dX10_mean_2 : decode cX10_mean 2 = .ok (.putfield 90, 3) := by decide +kernel
theorem dX10_mean_5 : decode cX10_mean 5 = .ok (.aload_n 0, 1) := by decide +kernel
theorem dX10_mean_6 : decode cX10_mean 6 = .ok (.getfield 57, 3) := by decide +kernel
theorem dX10_mean_9 : decode cX10_mean 9 = .ok (.sipush 219, 3) := by decide +kernel
theorem dX10_mean_12 : decode cX10_mean 12 = .ok (.iaload, 1) := by decide +kernel
theorem dX10_mean_13 : decode cX10_mean 13 = .ok (.ifCond .ne 6, 3) := by decide +kernel
theorem dX10_mean_16 : decode cX10_mean 16 = .ok (.bipush (-2), 2) := by decide +kernel
theorem dX10_mean_18 : decode cX10_mean 18 = .ok (.ireturn, 1) := by decide +kernel
theorem dX10_mean_19 : decode cX10_mean 19 = .ok (.aload_n 0, 1) := by decide +kernel
theorem dX10_mean_20 : decode cX10_mean 20 = .ok (.getfield 57, 3) := by decide +kernel
theorem dX10_mean_23 : decode cX10_mean 23 = .ok (.sipush 230, 3) := by decide +kernel
theorem dX10_mean_26 : decode cX10_mean 26 = .ok (.iaload, 1) := by decide +kernel
theorem dX10_mean_27 : decode cX10_mean 27 = .ok (.i2f, 1) := by decide +kernel
theorem dX10_mean_28 : decode cX10_mean 28 = .ok (.f2d, 1) := by decide +kernel
theorem dX10_mean_29 : decode cX10_mean 29 = .ok (.dstore_n 1, 1) := by decide +kernel
theorem dX10_mean_30 : decode cX10_mean 30 = .ok (.aload_n 0, 1) := by decide +kernel
theorem dX10_mean_31 : decode cX10_mean 31 = .ok (.getfield 57, 3) := by decide +kernel
theorem dX10_mean_34 : decode cX10_mean 34 = .ok (.sipush 219, 3) := by decide +kernel
theorem dX10_mean_37 : decode cX10_mean 37 = .ok (.iaload, 1) := by decide +kernel
theorem dX10_mean_38 : decode cX10_mean 38 = .ok (.i2f, 1) := by decide +kernel
theorem dX10_mean_39 : decode cX10_mean 39 = .ok (.f2d, 1) := by decide +kernel
theorem dX10_mean_40 : decode cX10_mean 40 = .ok (.dstore_n 3, 1) := by decide +kernel
theorem dX10_mean_41 : decode cX10_mean 41 = .ok (.dload_n 1, 1) := by decide +kernel
theorem dX10_mean_42 : decode cX10_mean 42 = .ok (.dload_n 3, 1) := by decide +kernel
theorem dX10_mean_43 : decode cX10_mean 43 = .ok (.ddiv, 1) := by decide +kernel
theorem dX10_mean_44 : decode cX10_mean 44 = .ok (.invokestatic 246, 3) := by decide +kernel
theorem dX10_mean_47 : decode cX10_mean 47 = .ok (.ireturn, 1) := by decide +kernel
theorem dX10_left_0 : decode cX10_left 0 = .ok (.aload_n 0, 1) := by decide +kernel
theorem dX10_left_1 : decode cX10_left 1 = .ok (.iconst 0, 1) := by decide +kernel
theorem dX10_left_2 : decode cX10_left 2 = .ok (.putfield 90, 3) := by decide +kernel
theorem dX10_left_5 : decode cX10_left 5 = .ok (.iload_n 1, 1) := by decide +kernel
theorem dX10_left_6 : decode cX10_left 6 = .ok (.aload_n 0, 1) := by decide +kernel
theorem dX10_left_7 : decode cX10_left 7 = .ok (.getfield 57, 3) := by decide +kernel
theorem dX10_left_10 : decode cX10_left 10 = .ok (.sipush 265, 3) := by decide +kernel
theorem dX10_left_13 : decode cX10_left 13 = .ok (.iaload, 1) := by decide +kernel
theorem dX10_left_14 : decode cX10_left 14 = .ok (.invokestatic 364, 3) := by decide +kernel
theorem dX10_left_17 : decode cX10_left 17 = .ok (.ifCond .eq 28, 3) := by decide +kernel
theorem dX10_left_20 : decode cX10_left 20 = .ok (.iload_n 2, 1) := by decide +kernel
theorem dX10_left_21 : decode cX10_left 21 = .ok (.iconst 3, 1) := by decide +kernel
theorem dX10_left_22 : decode cX10_left 22 = .ok (.invokestatic 364, 3) := by decide +kernel
theorem dX10_left_25 : decode cX10_left 25 = .ok (.ifCond .eq 20, 3) := by decide +kernel
theorem dX10_left_28 : decode cX10_left 28 = .ok (.aload_n 0, 1) := by decide +kernel
theorem dX10_left_29 : decode cX10_left 29 = .ok (.getfield 57, 3) := by decide +kernel
theorem dX10_left_32 : decode cX10_left 32 = .ok (.sipush 266, 3) := by decide +kernel
theorem dX10_left_35 : decode cX10_left 35 = .ok (.iconst 3, 1) := by decide +kernel
theorem dX10_left_36 : decode cX10_left 36 = .ok (.iload_n 1, 1) := by decide +kernel
theorem dX10_left_37 : decode cX10_left 37 = .ok (.imul, 1) := by decide +kernel
theorem dX10_left_38 : decode cX10_left 38 = .ok (.iadd, 1) := by decide +kernel
theorem dX10_left_39 : decode cX10_left 39 = .ok (.iload_n 2, 1) := by decide +kernel
theorem dX10_left_40 : decode cX10_left 40 = .ok (.iadd, 1) := by decide +kernel
theorem dX10_left_41 : decode cX10_left 41 = .ok (.iaload, 1) := by decide +kernel
theorem dX10_left_42 : decode cX10_left 42 = .ok (.goto 4, 3) := by decide +kernel
theorem dX10_left_45 : decode cX10_left 45 = .ok (.iconst 0, 1) := by decide +kernel
theorem dX10_left_46 : decode cX10_left 46 = .ok (.ireturn, 1) := by decide +kernel
theorem dX10_takes_0 : decode cX10_takes 0 = .ok (.aload_n 0, 1) := by decide +kernel
theorem dX10_takes_1 : decode cX10_takes 1 = .ok (.iconst 0, 1) := by decide +kernel
theorem dX10_takes_2 : decode cX10_takes 2 = .ok (.putfield 90, 3) := by decide +kernel
theorem dX10_takes_5 : decode cX10_takes 5 = .ok (.aload_n 0, 1) := by decide +kernel
theorem dX10_takes_6 : decode cX10_takes 6 = .ok (.getfield 57, 3) := by decide +kernel
theorem dX10_takes_9 : decode cX10_takes 9 = .ok (.sipush 265, 3) := by decide +kernel
theorem dX10_takes_12 : decode cX10_takes 12 = .ok (.iaload, 1) := by decide +kernel
theorem dX10_takes_13 : decode cX10_takes 13 = .ok (.aload_n 0, 1) := by decide +kernel
theorem dX10_takes_14 : decode cX10_takes 14 = .ok (.getfield 57, 3) := by decide +kernel
theorem dX10_takes_17 : decode cX10_takes 17 = .ok (.sipush 232, 3) := by decide +kernel
theorem dX10_takes_20 : decode cX10_takes 20 = .ok (.iaload, 1) := by decide +kernel
theorem dX10_takes_21 : decode cX10_takes 21 = .ok (.iconst 1, 1) := by decide +kernel
theorem dX10_takes_22 : decode cX10_takes 22 = .ok (.if_icmp .ne 8, 3) := by decide +kernel
theorem dX10_takes_25 : decode cX10_takes 25 = .ok (.bipush 12, 2) := by decide +kernel
theorem dX10_takes_27 : decode cX10_takes 27 = .ok (.goto 5, 3) := by decide +kernel
theorem dX10_takes_30 : decode cX10_takes 30 = .ok (.bipush 8, 2) := by decide +kernel
theorem dX10_takes_32 : decode cX10_takes 32 = .ok (.imul, 1) := by decide +kernel
theorem dX10_takes_33 : decode cX10_takes 33 = .ok (.ireturn, 1) := by decide +kernel
theorem dX10_draw_0 : decode cX10_draw 0 = .ok (.aload_n 0, 1) := by decide +kernel
theorem dX10_draw_1 : decode cX10_draw 1 = .ok (.aload_n 0, 1) := by decide +kernel
theorem dX10_draw_2 : decode cX10_draw 2 = .ok (.getfield 406, 3) := by decide +kernel
theorem dX10_draw_5 : decode cX10_draw 5 = .ok (.ldc_w 409, 3) := by decide +kernel
theorem dX10_draw_8 : decode cX10_draw 8 = .ok (.imul, 1) := by decide +kernel
theorem dX10_draw_9 : decode cX10_draw 9 = .ok (.sipush 12345, 3) := by decide +kernel
theorem dX10_draw_12 : decode cX10_draw 12 = .ok (.iadd, 1) := by decide +kernel
theorem dX10_draw_13 : decode cX10_draw 13 = .ok (.ldc_w 410, 3) := by decide +kernel
theorem dX10_draw_16 : decode cX10_draw 16 = .ok (.iand, 1) := by decide +kernel
theorem dX10_draw_17 : decode cX10_draw 17 = .ok (.putfield 406, 3) := by decide +kernel
theorem dX10_draw_20 : decode cX10_draw 20 = .ok (.aload_n 0, 1) := by decide +kernel
theorem dX10_draw_21 : decode cX10_draw 21 = .ok (.getfield 406, 3) := by decide +kernel
theorem dX10_draw_24 : decode cX10_draw 24 = .ok (.bipush 16, 2) := by decide +kernel
theorem dX10_draw_26 : decode cX10_draw 26 = .ok (.ishr, 1) := by decide +kernel
theorem dX10_draw_27 : decode cX10_draw 27 = .ok (.iload_n 1, 1) := by decide +kernel
theorem dX10_draw_28 : decode cX10_draw 28 = .ok (.irem, 1) := by decide +kernel
theorem dX10_draw_29 : decode cX10_draw 29 = .ok (.ireturn, 1) := by decide +kernel
theorem dX10_goesUntil_0 : decode cX10_goesUntil 0 = .ok (.iconst 1, 1) := by decide +kernel
theorem dX10_goesUntil_1 : decode cX10_goesUntil 1 = .ok (.istore_n 2, 1) := by decide +kernel
theorem dX10_goesUntil_2 : decode cX10_goesUntil 2 = .ok (.iload_n 2, 1) := by decide +kernel
theorem dX10_goesUntil_3 : decode cX10_goesUntil 3 = .ok (.ifCond .eq 24, 3) := by decide +kernel
theorem dX10_goesUntil_6 : decode cX10_goesUntil 6 = .ok (.aload_n 0, 1) := by decide +kernel
theorem dX10_goesUntil_7 : decode cX10_goesUntil 7 = .ok (.getfield 57, 3) := by decide +kernel
theorem dX10_goesUntil_10 : decode cX10_goesUntil 10 = .ok (.sipush 219, 3) := by decide +kernel
theorem dX10_goesUntil_13 : decode cX10_goesUntil 13 = .ok (.iaload, 1) := by decide +kernel
theorem dX10_goesUntil_14 : decode cX10_goesUntil 14 = .ok (.iload_n 1, 1) := by decide +kernel
theorem dX10_goesUntil_15 : decode cX10_goesUntil 15 = .ok (.if_icmp .ge 12, 3) := by decide +kernel
theorem dX10_goesUntil_18 : decode cX10_goesUntil 18 = .ok (.aload_n 0, 1) := by decide +kernel
theorem dX10_goesUntil_19 : decode cX10_goesUntil 19 = .ok (.iconst 0, 1) := by decide +kernel
theorem dX10_goesUntil_20 : decode cX10_goesUntil 20 = .ok (.invokevirtual 341, 3) := by decide +kernel
theorem dX10_goesUntil_23 : decode cX10_goesUntil 23 = .ok (.istore_n 2, 1) := by decide +kernel
theorem dX10_goesUntil_24 : decode cX10_goesUntil 24 = .ok (.goto (-22), 3) := by decide +kernel
theorem dX10_goesUntil_27 : decode cX10_goesUntil 27 = .ok (.return_, 1) := by decide +kernel
theorem dX10_chance_0 : decode cX10_chance 0 = .ok (.aload_n 0, 1) := by decide +kernel
theorem dX10_chance_1 : decode cX10_chance 1 = .ok (.iconst 0, 1) := by decide +kernel
theorem dX10_chance_2 : decode cX10_chance 2 = .ok (.putfield 90, 3) := by decide +kernel
theorem dX10_chance_5 : decode cX10_chance 5 = .ok (.iload_n 1, 1) := by decide +kernel
theorem dX10_chance_6 : decode cX10_chance 6 = .ok (.iconst (-1), 1) := by decide +kernel
theorem dX10_chance_7 : decode cX10_chance 7 = .ok (.if_icmp .lt 21, 3) := by decide +kernel
theorem dX10_chance_10 : decode cX10_chance 10 = .ok (.iload_n 2, 1) := by decide +kernel
theorem dX10_chance_11 : decode cX10_chance 11 = .ok (.iconst 1, 1) := by decide +kernel
theorem dX10_chance_12 : decode cX10_chance 12 = .ok (.if_icmp .lt 16, 3) := by decide +kernel
theorem dX10_chance_15 : decode cX10_chance 15 = .ok (.iload_n 2, 1) := by decide +kernel
theorem dX10_chance_16 : decode cX10_chance 16 = .ok (.iconst 5, 1) := by decide +kernel
theorem dX10_chance_17 : decode cX10_chance 17 = .ok (.if_icmp .gt 11, 3) := by decide +kernel
theorem dX10_chance_20 : decode cX10_chance 20 = .ok (.iload_n 3, 1) := by decide +kernel
theorem dX10_chance_21 : decode cX10_chance 21 = .ok (.iconst 3, 1) := by decide +kernel
theorem dX10_chance_22 : decode cX10_chance 22 = .ok (.invokestatic 364, 3) := by decide +kernel
theorem dX10_chance_25 : decode cX10_chance 25 = .ok (.ifCond .ne 5, 3) := by decide +kernel
theorem dX10_chance_28 : decode cX10_chance 28 = .ok (.iconst (-1), 1) := by decide +kernel
theorem dX10_chance_29 : decode cX10_chance 29 = .ok (.ireturn, 1) := by decide +kernel
theorem dX10_chance_30 : decode cX10_chance 30 = .ok (.aload_n 0, 1) := by decide +kernel
theorem dX10_chance_31 : decode cX10_chance 31 = .ok (.iload_n 1, 1) := by decide +kernel
theorem dX10_chance_32 : decode cX10_chance 32 = .ok (.iconst (-1), 1) := by decide +kernel
theorem dX10_chance_33 : decode cX10_chance 33 = .ok (.if_icmp .ne 13, 3) := by decide +kernel
theorem dX10_chance_36 : decode cX10_chance 36 = .ok (.aload_n 0, 1) := by decide +kernel
theorem dX10_chance_37 : decode cX10_chance 37 = .ok (.getfield 13, 3) := by decide +kernel
theorem dX10_chance_40 : decode cX10_chance 40 = .ok (.bipush 7, 2) := by decide +kernel
theorem dX10_chance_42 : decode cX10_chance 42 = .ok (.iaload, 1) := by decide +kernel
theorem dX10_chance_43 : decode cX10_chance 43 = .ok (.goto 4, 3) := by decide +kernel
theorem dX10_chance_46 : decode cX10_chance 46 = .ok (.iload_n 1, 1) := by decide +kernel
theorem dX10_chance_47 : decode cX10_chance 47 = .ok (.putfield 406, 3) := by decide +kernel
theorem dX10_chance_50 : decode cX10_chance 50 = .ok (.aload_n 0, 1) := by decide +kernel
theorem dX10_chance_51 : decode cX10_chance 51 = .ok (.getfield 57, 3) := by decide +kernel
theorem dX10_chance_54 : decode cX10_chance 54 = .ok (.aload_n 0, 1) := by decide +kernel
theorem dX10_chance_55 : decode cX10_chance 55 = .ok (.getfield 63, 3) := by decide +kernel
theorem dX10_chance_58 : decode cX10_chance 58 = .ok (.invokestatic 370, 3) := by decide +kernel
theorem dX10_chance_61 : decode cX10_chance 61 = .ok (.iconst 0, 1) := by decide +kernel
theorem dX10_chance_62 : decode cX10_chance 62 = .ok (.istore 4, 2) := by decide +kernel
theorem dX10_chance_64 : decode cX10_chance 64 = .ok (.iconst 0, 1) := by decide +kernel
theorem dX10_chance_65 : decode cX10_chance 65 = .ok (.istore 5, 2) := by decide +kernel
theorem dX10_chance_67 : decode cX10_chance 67 = .ok (.iload 5, 2) := by decide +kernel
theorem dX10_chance_69 : decode cX10_chance 69 = .ok (.iload_n 2, 1) := by decide +kernel
theorem dX10_chance_70 : decode cX10_chance 70 = .ok (.if_icmp .ge 116, 3) := by decide +kernel
theorem dX10_chance_73 : decode cX10_chance 73 = .ok (.aload_n 0, 1) := by decide +kernel
theorem dX10_chance_74 : decode cX10_chance 74 = .ok (.invokevirtual 87, 3) := by decide +kernel
theorem dX10_chance_77 : decode cX10_chance 77 = .ok (.aload_n 0, 1) := by decide +kernel
theorem dX10_chance_78 : decode cX10_chance 78 = .ok (.bipush 50, 2) := by decide +kernel
theorem dX10_chance_80 : decode cX10_chance 80 = .ok (.invokevirtual 411, 3) := by decide +kernel
theorem dX10_chance_83 : decode cX10_chance 83 = .ok (.istore 6, 2) := by decide +kernel
theorem dX10_chance_85 : decode cX10_chance 85 = .ok (.aload_n 0, 1) := by decide +kernel
theorem dX10_chance_86 : decode cX10_chance 86 = .ok (.iload 6, 2) := by decide +kernel
theorem dX10_chance_88 : decode cX10_chance 88 = .ok (.invokevirtual 414, 3) := by decide +kernel
theorem dX10_chance_91 : decode cX10_chance 91 = .ok (.aload_n 0, 1) := by decide +kernel
theorem dX10_chance_92 : decode cX10_chance 92 = .ok (.iconst 4, 1) := by decide +kernel
theorem dX10_chance_93 : decode cX10_chance 93 = .ok (.invokevirtual 411, 3) := by decide +kernel
theorem dX10_chance_96 : decode cX10_chance 96 = .ok (.istore 7, 2) := by decide +kernel
theorem dX10_chance_98 : decode cX10_chance 98 = .ok (.aload_n 0, 1) := by decide +kernel
theorem dX10_chance_99 : decode cX10_chance 99 = .ok (.bipush 8, 2) := by decide +kernel
theorem dX10_chance_101 : decode cX10_chance 101 = .ok (.invokevirtual 411, 3) := by decide +kernel
theorem dX10_chance_104 : decode cX10_chance 104 = .ok (.istore 8, 2) := by decide +kernel
theorem dX10_chance_106 : decode cX10_chance 106 = .ok (.aload_n 0, 1) := by decide +kernel
theorem dX10_chance_107 : decode cX10_chance 107 = .ok (.iload 7, 2) := by decide +kernel
theorem dX10_chance_109 : decode cX10_chance 109 = .ok (.iload 8, 2) := by decide +kernel
theorem dX10_chance_111 : decode cX10_chance 111 = .ok (.aload_n 0, 1) := by decide +kernel
theorem dX10_chance_112 : decode cX10_chance 112 = .ok (.bipush 32, 2) := by decide +kernel
theorem dX10_chance_114 : decode cX10_chance 114 = .ok (.invokevirtual 411, 3) := by decide +kernel
theorem dX10_chance_117 : decode cX10_chance 117 = .ok (.invokevirtual 351, 3) := by decide +kernel
theorem dX10_chance_120 : decode cX10_chance 120 = .ok (.pop, 1) := by decide +kernel
theorem dX10_chance_121 : decode cX10_chance 121 = .ok (.aload_n 0, 1) := by decide +kernel
theorem dX10_chance_122 : decode cX10_chance 122 = .ok (.sipush 300, 3) := by decide +kernel
theorem dX10_chance_125 : decode cX10_chance 125 = .ok (.invokevirtual 414, 3) := by decide +kernel
theorem dX10_chance_128 : decode cX10_chance 128 = .ok (.iload 4, 2) := by decide +kernel
theorem dX10_chance_130 : decode cX10_chance 130 = .ok (.iload_n 3, 1) := by decide +kernel
theorem dX10_chance_131 : decode cX10_chance 131 = .ok (.ifCond .ne 22, 3) := by decide +kernel
theorem dX10_chance_134 : decode cX10_chance 134 = .ok (.aload_n 0, 1) := by decide +kernel
theorem dX10_chance_135 : decode cX10_chance 135 = .ok (.getfield 57, 3) := by decide +kernel
theorem dX10_chance_138 : decode cX10_chance 138 = .ok (.sipush 221, 3) := by decide +kernel
theorem dX10_chance_141 : decode cX10_chance 141 = .ok (.iaload, 1) := by decide +kernel
theorem dX10_chance_142 : decode cX10_chance 142 = .ok (.ifCond .le 7, 3) := by decide +kernel
theorem dX10_chance_145 : decode cX10_chance 145 = .ok (.iconst 1, 1) := by decide +kernel
theorem dX10_chance_146 : decode cX10_chance 146 = .ok (.goto 31, 3) := by decide +kernel
theorem dX10_chance_149 : decode cX10_chance 149 = .ok (.iconst 0, 1) := by decide +kernel
theorem dX10_chance_150 : decode cX10_chance 150 = .ok (.goto 27, 3) := by decide +kernel
theorem dX10_chance_153 : decode cX10_chance 153 = .ok (.iload_n 3, 1) := by decide +kernel
theorem dX10_chance_154 : decode cX10_chance 154 = .ok (.iconst 1, 1) := by decide +kernel
theorem dX10_chance_155 : decode cX10_chance 155 = .ok (.if_icmp .ne 14, 3) := by decide +kernel
theorem dX10_chance_158 : decode cX10_chance 158 = .ok (.aload_n 0, 1) := by decide +kernel
theorem dX10_chance_159 : decode cX10_chance 159 = .ok (.getfield 57, 3) := by decide +kernel
theorem dX10_chance_162 : decode cX10_chance 162 = .ok (.sipush 226, 3) := by decide +kernel
theorem dX10_chance_165 : decode cX10_chance 165 = .ok (.iaload, 1) := by decide +kernel
theorem dX10_chance_166 : decode cX10_chance 166 = .ok (.goto 11, 3) := by decide +kernel
theorem dX10_chance_169 : decode cX10_chance 169 = .ok (.aload_n 0, 1) := by decide +kernel
theorem dX10_chance_170 : decode cX10_chance 170 = .ok (.getfield 57, 3) := by decide +kernel
theorem dX10_chance_173 : decode cX10_chance 173 = .ok (.sipush 221, 3) := by decide +kernel
theorem dX10_chance_176 : decode cX10_chance 176 = .ok (.iaload, 1) := by decide +kernel
theorem dX10_chance_177 : decode cX10_chance 177 = .ok (.iadd, 1) := by decide +kernel
theorem dX10_chance_178 : decode cX10_chance 178 = .ok (.istore 4, 2) := by decide +kernel
theorem dX10_chance_180 : decode cX10_chance 180 = .ok (.iinc 5 1, 3) := by decide +kernel
theorem dX10_chance_183 : decode cX10_chance 183 = .ok (.goto (-116), 3) := by decide +kernel
theorem dX10_chance_186 : decode cX10_chance 186 = .ok (.aload_n 0, 1) := by decide +kernel
theorem dX10_chance_187 : decode cX10_chance 187 = .ok (.getfield 63, 3) := by decide +kernel
theorem dX10_chance_190 : decode cX10_chance 190 = .ok (.aload_n 0, 1) := by decide +kernel
theorem dX10_chance_191 : decode cX10_chance 191 = .ok (.getfield 57, 3) := by decide +kernel
theorem dX10_chance_194 : decode cX10_chance 194 = .ok (.invokestatic 370, 3) := by decide +kernel
theorem dX10_chance_197 : decode cX10_chance 197 = .ok (.iload 4, 2) := by decide +kernel
theorem dX10_chance_199 : decode cX10_chance 199 = .ok (.ireturn, 1) := by decide +kernel
theorem dX10_keep_0 : decode cX10_keep 0 = .ok (.aload_n 0, 1) := by decide +kernel
theorem dX10_keep_1 : decode cX10_keep 1 = .ok (.iconst 0, 1) := by decide +kernel
theorem dX10_keep_2 : decode cX10_keep 2 = .ok (.putfield 90, 3) := by decide +kernel
theorem dX10_keep_5 : decode cX10_keep 5 = .ok (.aload_n 0, 1) := by decide +kernel
theorem dX10_keep_6 : decode cX10_keep 6 = .ok (.getfield 57, 3) := by decide +kernel
theorem dX10_keep_9 : decode cX10_keep 9 = .ok (.aload_n 0, 1) := by decide +kernel
theorem dX10_keep_10 : decode cX10_keep 10 = .ok (.getfield 66, 3) := by decide +kernel
theorem dX10_keep_13 : decode cX10_keep 13 = .ok (.invokestatic 370, 3) := by decide +kernel
theorem dX10_keep_16 : decode cX10_keep 16 = .ok (.aload_n 0, 1) := by decide +kernel
theorem dX10_keep_17 : decode cX10_keep 17 = .ok (.iconst 1, 1) := by decide +kernel
theorem dX10_keep_18 : decode cX10_keep 18 = .ok (.putfield 223, 3) := by decide +kernel
theorem dX10_keep_21 : decode cX10_keep 21 = .ok (.aload_n 0, 1) := by decide +kernel
theorem dX10_keep_22 : decode cX10_keep 22 = .ok (.getfield 57, 3) := by decide +kernel
theorem dX10_keep_25 : decode cX10_keep 25 = .ok (.sipush 219, 3) := by decide +kernel
theorem dX10_keep_28 : decode cX10_keep 28 = .ok (.iaload, 1) := by decide +kernel
theorem dX10_keep_29 : decode cX10_keep 29 = .ok (.ireturn, 1) := by decide +kernel
theorem dX10_back_0 : decode cX10_back 0 = .ok (.aload_n 0, 1) := by decide +kernel
theorem dX10_back_1 : decode cX10_back 1 = .ok (.iconst 0, 1) := by decide +kernel
theorem dX10_back_2 : decode cX10_back 2 = .ok (.putfield 90, 3) := by decide +kernel
theorem dX10_back_5 : decode cX10_back 5 = .ok (.aload_n 0, 1) := by decide +kernel
theorem dX10_back_6 : decode cX10_back 6 = .ok (.getfield 223, 3) := by decide +kernel
theorem dX10_back_9 : decode cX10_back 9 = .ok (.ifCond .ne 5, 3) := by decide +kernel
theorem dX10_back_12 : decode cX10_back 12 = .ok (.iconst (-1), 1) := by decide +kernel
theorem dX10_back_13 : decode cX10_back 13 = .ok (.ireturn, 1) := by decide +kernel
theorem dX10_back_14 : decode cX10_back 14 = .ok (.aload_n 0, 1) := by decide +kernel
theorem dX10_back_15 : decode cX10_back 15 = .ok (.getfield 66, 3) := by decide +kernel
theorem dX10_back_18 : decode cX10_back 18 = .ok (.aload_n 0, 1) := by decide +kernel
theorem dX10_back_19 : decode cX10_back 19 = .ok (.getfield 57, 3) := by decide +kernel
theorem dX10_back_22 : decode cX10_back 22 = .ok (.invokestatic 370, 3) := by decide +kernel
theorem dX10_back_25 : decode cX10_back 25 = .ok (.aload_n 0, 1) := by decide +kernel
theorem dX10_back_26 : decode cX10_back 26 = .ok (.getfield 57, 3) := by decide +kernel
theorem dX10_back_29 : decode cX10_back 29 = .ok (.sipush 219, 3) := by decide +kernel
theorem dX10_back_32 : decode cX10_back 32 = .ok (.iaload, 1) := by decide +kernel
theorem dX10_back_33 : decode cX10_back 33 = .ok (.ireturn, 1) := by decide +kernel
theorem dX10_count_0 : decode cX10_count 0 = .ok (.aload_n 0, 1) := by decide +kernel
theorem dX10_count_1 : decode cX10_count 1 = .ok (.iconst 0, 1) := by decide +kernel
theorem dX10_count_2 : decode cX10_count 2 = .ok (.putfield 90, 3) := by decide +kernel
theorem dX10_count_5 : decode cX10_count 5 = .ok (.iload_n 1, 1) := by decide +kernel
theorem dX10_count_6 : decode cX10_count 6 = .ok (.tableswitch 236 0 17 #[86, 94, 103, 112, 121, 130, 135, 144, 152, 160, 168, 177, 186, 195, 204, 213, 222, 231], 86) := by decide +kernel
theorem dX10_count_92 : decode cX10_count 92 = .ok (.aload_n 0, 1) := by decide +kernel
theorem dX10_count_93 : decode cX10_count 93 = .ok (.getfield 13, 3) := by decide +kernel
theorem dX10_count_96 : decode cX10_count 96 = .ok (.bipush 8, 2) := by decide +kernel
theorem dX10_count_98 : decode cX10_count 98 = .ok (.iaload, 1) := by decide +kernel
theorem dX10_count_99 : decode cX10_count 99 = .ok (.ireturn, 1) := by decide +kernel
theorem dX10_count_100 : decode cX10_count 100 = .ok (.aload_n 0, 1) := by decide +kernel
theorem dX10_count_101 : decode cX10_count 101 = .ok (.getfield 57, 3) := by decide +kernel
theorem dX10_count_104 : decode cX10_count 104 = .ok (.sipush 219, 3) := by decide +kernel
theorem dX10_count_107 : decode cX10_count 107 = .ok (.iaload, 1) := by decide +kernel
theorem dX10_count_108 : decode cX10_count 108 = .ok (.ireturn, 1) := by decide +kernel
theorem dX10_count_109 : decode cX10_count 109 = .ok (.aload_n 0, 1) := by decide +kernel
theorem dX10_count_110 : decode cX10_count 110 = .ok (.getfield 57, 3) := by decide +kernel
theorem dX10_count_113 : decode cX10_count 113 = .ok (.sipush 220, 3) := by decide +kernel
theorem dX10_count_116 : decode cX10_count 116 = .ok (.iaload, 1) := by decide +kernel
theorem dX10_count_117 : decode cX10_count 117 = .ok (.ireturn, 1) := by decide +kernel
theorem dX10_count_118 : decode cX10_count 118 = .ok (.aload_n 0, 1) := by decide +kernel
theorem dX10_count_119 : decode cX10_count 119 = .ok (.getfield 57, 3) := by decide +kernel
theorem dX10_count_122 : decode cX10_count 122 = .ok (.sipush 221, 3) := by decide +kernel
theorem dX10_count_125 : decode cX10_count 125 = .ok (.iaload, 1) := by decide +kernel
theorem dX10_count_126 : decode cX10_count 126 = .ok (.ireturn, 1) := by decide +kernel
theorem dX10_count_127 : decode cX10_count 127 = .ok (.aload_n 0, 1) := by decide +kernel
theorem dX10_count_128 : decode cX10_count 128 = .ok (.getfield 57, 3) := by decide +kernel
theorem dX10_count_131 : decode cX10_count 131 = .ok (.sipush 222, 3) := by decide +kernel
theorem dX10_count_134 : decode cX10_count 134 = .ok (.iaload, 1) := by decide +kernel
theorem dX10_count_135 : decode cX10_count 135 = .ok (.ireturn, 1) := by decide +kernel
theorem dX10_count_136 : decode cX10_count 136 = .ok (.aload_n 0, 1) := by decide +kernel
theorem dX10_count_137 : decode cX10_count 137 = .ok (.invokevirtual 265, 3) := by decide +kernel
theorem dX10_count_140 : decode cX10_count 140 = .ok (.ireturn, 1) := by decide +kernel
theorem dX10_count_141 : decode cX10_count 141 = .ok (.aload_n 0, 1) := by decide +kernel
theorem dX10_count_142 : decode cX10_count 142 = .ok (.getfield 57, 3) := by decide +kernel
theorem dX10_count_145 : decode cX10_count 145 = .ok (.sipush 223, 3) := by decide +kernel
theorem dX10_count_148 : decode cX10_count 148 = .ok (.iaload, 1) := by decide +kernel
theorem dX10_count_149 : decode cX10_count 149 = .ok (.ireturn, 1) := by decide +kernel
theorem dX10_count_150 : decode cX10_count 150 = .ok (.aload_n 0, 1) := by decide +kernel
theorem dX10_count_151 : decode cX10_count 151 = .ok (.getfield 57, 3) := by decide +kernel
theorem dX10_count_154 : decode cX10_count 154 = .ok (.bipush 86, 2) := by decide +kernel
theorem dX10_count_156 : decode cX10_count 156 = .ok (.iaload, 1) := by decide +kernel
theorem dX10_count_157 : decode cX10_count 157 = .ok (.ireturn, 1) := by decide +kernel
theorem dX10_count_158 : decode cX10_count 158 = .ok (.aload_n 0, 1) := by decide +kernel
theorem dX10_count_159 : decode cX10_count 159 = .ok (.getfield 57, 3) := by decide +kernel
theorem dX10_count_162 : decode cX10_count 162 = .ok (.bipush 103, 2) := by decide +kernel
theorem dX10_count_164 : decode cX10_count 164 = .ok (.iaload, 1) := by decide +kernel
theorem dX10_count_165 : decode cX10_count 165 = .ok (.ireturn, 1) := by decide +kernel
theorem dX10_count_166 : decode cX10_count 166 = .ok (.aload_n 0, 1) := by decide +kernel
theorem dX10_count_167 : decode cX10_count 167 = .ok (.getfield 57, 3) := by decide +kernel
theorem dX10_count_170 : decode cX10_count 170 = .ok (.bipush 112, 2) := by decide +kernel
theorem dX10_count_172 : decode cX10_count 172 = .ok (.iaload, 1) := by decide +kernel
theorem dX10_count_173 : decode cX10_count 173 = .ok (.ireturn, 1) := by decide +kernel
theorem dX10_count_174 : decode cX10_count 174 = .ok (.aload_n 0, 1) := by decide +kernel
theorem dX10_count_175 : decode cX10_count 175 = .ok (.getfield 57, 3) := by decide +kernel
theorem dX10_count_178 : decode cX10_count 178 = .ok (.sipush 224, 3) := by decide +kernel
theorem dX10_count_181 : decode cX10_count 181 = .ok (.iaload, 1) := by decide +kernel
theorem dX10_count_182 : decode cX10_count 182 = .ok (.ireturn, 1) := by decide +kernel
theorem dX10_count_183 : decode cX10_count 183 = .ok (.aload_n 0, 1) := by decide +kernel
theorem dX10_count_184 : decode cX10_count 184 = .ok (.getfield 57, 3) := by decide +kernel
theorem dX10_count_187 : decode cX10_count 187 = .ok (.sipush 225, 3) := by decide +kernel
theorem dX10_count_190 : decode cX10_count 190 = .ok (.iaload, 1) := by decide +kernel
theorem dX10_count_191 : decode cX10_count 191 = .ok (.ireturn, 1) := by decide +kernel
theorem dX10_count_192 : decode cX10_count 192 = .ok (.aload_n 0, 1) := by decide +kernel
theorem dX10_count_193 : decode cX10_count 193 = .ok (.getfield 57, 3) := by decide +kernel
theorem dX10_count_196 : decode cX10_count 196 = .ok (.sipush 226, 3) := by decide +kernel
theorem dX10_count_199 : decode cX10_count 199 = .ok (.iaload, 1) := by decide +kernel
theorem dX10_count_200 : decode cX10_count 200 = .ok (.ireturn, 1) := by decide +kernel
theorem dX10_count_201 : decode cX10_count 201 = .ok (.aload_n 0, 1) := by decide +kernel
theorem dX10_count_202 : decode cX10_count 202 = .ok (.getfield 57, 3) := by decide +kernel
theorem dX10_count_205 : decode cX10_count 205 = .ok (.sipush 227, 3) := by decide +kernel
theorem dX10_count_208 : decode cX10_count 208 = .ok (.iaload, 1) := by decide +kernel
theorem dX10_count_209 : decode cX10_count 209 = .ok (.ireturn, 1) := by decide +kernel
theorem dX10_count_210 : decode cX10_count 210 = .ok (.aload_n 0, 1) := by decide +kernel
theorem dX10_count_211 : decode cX10_count 211 = .ok (.getfield 57, 3) := by decide +kernel
theorem dX10_count_214 : decode cX10_count 214 = .ok (.sipush 265, 3) := by decide +kernel
theorem dX10_count_217 : decode cX10_count 217 = .ok (.iaload, 1) := by decide +kernel
theorem dX10_count_218 : decode cX10_count 218 = .ok (.ireturn, 1) := by decide +kernel
theorem dX10_count_219 : decode cX10_count 219 = .ok (.aload_n 0, 1) := by decide +kernel
theorem dX10_count_220 : decode cX10_count 220 = .ok (.getfield 57, 3) := by decide +kernel
theorem dX10_count_223 : decode cX10_count 223 = .ok (.sipush 228, 3) := by decide +kernel
theorem dX10_count_226 : decode cX10_count 226 = .ok (.iaload, 1) := by decide +kernel
theorem dX10_count_227 : decode cX10_count 227 = .ok (.ireturn, 1) := by decide +kernel
theorem dX10_count_228 : decode cX10_count 228 = .ok (.aload_n 0, 1) := by decide +kernel
theorem dX10_count_229 : decode cX10_count 229 = .ok (.getfield 57, 3) := by decide +kernel
theorem dX10_count_232 : decode cX10_count 232 = .ok (.sipush 229, 3) := by decide +kernel
theorem dX10_count_235 : decode cX10_count 235 = .ok (.iaload, 1) := by decide +kernel
theorem dX10_count_236 : decode cX10_count 236 = .ok (.ireturn, 1) := by decide +kernel
theorem dX10_count_237 : decode cX10_count 237 = .ok (.aload_n 0, 1) := by decide +kernel
theorem dX10_count_238 : decode cX10_count 238 = .ok (.invokevirtual 358, 3) := by decide +kernel
theorem dX10_count_241 : decode cX10_count 241 = .ok (.ireturn, 1) := by decide +kernel
theorem dX10_count_242 : decode cX10_count 242 = .ok (.iconst (-1), 1) := by decide +kernel
theorem dX10_count_243 : decode cX10_count 243 = .ok (.ireturn, 1) := by decide +kernel
