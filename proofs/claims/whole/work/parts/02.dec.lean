theorem dX0_init_0 : decode cX0_init 0 = .ok (.aload_n 0, 1) := by decide +kernel
theorem dX0_init_1 : decode cX0_init 1 = .ok (.invokespecial 1, 3) := by decide +kernel
theorem dX0_init_4 : decode cX0_init 4 = .ok (.aload_n 0, 1) := by decide +kernel
theorem dX0_init_5 : decode cX0_init 5 = .ok (.bipush 24, 2) := by decide +kernel
theorem dX0_init_7 : decode cX0_init 7 = .ok (.anewarray 9, 3) := by decide +kernel
theorem dX0_init_10 : decode cX0_init 10 = .ok (.putfield 11, 3) := by decide +kernel
theorem dX0_init_13 : decode cX0_init 13 = .ok (.iconst 0, 1) := by decide +kernel
theorem dX0_init_14 : decode cX0_init 14 = .ok (.istore_n 1, 1) := by decide +kernel
theorem dX0_init_15 : decode cX0_init 15 = .ok (.iload_n 1, 1) := by decide +kernel
theorem dX0_init_16 : decode cX0_init 16 = .ok (.bipush 24, 2) := by decide +kernel
theorem dX0_init_18 : decode cX0_init 18 = .ok (.if_icmp .ge 22, 3) := by decide +kernel
theorem dX0_init_21 : decode cX0_init 21 = .ok (.aload_n 0, 1) := by decide +kernel
theorem dX0_init_22 : decode cX0_init 22 = .ok (.getfield 11, 3) := by decide +kernel
theorem dX0_init_25 : decode cX0_init 25 = .ok (.iload_n 1, 1) := by decide +kernel
theorem dX0_init_26 : decode cX0_init 26 = .ok (.new 9, 3) := by decide +kernel
theorem dX0_init_29 : decode cX0_init 29 = .ok (.dup, 1) := by decide +kernel
theorem dX0_init_30 : decode cX0_init 30 = .ok (.invokespecial 15, 3) := by decide +kernel
theorem dX0_init_33 : decode cX0_init 33 = .ok (.aastore, 1) := by decide +kernel
theorem dX0_init_34 : decode cX0_init 34 = .ok (.iinc 1 1, 3) := by decide +kernel
theorem dX0_init_37 : decode cX0_init 37 = .ok (.goto (-22), 3) := by decide +kernel
theorem dX0_init_40 : decode cX0_init 40 = .ok (.return_, 1) := by decide +kernel
theorem dX0_keep_0 : decode cX0_keep 0 = .ok (.aload_n 0, 1) := by decide +kernel
theorem dX0_keep_1 : decode cX0_keep 1 = .ok (.getfield 11, 3) := by decide +kernel
theorem dX0_keep_4 : decode cX0_keep 4 = .ok (.aload_n 0, 1) := by decide +kernel
theorem dX0_keep_5 : decode cX0_keep 5 = .ok (.getfield 16, 3) := by decide +kernel
theorem dX0_keep_8 : decode cX0_keep 8 = .ok (.aaload, 1) := by decide +kernel
theorem dX0_keep_9 : decode cX0_keep 9 = .ok (.aload_n 1, 1) := by decide +kernel
theorem dX0_keep_10 : decode cX0_keep 10 = .ok (.invokevirtual 20, 3) := by decide +kernel
theorem dX0_keep_13 : decode cX0_keep 13 = .ok (.aload_n 0, 1) := by decide +kernel
theorem dX0_keep_14 : decode cX0_keep 14 = .ok (.aload_n 0, 1) := by decide +kernel
theorem dX0_keep_15 : decode cX0_keep 15 = .ok (.getfield 16, 3) := by decide +kernel
theorem dX0_keep_18 : decode cX0_keep 18 = .ok (.iconst 1, 1) := by decide +kernel
theorem dX0_keep_19 : decode cX0_keep 19 = .ok (.iadd, 1) := by decide +kernel
theorem dX0_keep_20 : decode cX0_keep 20 = .ok (.bipush 24, 2) := by decide +kernel
theorem dX0_keep_22 : decode cX0_keep 22 = .ok (.irem, 1) := by decide +kernel
theorem dX0_keep_23 : decode cX0_keep 23 = .ok (.putfield 16, 3) := by decide +kernel
theorem dX0_keep_26 : decode cX0_keep 26 = .ok (.aload_n 0, 1) := by decide +kernel
theorem dX0_keep_27 : decode cX0_keep 27 = .ok (.aload_n 0, 1) := by decide +kernel
theorem dX0_keep_28 : decode cX0_keep 28 = .ok (.getfield 24, 3) := by decide +kernel
theorem dX0_keep_31 : decode cX0_keep 31 = .ok (.iconst 1, 1) := by decide +kernel
theorem dX0_keep_32 : decode cX0_keep 32 = .ok (.iadd, 1) := by decide +kernel
theorem dX0_keep_33 : decode cX0_keep 33 = .ok (.bipush 24, 2) := by decide +kernel
theorem dX0_keep_35 : decode cX0_keep 35 = .ok (.invokestatic 27, 3) := by decide +kernel
theorem dX0_keep_38 : decode cX0_keep 38 = .ok (.putfield 24, 3) := by decide +kernel
theorem dX0_keep_41 : decode cX0_keep 41 = .ok (.return_, 1) := by decide +kernel
theorem dX0_takeBack_0 : decode cX0_takeBack 0 = .ok (.aload_n 0, 1) := by decide +kernel
theorem dX0_takeBack_1 : decode cX0_takeBack 1 = .ok (.getfield 24, 3) := by decide +kernel
theorem dX0_takeBack_4 : decode cX0_takeBack 4 = .ok (.ifCond .ne 5, 3) := by decide +kernel
theorem dX0_takeBack_7 : decode cX0_takeBack 7 = .ok (.iconst 0, 1) := by decide +kernel
theorem dX0_takeBack_8 : decode cX0_takeBack 8 = .ok (.ireturn, 1) := by decide +kernel
theorem dX0_takeBack_9 : decode cX0_takeBack 9 = .ok (.aload_n 0, 1) := by decide +kernel
theorem dX0_takeBack_10 : decode cX0_takeBack 10 = .ok (.aload_n 0, 1) := by decide +kernel
theorem dX0_takeBack_11 : decode cX0_takeBack 11 = .ok (.getfield 16, 3) := by decide +kernel
theorem dX0_takeBack_14 : decode cX0_takeBack 14 = .ok (.bipush 24, 2) := by decide +kernel
theorem dX0_takeBack_16 : decode cX0_takeBack 16 = .ok (.iadd, 1) := by decide +kernel
theorem dX0_takeBack_17 : decode cX0_takeBack 17 = .ok (.iconst 1, 1) := by decide +kernel
theorem dX0_takeBack_18 : decode cX0_takeBack 18 = .ok (.isub, 1) := by decide +kernel
theorem dX0_takeBack_19 : decode cX0_takeBack 19 = .ok (.bipush 24, 2) := by decide +kernel
theorem dX0_takeBack_21 : decode cX0_takeBack 21 = .ok (.irem, 1) := by decide +kernel
theorem dX0_takeBack_22 : decode cX0_takeBack 22 = .ok (.putfield 16, 3) := by decide +kernel
theorem dX0_takeBack_25 : decode cX0_takeBack 25 = .ok (.aload_n 0, 1) := by decide +kernel
theorem dX0_takeBack_26 : decode cX0_takeBack 26 = .ok (.dup, 1) := by decide +kernel
theorem dX0_takeBack_27 : decode cX0_takeBack 27 = .ok (.getfield 24, 3) := by decide +kernel
theorem dX0_takeBack_30 : decode cX0_takeBack 30 = .ok (.iconst 1, 1) := by decide +kernel
theorem dX0_takeBack_31 : decode cX0_takeBack 31 = .ok (.isub, 1) := by decide +kernel
theorem dX0_takeBack_32 : decode cX0_takeBack 32 = .ok (.putfield 24, 3) := by decide +kernel
theorem dX0_takeBack_35 : decode cX0_takeBack 35 = .ok (.aload_n 1, 1) := by decide +kernel
theorem dX0_takeBack_36 : decode cX0_takeBack 36 = .ok (.aload_n 0, 1) := by decide +kernel
theorem dX0_takeBack_37 : decode cX0_takeBack 37 = .ok (.getfield 11, 3) := by decide +kernel
theorem dX0_takeBack_40 : decode cX0_takeBack 40 = .ok (.aload_n 0, 1) := by decide +kernel
theorem dX0_takeBack_41 : decode cX0_takeBack 41 = .ok (.getfield 16, 3) := by decide +kernel
theorem dX0_takeBack_44 : decode cX0_takeBack 44 = .ok (.aaload, 1) := by decide +kernel
theorem dX0_takeBack_45 : decode cX0_takeBack 45 = .ok (.invokevirtual 20, 3) := by decide +kernel
theorem dX0_takeBack_48 : decode cX0_takeBack 48 = .ok (.iconst 1, 1) := by decide +kernel
theorem dX0_takeBack_49 : decode cX0_takeBack 49 = .ok (.ireturn, 1) := by decide +kernel
theorem dX0_forget_0 : decode cX0_forget 0 = .ok (.aload_n 0, 1) := by decide +kernel
theorem dX0_forget_1 : decode cX0_forget 1 = .ok (.iconst 0, 1) := by decide +kernel
theorem dX0_forget_2 : decode cX0_forget 2 = .ok (.putfield 24, 3) := by decide +kernel
theorem dX0_forget_5 : decode cX0_forget 5 = .ok (.return_, 1) := by decide +kernel
theorem dX1_init_0 : decode cX1_init 0 = .ok (.aload_n 0, 1) := by decide +kernel
theorem dX1_init_1 : decode cX1_init 1 = .ok (.invokespecial 1, 3) := by decide +kernel
theorem dX1_init_4 : decode cX1_init 4 = .ok (.aload_n 0, 1) := by decide +kernel
theorem dX1_init_5 : decode cX1_init 5 = .ok (.bipush 16, 2) := by decide +kernel
theorem dX1_init_7 : decode cX1_init 7 = .ok (.newarray .int, 2) := by decide +kernel
theorem dX1_init_9 : decode cX1_init 9 = .ok (.putfield 9, 3) := by decide +kernel
theorem dX1_init_12 : decode cX1_init 12 = .ok (.return_, 1) := by decide +kernel
theorem dX1_isOne_0 : decode cX1_isOne 0 = .ok (.getstatic 13, 3) := by decide +kernel
theorem dX1_isOne_3 : decode cX1_isOne 3 = .ok (.iload_n 0, 1) := by decide +kernel
theorem dX1_isOne_4 : decode cX1_isOne 4 = .ok (.iaload, 1) := by decide +kernel
theorem dX1_isOne_5 : decode cX1_isOne 5 = .ok (.iload_n 1, 1) := by decide +kernel
theorem dX1_isOne_6 : decode cX1_isOne 6 = .ok (.ishr, 1) := by decide +kernel
theorem dX1_isOne_7 : decode cX1_isOne 7 = .ok (.iconst 1, 1) := by decide +kernel
theorem dX1_isOne_8 : decode cX1_isOne 8 = .ok (.iand, 1) := by decide +kernel
theorem dX1_isOne_9 : decode cX1_isOne 9 = .ok (.iconst 1, 1) := by decide +kernel
theorem dX1_isOne_10 : decode cX1_isOne 10 = .ok (.if_icmp .ne 7, 3) := by decide +kernel
theorem dX1_isOne_13 : decode cX1_isOne 13 = .ok (.iconst 1, 1) := by decide +kernel
theorem dX1_isOne_14 : decode cX1_isOne 14 = .ok (.goto 4, 3) := by decide +kernel
theorem dX1_isOne_17 : decode cX1_isOne 17 = .ok (.iconst 0, 1) := by decide +kernel
theorem dX1_isOne_18 : decode cX1_isOne 18 = .ok (.ireturn, 1) := by decide +kernel
theorem dX1_answerOf_0 : decode cX1_answerOf 0 = .ok (.aload_n 0, 1) := by decide +kernel
theorem dX1_answerOf_1 : decode cX1_answerOf 1 = .ok (.iconst 0, 1) := by decide +kernel
theorem dX1_answerOf_2 : decode cX1_answerOf 2 = .ok (.putfield 16, 3) := by decide +kernel
theorem dX1_answerOf_5 : decode cX1_answerOf 5 = .ok (.aload_n 1, 1) := by decide +kernel
theorem dX1_answerOf_6 : decode cX1_answerOf 6 = .ok (.getfield 20, 3) := by decide +kernel
theorem dX1_answerOf_9 : decode cX1_answerOf 9 = .ok (.iload_n 2, 1) := by decide +kernel
theorem dX1_answerOf_10 : decode cX1_answerOf 10 = .ok (.iaload, 1) := by decide +kernel
theorem dX1_answerOf_11 : decode cX1_answerOf 11 = .ok (.istore 4, 2) := by decide +kernel
theorem dX1_answerOf_13 : decode cX1_answerOf 13 = .ok (.aload_n 0, 1) := by decide +kernel
theorem dX1_answerOf_14 : decode cX1_answerOf 14 = .ok (.aload_n 1, 1) := by decide +kernel
theorem dX1_answerOf_15 : decode cX1_answerOf 15 = .ok (.iload_n 2, 1) := by decide +kernel
theorem dX1_answerOf_16 : decode cX1_answerOf 16 = .ok (.iload_n 3, 1) := by decide +kernel
theorem dX1_answerOf_17 : decode cX1_answerOf 17 = .ok (.ifCond .ne 12, 3) := by decide +kernel
theorem dX1_answerOf_20 : decode cX1_answerOf 20 = .ok (.getstatic 25, 3) := by decide +kernel
theorem dX1_answerOf_23 : decode cX1_answerOf 23 = .ok (.iload 4, 2) := by decide +kernel
theorem dX1_answerOf_25 : decode cX1_answerOf 25 = .ok (.iaload, 1) := by decide +kernel
theorem dX1_answerOf_26 : decode cX1_answerOf 26 = .ok (.goto 9, 3) := by decide +kernel
theorem dX1_answerOf_29 : decode cX1_answerOf 29 = .ok (.getstatic 28, 3) := by decide +kernel
theorem dX1_answerOf_32 : decode cX1_answerOf 32 = .ok (.iload 4, 2) := by decide +kernel
theorem dX1_answerOf_34 : decode cX1_answerOf 34 = .ok (.iaload, 1) := by decide +kernel
theorem dX1_answerOf_35 : decode cX1_answerOf 35 = .ok (.iconst 0, 1) := by decide +kernel
theorem dX1_answerOf_36 : decode cX1_answerOf 36 = .ok (.invokevirtual 31, 3) := by decide +kernel
theorem dX1_answerOf_39 : decode cX1_answerOf 39 = .ok (.ireturn, 1) := by decide +kernel
theorem dX1_give_0 : decode cX1_give 0 = .ok (.iload 4, 2) := by decide +kernel
theorem dX1_give_2 : decode cX1_give 2 = .ok (.bipush 8, 2) := by decide +kernel
theorem dX1_give_4 : decode cX1_give 4 = .ok (.if_icmp .le 5, 3) := by decide +kernel
theorem dX1_give_7 : decode cX1_give 7 = .ok (.iconst 0, 1) := by decide +kernel
theorem dX1_give_8 : decode cX1_give 8 = .ok (.ireturn, 1) := by decide +kernel
theorem dX1_give_9 : decode cX1_give 9 = .ok (.aload_n 0, 1) := by decide +kernel
theorem dX1_give_10 : decode cX1_give 10 = .ok (.iload_n 3, 1) := by decide +kernel
theorem dX1_give_11 : decode cX1_give 11 = .ok (.invokevirtual 35, 3) := by decide +kernel
theorem dX1_give_14 : decode cX1_give 14 = .ok (.aload_n 1, 1) := by decide +kernel
theorem dX1_give_15 : decode cX1_give 15 = .ok (.getfield 20, 3) := by decide +kernel
theorem dX1_give_18 : decode cX1_give 18 = .ok (.iload_n 2, 1) := by decide +kernel
theorem dX1_give_19 : decode cX1_give 19 = .ok (.iaload, 1) := by decide +kernel
theorem dX1_give_20 : decode cX1_give 20 = .ok (.istore 5, 2) := by decide +kernel
theorem dX1_give_22 : decode cX1_give 22 = .ok (.iload_n 3, 1) := by decide +kernel
theorem dX1_give_23 : decode cX1_give 23 = .ok (.tableswitch 239 10 24 #[73, 80, 110, 124, 140, 239, 239, 239, 239, 239, 155, 157, 177, 194, 224], 73) := by decide +kernel
theorem dX1_give_96 : decode cX1_give 96 = .ok (.aload_n 1, 1) := by decide +kernel
theorem dX1_give_97 : decode cX1_give 97 = .ok (.getfield 39, 3) := by decide +kernel
theorem dX1_give_100 : decode cX1_give 100 = .ok (.iload_n 2, 1) := by decide +kernel
theorem dX1_give_101 : decode cX1_give 101 = .ok (.iaload, 1) := by decide +kernel
theorem dX1_give_102 : decode cX1_give 102 = .ok (.ireturn, 1) := by decide +kernel
theorem dX1_give_103 : decode cX1_give 103 = .ok (.aload_n 0, 1) := by decide +kernel
theorem dX1_give_104 : decode cX1_give 104 = .ok (.aload_n 1, 1) := by decide +kernel
theorem dX1_give_105 : decode cX1_give 105 = .ok (.iload_n 2, 1) := by decide +kernel
theorem dX1_give_106 : decode cX1_give 106 = .ok (.bipush 10, 2) := by decide +kernel
theorem dX1_give_108 : decode cX1_give 108 = .ok (.iload 4, 2) := by decide +kernel
theorem dX1_give_110 : decode cX1_give 110 = .ok (.iconst 1, 1) := by decide +kernel
theorem dX1_give_111 : decode cX1_give 111 = .ok (.iadd, 1) := by decide +kernel
theorem dX1_give_112 : decode cX1_give 112 = .ok (.invokevirtual 31, 3) := by decide +kernel
theorem dX1_give_115 : decode cX1_give 115 = .ok (.aload_n 0, 1) := by decide +kernel
theorem dX1_give_116 : decode cX1_give 116 = .ok (.aload_n 1, 1) := by decide +kernel
theorem dX1_give_117 : decode cX1_give 117 = .ok (.iload_n 2, 1) := by decide +kernel
theorem dX1_give_118 : decode cX1_give 118 = .ok (.getstatic 28, 3) := by decide +kernel
theorem dX1_give_121 : decode cX1_give 121 = .ok (.iload 5, 2) := by decide +kernel
theorem dX1_give_123 : decode cX1_give 123 = .ok (.iaload, 1) := by decide +kernel
theorem dX1_give_124 : decode cX1_give 124 = .ok (.iload 4, 2) := by decide +kernel
theorem dX1_give_126 : decode cX1_give 126 = .ok (.iconst 1, 1) := by decide +kernel
theorem dX1_give_127 : decode cX1_give 127 = .ok (.iadd, 1) := by decide +kernel
theorem dX1_give_128 : decode cX1_give 128 = .ok (.invokevirtual 31, 3) := by decide +kernel
theorem dX1_give_131 : decode cX1_give 131 = .ok (.iadd, 1) := by decide +kernel
theorem dX1_give_132 : decode cX1_give 132 = .ok (.ireturn, 1) := by decide +kernel
theorem dX1_give_133 : decode cX1_give 133 = .ok (.aload_n 0, 1) := by decide +kernel
theorem dX1_give_134 : decode cX1_give 134 = .ok (.aload_n 1, 1) := by decide +kernel
theorem dX1_give_135 : decode cX1_give 135 = .ok (.iload_n 2, 1) := by decide +kernel
theorem dX1_give_136 : decode cX1_give 136 = .ok (.bipush 11, 2) := by decide +kernel
theorem dX1_give_138 : decode cX1_give 138 = .ok (.iload 4, 2) := by decide +kernel
theorem dX1_give_140 : decode cX1_give 140 = .ok (.iconst 1, 1) := by decide +kernel
theorem dX1_give_141 : decode cX1_give 141 = .ok (.iadd, 1) := by decide +kernel
theorem dX1_give_142 : decode cX1_give 142 = .ok (.invokevirtual 31, 3) := by decide +kernel
theorem dX1_give_145 : decode cX1_give 145 = .ok (.ineg, 1) := by decide +kernel
theorem dX1_give_146 : decode cX1_give 146 = .ok (.ireturn, 1) := by decide +kernel
theorem dX1_give_147 : decode cX1_give 147 = .ok (.aload_n 0, 1) := by decide +kernel
theorem dX1_give_148 : decode cX1_give 148 = .ok (.aload_n 1, 1) := by decide +kernel
theorem dX1_give_149 : decode cX1_give 149 = .ok (.iload_n 2, 1) := by decide +kernel
theorem dX1_give_150 : decode cX1_give 150 = .ok (.bipush 10, 2) := by decide +kernel
theorem dX1_give_152 : decode cX1_give 152 = .ok (.iload 4, 2) := by decide +kernel
theorem dX1_give_154 : decode cX1_give 154 = .ok (.iconst 1, 1) := by decide +kernel
theorem dX1_give_155 : decode cX1_give 155 = .ok (.iadd, 1) := by decide +kernel
theorem dX1_give_156 : decode cX1_give 156 = .ok (.invokevirtual 31, 3) := by decide +kernel
theorem dX1_give_159 : decode cX1_give 159 = .ok (.bipush 100, 2) := by decide +kernel
theorem dX1_give_161 : decode cX1_give 161 = .ok (.isub, 1) := by decide +kernel
theorem dX1_give_162 : decode cX1_give 162 = .ok (.ireturn, 1) := by decide +kernel
theorem dX1_give_163 : decode cX1_give 163 = .ok (.iconst 2, 1) := by decide +kernel
theorem dX1_give_164 : decode cX1_give 164 = .ok (.aload_n 0, 1) := by decide +kernel
theorem dX1_give_165 : decode cX1_give 165 = .ok (.aload_n 1, 1) := by decide +kernel
theorem dX1_give_166 : decode cX1_give 166 = .ok (.iload_n 2, 1) := by decide +kernel
theorem dX1_give_167 : decode cX1_give 167 = .ok (.bipush 13, 2) := by decide +kernel
theorem dX1_give_169 : decode cX1_give 169 = .ok (.iload 4, 2) := by decide +kernel
theorem dX1_give_171 : decode cX1_give 171 = .ok (.iconst 1, 1) := by decide +kernel
theorem dX1_give_172 : decode cX1_give 172 = .ok (.iadd, 1) := by decide +kernel
theorem dX1_give_173 : decode cX1_give 173 = .ok (.invokevirtual 31, 3) := by decide +kernel
theorem dX1_give_176 : decode cX1_give 176 = .ok (.imul, 1) := by decide +kernel
theorem dX1_give_177 : decode cX1_give 177 = .ok (.ireturn, 1) := by decide +kernel
theorem dX1_give_178 : decode cX1_give 178 = .ok (.iload_n 2, 1) := by decide +kernel
theorem dX1_give_179 : decode cX1_give 179 = .ok (.ireturn, 1) := by decide +kernel
theorem dX1_give_180 : decode cX1_give 180 = .ok (.aload_n 0, 1) := by decide +kernel
theorem dX1_give_181 : decode cX1_give 181 = .ok (.aload_n 1, 1) := by decide +kernel
theorem dX1_give_182 : decode cX1_give 182 = .ok (.iload_n 2, 1) := by decide +kernel
theorem dX1_give_183 : decode cX1_give 183 = .ok (.bipush 20, 2) := by decide +kernel
theorem dX1_give_185 : decode cX1_give 185 = .ok (.iload 4, 2) := by decide +kernel
theorem dX1_give_187 : decode cX1_give 187 = .ok (.iconst 1, 1) := by decide +kernel
theorem dX1_give_188 : decode cX1_give 188 = .ok (.iadd, 1) := by decide +kernel
theorem dX1_give_189 : decode cX1_give 189 = .ok (.invokevirtual 31, 3) := by decide +kernel
theorem dX1_give_192 : decode cX1_give 192 = .ok (.aload_n 1, 1) := by decide +kernel
theorem dX1_give_193 : decode cX1_give 193 = .ok (.getfield 42, 3) := by decide +kernel
theorem dX1_give_196 : decode cX1_give 196 = .ok (.iload_n 2, 1) := by decide +kernel
theorem dX1_give_197 : decode cX1_give 197 = .ok (.iaload, 1) := by decide +kernel
theorem dX1_give_198 : decode cX1_give 198 = .ok (.iadd, 1) := by decide +kernel
theorem dX1_give_199 : decode cX1_give 199 = .ok (.ireturn, 1) := by decide +kernel
theorem dX1_give_200 : decode cX1_give 200 = .ok (.aload_n 0, 1) := by decide +kernel
theorem dX1_give_201 : decode cX1_give 201 = .ok (.aload_n 1, 1) := by decide +kernel
theorem dX1_give_202 : decode cX1_give 202 = .ok (.iload_n 2, 1) := by decide +kernel
theorem dX1_give_203 : decode cX1_give 203 = .ok (.bipush 21, 2) := by decide +kernel
theorem dX1_give_205 : decode cX1_give 205 = .ok (.iload 4, 2) := by decide +kernel
theorem dX1_give_207 : decode cX1_give 207 = .ok (.iconst 1, 1) := by decide +kernel
theorem dX1_give_208 : decode cX1_give 208 = .ok (.iadd, 1) := by decide +kernel
theorem dX1_give_209 : decode cX1_give 209 = .ok (.invokevirtual 31, 3) := by decide +kernel
theorem dX1_give_212 : decode cX1_give 212 = .ok (.sipush 1000, 3) := by decide +kernel
theorem dX1_give_215 : decode cX1_give 215 = .ok (.isub, 1) := by decide +kernel
theorem dX1_give_216 : decode cX1_give 216 = .ok (.ireturn, 1) := by decide +kernel
theorem dX1_give_217 : decode cX1_give 217 = .ok (.aload_n 0, 1) := by decide +kernel
theorem dX1_give_218 : decode cX1_give 218 = .ok (.aload_n 1, 1) := by decide +kernel
theorem dX1_give_219 : decode cX1_give 219 = .ok (.iload_n 2, 1) := by decide +kernel
theorem dX1_give_220 : decode cX1_give 220 = .ok (.bipush 20, 2) := by decide +kernel
theorem dX1_give_222 : decode cX1_give 222 = .ok (.iload 4, 2) := by decide +kernel
theorem dX1_give_224 : decode cX1_give 224 = .ok (.iconst 1, 1) := by decide +kernel
theorem dX1_give_225 : decode cX1_give 225 = .ok (.iadd, 1) := by decide +kernel
theorem dX1_give_226 : decode cX1_give 226 = .ok (.invokevirtual 31, 3) := by decide +kernel
theorem dX1_give_229 : decode cX1_give 229 = .ok (.aload_n 0, 1) := by decide +kernel
theorem dX1_give_230 : decode cX1_give 230 = .ok (.aload_n 1, 1) := by decide +kernel
theorem dX1_give_231 : decode cX1_give 231 = .ok (.iload_n 2, 1) := by decide +kernel
theorem dX1_give_232 : decode cX1_give 232 = .ok (.getstatic 25, 3) := by decide +kernel
theorem dX1_give_235 : decode cX1_give 235 = .ok (.iload 5, 2) := by decide +kernel
theorem dX1_give_237 : decode cX1_give 237 = .ok (.iaload, 1) := by decide +kernel
theorem dX1_give_238 : decode cX1_give 238 = .ok (.iload 4, 2) := by decide +kernel
theorem dX1_give_240 : decode cX1_give 240 = .ok (.iconst 1, 1) := by decide +kernel
theorem dX1_give_241 : decode cX1_give 241 = .ok (.iadd, 1) := by decide +kernel
theorem dX1_give_242 : decode cX1_give 242 = .ok (.invokevirtual 31, 3) := by decide +kernel
theorem dX1_give_245 : decode cX1_give 245 = .ok (.isub, 1) := by decide +kernel
theorem dX1_give_246 : decode cX1_give 246 = .ok (.ireturn, 1) := by decide +kernel
theorem dX1_give_247 : decode cX1_give 247 = .ok (.iconst 2, 1) := by decide +kernel
theorem dX1_give_248 : decode cX1_give 248 = .ok (.aload_n 0, 1) := by decide +kernel
theorem dX1_give_249 : decode cX1_give 249 = .ok (.aload_n 1, 1) := by decide +kernel
theorem dX1_give_250 : decode cX1_give 250 = .ok (.iload_n 2, 1) := by decide +kernel
theorem dX1_give_251 : decode cX1_give 251 = .ok (.bipush 21, 2) := by decide +kernel
theorem dX1_give_253 : decode cX1_give 253 = .ok (.iload 4, 2) := by decide +kernel
theorem dX1_give_255 : decode cX1_give 255 = .ok (.iconst 1, 1) := by decide +kernel
theorem dX1_give_256 : decode cX1_give 256 = .ok (.iadd, 1) := by decide +kernel
theorem dX1_give_257 : decode cX1_give 257 = .ok (.invokevirtual 31, 3) := by decide +kernel
theorem dX1_give_260 : decode cX1_give 260 = .ok (.imul, 1) := by decide +kernel
theorem dX1_give_261 : decode cX1_give 261 = .ok (.ireturn, 1) := by decide +kernel
theorem dX1_give_262 : decode cX1_give 262 = .ok (.iconst 0, 1) := by decide +kernel
theorem dX1_give_263 : decode cX1_give 263 = .ok (.ireturn, 1) := by decide +kernel
theorem dX1_leaveTrace_0 : decode cX1_leaveTrace 0 = .ok (.aload_n 0, 1) := by decide +kernel
theorem dX1_leaveTrace_1 : decode cX1_leaveTrace 1 = .ok (.getfield 16, 3) := by decide +kernel
theorem dX1_leaveTrace_4 : decode cX1_leaveTrace 4 = .ok (.bipush 16, 2) := by decide +kernel
theorem dX1_leaveTrace_6 : decode cX1_leaveTrace 6 = .ok (.if_icmp .ge 23, 3) := by decide +kernel
theorem dX1_leaveTrace_9 : decode cX1_leaveTrace 9 = .ok (.aload_n 0, 1) := by decide +kernel
theorem dX1_leaveTrace_10 : decode cX1_leaveTrace 10 = .ok (.getfield 9, 3) := by decide +kernel
theorem dX1_leaveTrace_13 : decode cX1_leaveTrace 13 = .ok (.aload_n 0, 1) := by decide +kernel
theorem dX1_leaveTrace_14 : decode cX1_leaveTrace 14 = .ok (.getfield 16, 3) := by decide +kernel
theorem dX1_leaveTrace_17 : decode cX1_leaveTrace 17 = .ok (.iload_n 1, 1) := by decide +kernel
theorem dX1_leaveTrace_18 : decode cX1_leaveTrace 18 = .ok (.iastore, 1) := by decide +kernel
theorem dX1_leaveTrace_19 : decode cX1_leaveTrace 19 = .ok (.aload_n 0, 1) := by decide +kernel
theorem dX1_leaveTrace_20 : decode cX1_leaveTrace 20 = .ok (.dup, 1) := by decide +kernel
theorem dX1_leaveTrace_21 : decode cX1_leaveTrace 21 = .ok (.getfield 16, 3) := by decide +kernel
theorem dX1_leaveTrace_24 : decode cX1_leaveTrace 24 = .ok (.iconst 1, 1) := by decide +kernel
theorem dX1_leaveTrace_25 : decode cX1_leaveTrace 25 = .ok (.iadd, 1) := by decide +kernel
theorem dX1_leaveTrace_26 : decode cX1_leaveTrace 26 = .ok (.putfield 16, 3) := by decide +kernel
theorem dX1_leaveTrace_29 : decode cX1_leaveTrace 29 = .ok (.return_, 1) := by decide +kernel
theorem dX2_init_0 : decode cX2_init 0 = .ok (.aload_n 0, 1) := by decide +kernel
theorem dX2_init_1 : decode cX2_init 1 = .ok (.invokespecial 5, 3) := by decide +kernel
theorem dX2_init_4 : decode cX2_init 4 = .ok (.aload_n 0, 1) := by decide +kernel
theorem dX2_init_5 : decode cX2_init 5 = .ok (.new 11, 3) := by decide +kernel
theorem dX2_init_8 : decode cX2_init 8 = .ok (.dup, 1) := by decide +kernel
theorem dX2_init_9 : decode cX2_init 9 = .ok (.invokespecial 13, 3) := by decide +kernel
theorem dX2_init_12 : decode cX2_init 12 = .ok (.putfield 14, 3) := by decide +kernel
theorem dX2_init_15 : decode cX2_init 15 = .ok (.aload_n 0, 1) := by decide +kernel
theorem dX2_init_16 : decode cX2_init 16 = .ok (.sipush 128, 3) := by decide +kernel
theorem dX2_init_19 : decode cX2_init 19 = .ok (.newarray .int, 2) := by decide +kernel
theorem dX2_init_21 : decode cX2_init 21 = .ok (.putfield 18, 3) := by decide +kernel
theorem dX2_init_24 : decode cX2_init 24 = .ok (.aload_n 0, 1) := by decide +kernel
theorem dX2_init_25 : decode cX2_init 25 = .ok (.bipush 8, 2) := by decide +kernel
theorem dX2_init_27 : decode cX2_init 27 = .ok (.newarray .int, 2) := by decide +kernel
theorem dX2_init_29 : decode cX2_init 29 = .ok (.putfield 22, 3) := by decide +kernel
theorem dX2_init_32 : decode cX2_init 32 = .ok (.aload_n 0, 1) := by decide +kernel
theorem dX2_init_33 : decode cX2_init 33 = .ok (.bipush 21, 2) := by decide +kernel
theorem dX2_init_35 : decode cX2_init 35 = .ok (.newarray .int, 2) := by decide +kernel
theorem dX2_init_37 : decode cX2_init 37 = .ok (.putfield 25, 3) := by decide +kernel
theorem dX2_init_40 : decode cX2_init 40 = .ok (.aload_n 0, 1) := by decide +kernel
theorem dX2_init_41 : decode cX2_init 41 = .ok (.bipush 21, 2) := by decide +kernel
theorem dX2_init_43 : decode cX2_init 43 = .ok (.newarray .int, 2) := by decide +kernel
theorem dX2_init_45 : decode cX2_init 45 = .ok (.putfield 28, 3) := by decide +kernel
theorem dX2_init_48 : decode cX2_init 48 = .ok (.aload_n 0, 1) := by decide +kernel
theorem dX2_init_49 : decode cX2_init 49 = .ok (.bipush 12, 2) := by decide +kernel
theorem dX2_init_51 : decode cX2_init 51 = .ok (.newarray .int, 2) := by decide +kernel
theorem dX2_init_53 : decode cX2_init 53 = .ok (.putfield 31, 3) := by decide +kernel
theorem dX2_init_56 : decode cX2_init 56 = .ok (.return_, 1) := by decide +kernel
theorem dX2_townIn_0 : decode cX2_townIn 0 = .ok (.aload_n 0, 1) := by decide +kernel
theorem dX2_townIn_1 : decode cX2_townIn 1 = .ok (.getfield 14, 3) := by decide +kernel
theorem dX2_townIn_4 : decode cX2_townIn 4 = .ok (.aload_n 1, 1) := by decide +kernel
theorem dX2_townIn_5 : decode cX2_townIn 5 = .ok (.invokevirtual 34, 3) := by decide +kernel
theorem dX2_townIn_8 : decode cX2_townIn 8 = .ok (.aload_n 0, 1) := by decide +kernel
theorem dX2_townIn_9 : decode cX2_townIn 9 = .ok (.getfield 14, 3) := by decide +kernel
theorem dX2_townIn_12 : decode cX2_townIn 12 = .ok (.iload_n 2, 1) := by decide +kernel
theorem dX2_townIn_13 : decode cX2_townIn 13 = .ok (.invokevirtual 38, 3) := by decide +kernel
theorem dX2_townIn_16 : decode cX2_townIn 16 = .ok (.aload_n 0, 1) := by decide +kernel
theorem dX2_townIn_17 : decode cX2_townIn 17 = .ok (.getfield 14, 3) := by decide +kernel
theorem dX2_townIn_20 : decode cX2_townIn 20 = .ok (.areturn, 1) := by decide +kernel
theorem dX2_hoursUntilAwake_0 : decode cX2_hoursUntilAwake 0 = .ok (.aload_n 0, 1) := by decide +kernel
theorem dX2_hoursUntilAwake_1 : decode cX2_hoursUntilAwake 1 = .ok (.getfield 14, 3) := by decide +kernel
theorem dX2_hoursUntilAwake_4 : decode cX2_hoursUntilAwake 4 = .ok (.aload_n 1, 1) := by decide +kernel
theorem dX2_hoursUntilAwake_5 : decode cX2_hoursUntilAwake 5 = .ok (.invokevirtual 34, 3) := by decide +kernel
theorem dX2_hoursUntilAwake_8 : decode cX2_hoursUntilAwake 8 = .ok (.iconst 0, 1) := by decide +kernel
theorem dX2_hoursUntilAwake_9 : decode cX2_hoursUntilAwake 9 = .ok (.istore_n 3, 1) := by decide +kernel
theorem dX2_hoursUntilAwake_10 : decode cX2_hoursUntilAwake 10 = .ok (.iload_n 3, 1) := by decide +kernel
theorem dX2_hoursUntilAwake_11 : decode cX2_hoursUntilAwake 11 = .ok (.bipush 60, 2) := by decide +kernel
theorem dX2_hoursUntilAwake_13 : decode cX2_hoursUntilAwake 13 = .ok (.if_icmp .gt 31, 3) := by decide +kernel
theorem dX2_hoursUntilAwake_16 : decode cX2_hoursUntilAwake 16 = .ok (.aload_n 0, 1) := by decide +kernel
theorem dX2_hoursUntilAwake_17 : decode cX2_hoursUntilAwake 17 = .ok (.getfield 14, 3) := by decide +kernel
theorem dX2_hoursUntilAwake_20 : decode cX2_hoursUntilAwake 20 = .ok (.invokevirtual 42, 3) := by decide +kernel
theorem dX2_hoursUntilAwake_23 : decode cX2_hoursUntilAwake 23 = .ok (.iload_n 2, 1) := by decide +kernel
theorem dX2_hoursUntilAwake_24 : decode cX2_hoursUntilAwake 24 = .ok (.iand, 1) := by decide +kernel
theorem dX2_hoursUntilAwake_25 : decode cX2_hoursUntilAwake 25 = .ok (.iload_n 2, 1) := by decide +kernel
theorem dX2_hoursUntilAwake_26 : decode cX2_hoursUntilAwake 26 = .ok (.if_icmp .ne 5, 3) := by decide +kernel
theorem dX2_hoursUntilAwake_29 : decode cX2_hoursUntilAwake 29 = .ok (.iload_n 3, 1) := by decide +kernel
theorem dX2_hoursUntilAwake_30 : decode cX2_hoursUntilAwake 30 = .ok (.ireturn, 1) := by decide +kernel
theorem dX2_hoursUntilAwake_31 : decode cX2_hoursUntilAwake 31 = .ok (.aload_n 0, 1) := by decide +kernel
theorem dX2_hoursUntilAwake_32 : decode cX2_hoursUntilAwake 32 = .ok (.getfield 14, 3) := by decide +kernel
theorem dX2_hoursUntilAwake_35 : decode cX2_hoursUntilAwake 35 = .ok (.invokevirtual 46, 3) := by decide +kernel
theorem dX2_hoursUntilAwake_38 : decode cX2_hoursUntilAwake 38 = .ok (.iinc 3 1, 3) := by decide +kernel
theorem dX2_hoursUntilAwake_41 : decode cX2_hoursUntilAwake 41 = .ok (.goto (-31), 3) := by decide +kernel
theorem dX2_hoursUntilAwake_44 : decode cX2_hoursUntilAwake 44 = .ok (.ldc 49, 2) := by decide +kernel
theorem dX2_hoursUntilAwake_46 : decode cX2_hoursUntilAwake 46 = .ok (.ireturn, 1) := by decide +kernel
theorem dX2_findTune_0 : decode cX2_findTune 0 = .ok (.aload_n 0, 1) := by decide +kernel
theorem dX2_findTune_1 : decode cX2_findTune 1 = .ok (.aload_n 1, 1) := by decide +kernel
theorem dX2_findTune_2 : decode cX2_findTune 2 = .ok (.iload_n 2, 1) := by decide +kernel
theorem dX2_findTune_3 : decode cX2_findTune 3 = .ok (.iload_n 3, 1) := by decide +kernel
theorem dX2_findTune_4 : decode cX2_findTune 4 = .ok (.invokevirtual 50, 3) := by decide +kernel
theorem dX2_findTune_7 : decode cX2_findTune 7 = .ok (.aload_n 0, 1) := by decide +kernel
theorem dX2_findTune_8 : decode cX2_findTune 8 = .ok (.aload_n 1, 1) := by decide +kernel
theorem dX2_findTune_9 : decode cX2_findTune 9 = .ok (.invokevirtual 54, 3) := by decide +kernel
theorem dX2_findTune_12 : decode cX2_findTune 12 = .ok (.iconst 1, 1) := by decide +kernel
theorem dX2_findTune_13 : decode cX2_findTune 13 = .ok (.istore 4, 2) := by decide +kernel
theorem dX2_findTune_15 : decode cX2_findTune 15 = .ok (.iconst 0, 1) := by decide +kernel
theorem dX2_findTune_16 : decode cX2_findTune 16 = .ok (.istore 5, 2) := by decide +kernel
theorem dX2_findTune_18 : decode cX2_findTune 18 = .ok (.iload 5, 2) := by decide +kernel
theorem dX2_findTune_20 : decode cX2_findTune 20 = .ok (.iload_n 2, 1) := by decide +kernel
theorem dX2_findTune_21 : decode cX2_findTune 21 = .ok (.if_icmp .ge 18, 3) := by decide +kernel
theorem dX2_findTune_24 : decode cX2_findTune 24 = .ok (.iload 4, 2) := by decide +kernel
theorem dX2_findTune_26 : decode cX2_findTune 26 = .ok (.aload_n 1, 1) := by decide +kernel
theorem dX2_findTune_27 : decode cX2_findTune 27 = .ok (.getfield 57, 3) := by decide +kernel
theorem dX2_findTune_30 : decode cX2_findTune 30 = .ok (.imul, 1) := by decide +kernel
theorem dX2_findTune_31 : decode cX2_findTune 31 = .ok (.istore 4, 2) := by decide +kernel
theorem dX2_findTune_33 : decode cX2_findTune 33 = .ok (.iinc 5 1, 3) := by decide +kernel
theorem dX2_findTune_36 : decode cX2_findTune 36 = .ok (.goto (-18), 3) := by decide +kernel
theorem dX2_findTune_39 : decode cX2_findTune 39 = .ok (.aload_n 0, 1) := by decide +kernel
theorem dX2_findTune_40 : decode cX2_findTune 40 = .ok (.iconst 0, 1) := by decide +kernel
theorem dX2_findTune_41 : decode cX2_findTune 41 = .ok (.putfield 61, 3) := by decide +kernel
theorem dX2_findTune_44 : decode cX2_findTune 44 = .ok (.aload_n 0, 1) := by decide +kernel
theorem dX2_findTune_45 : decode cX2_findTune 45 = .ok (.iconst 0, 1) := by decide +kernel
theorem dX2_findTune_46 : decode cX2_findTune 46 = .ok (.aload_n 1, 1) := by decide +kernel
theorem dX2_findTune_47 : decode cX2_findTune 47 = .ok (.getfield 57, 3) := by decide +kernel
theorem dX2_findTune_50 : decode cX2_findTune 50 = .ok (.iload_n 2, 1) := by decide +kernel
theorem dX2_findTune_51 : decode cX2_findTune 51 = .ok (.invokevirtual 64, 3) := by decide +kernel
theorem dX2_findTune_54 : decode cX2_findTune 54 = .ok (.istore 5, 2) := by decide +kernel
theorem dX2_findTune_56 : decode cX2_findTune 56 = .ok (.iconst 1, 1) := by decide +kernel
theorem dX2_findTune_57 : decode cX2_findTune 57 = .ok (.istore 6, 2) := by decide +kernel
theorem dX2_findTune_59 : decode cX2_findTune 59 = .ok (.iload 6, 2) := by decide +kernel
theorem dX2_findTune_61 : decode cX2_findTune 61 = .ok (.iload 4, 2) := by decide +kernel
theorem dX2_findTune_63 : decode cX2_findTune 63 = .ok (.if_icmp .ge 39, 3) := by decide +kernel
theorem dX2_findTune_66 : decode cX2_findTune 66 = .ok (.aload_n 0, 1) := by decide +kernel
theorem dX2_findTune_67 : decode cX2_findTune 67 = .ok (.iload 6, 2) := by decide +kernel
theorem dX2_findTune_69 : decode cX2_findTune 69 = .ok (.aload_n 1, 1) := by decide +kernel
theorem dX2_findTune_70 : decode cX2_findTune 70 = .ok (.getfield 57, 3) := by decide +kernel
theorem dX2_findTune_73 : decode cX2_findTune 73 = .ok (.iload_n 2, 1) := by decide +kernel
theorem dX2_findTune_74 : decode cX2_findTune 74 = .ok (.invokevirtual 64, 3) := by decide +kernel
theorem dX2_findTune_77 : decode cX2_findTune 77 = .ok (.istore 7, 2) := by decide +kernel
theorem dX2_findTune_79 : decode cX2_findTune 79 = .ok (.iload 7, 2) := by decide +kernel
theorem dX2_findTune_81 : decode cX2_findTune 81 = .ok (.iload 5, 2) := by decide +kernel
theorem dX2_findTune_83 : decode cX2_findTune 83 = .ok (.if_icmp .ge 13, 3) := by decide +kernel
theorem dX2_findTune_86 : decode cX2_findTune 86 = .ok (.iload 7, 2) := by decide +kernel
theorem dX2_findTune_88 : decode cX2_findTune 88 = .ok (.istore 5, 2) := by decide +kernel
theorem dX2_findTune_90 : decode cX2_findTune 90 = .ok (.aload_n 0, 1) := by decide +kernel
theorem dX2_findTune_91 : decode cX2_findTune 91 = .ok (.iload 6, 2) := by decide +kernel
theorem dX2_findTune_93 : decode cX2_findTune 93 = .ok (.putfield 61, 3) := by decide +kernel
theorem dX2_findTune_96 : decode cX2_findTune 96 = .ok (.iinc 6 1, 3) := by decide +kernel
theorem dX2_findTune_99 : decode cX2_findTune 99 = .ok (.goto (-40), 3) := by decide +kernel
theorem dX2_findTune_102 : decode cX2_findTune 102 = .ok (.aload_n 0, 1) := by decide +kernel
theorem dX2_findTune_103 : decode cX2_findTune 103 = .ok (.iload 5, 2) := by decide +kernel
theorem dX2_findTune_105 : decode cX2_findTune 105 = .ok (.bipush 16, 2) := by decide +kernel
theorem dX2_findTune_107 : decode cX2_findTune 107 = .ok (.idiv, 1) := by decide +kernel
theorem dX2_findTune_108 : decode cX2_findTune 108 = .ok (.putfield 68, 3) := by decide +kernel
theorem dX2_findTune_111 : decode cX2_findTune 111 = .ok (.return_, 1) := by decide +kernel
theorem dX2_tunedBeat_0 : decode cX2_tunedBeat 0 = .ok (.aload_n 0, 1) := by decide +kernel
theorem dX2_tunedBeat_1 : decode cX2_tunedBeat 1 = .ok (.getfield 61, 3) := by decide +kernel
theorem dX2_tunedBeat_4 : decode cX2_tunedBeat 4 = .ok (.istore 4, 2) := by decide +kernel
theorem dX2_tunedBeat_6 : decode cX2_tunedBeat 6 = .ok (.iload_n 2, 1) := by decide +kernel
theorem dX2_tunedBeat_7 : decode cX2_tunedBeat 7 = .ok (.iconst 1, 1) := by decide +kernel
theorem dX2_tunedBeat_8 : decode cX2_tunedBeat 8 = .ok (.isub, 1) := by decide +kernel
theorem dX2_tunedBeat_9 : decode cX2_tunedBeat 9 = .ok (.istore 5, 2) := by decide +kernel
theorem dX2_tunedBeat_11 : decode cX2_tunedBeat 11 = .ok (.iload 5, 2) := by decide +kernel
theorem dX2_tunedBeat_13 : decode cX2_tunedBeat 13 = .ok (.iload_n 3, 1) := by decide +kernel
theorem dX2_tunedBeat_14 : decode cX2_tunedBeat 14 = .ok (.if_icmp .le 19, 3) := by decide +kernel
theorem dX2_tunedBeat_17 : decode cX2_tunedBeat 17 = .ok (.iload 4, 2) := by decide +kernel
theorem dX2_tunedBeat_19 : decode cX2_tunedBeat 19 = .ok (.iload_n 1, 1) := by decide +kernel
theorem dX2_tunedBeat_20 : decode cX2_tunedBeat 20 = .ok (.iconst 1, 1) := by decide +kernel
theorem dX2_tunedBeat_21 : decode cX2_tunedBeat 21 = .ok (.invokestatic 71, 3) := by decide +kernel
theorem dX2_tunedBeat_24 : decode cX2_tunedBeat 24 = .ok (.idiv, 1) := by decide +kernel
theorem dX2_tunedBeat_25 : decode cX2_tunedBeat 25 = .ok (.istore 4, 2) := by decide +kernel
theorem dX2_tunedBeat_27 : decode cX2_tunedBeat 27 = .ok (.iinc 5 (-1), 3) := by decide +kernel
theorem dX2_tunedBeat_30 : decode cX2_tunedBeat 30 = .ok (.goto (-19), 3) := by decide +kernel
theorem dX2_tunedBeat_33 : decode cX2_tunedBeat 33 = .ok (.iload 4, 2) := by decide +kernel
theorem dX2_tunedBeat_35 : decode cX2_tunedBeat 35 = .ok (.iload_n 1, 1) := by decide +kernel
theorem dX2_tunedBeat_36 : decode cX2_tunedBeat 36 = .ok (.iconst 1, 1) := by decide +kernel
theorem dX2_tunedBeat_37 : decode cX2_tunedBeat 37 = .ok (.invokestatic 71, 3) := by decide +kernel
theorem dX2_tunedBeat_40 : decode cX2_tunedBeat 40 = .ok (.irem, 1) := by decide +kernel
theorem dX2_tunedBeat_41 : decode cX2_tunedBeat 41 = .ok (.ireturn, 1) := by decide +kernel
theorem dX2_weighPatterns_0 : decode cX2_weighPatterns 0 = .ok (.iconst 0, 1) := by decide +kernel
theorem dX2_weighPatterns_1 : decode cX2_weighPatterns 1 = .ok (.istore 4, 2) := by decide +kernel
theorem dX2_weighPatterns_3 : decode cX2_weighPatterns 3 = .ok (.iload 4, 2) := by decide +kernel
theorem dX2_weighPatterns_5 : decode cX2_weighPatterns 5 = .ok (.aload_n 1, 1) := by decide +kernel
theorem dX2_weighPatterns_6 : decode cX2_weighPatterns 6 = .ok (.getfield 57, 3) := by decide +kernel
theorem dX2_weighPatterns_9 : decode cX2_weighPatterns 9 = .ok (.if_icmp .ge 49, 3) := by decide +kernel
theorem dX2_weighPatterns_12 : decode cX2_weighPatterns 12 = .ok (.iconst 0, 1) := by decide +kernel
theorem dX2_weighPatterns_13 : decode cX2_weighPatterns 13 = .ok (.istore 5, 2) := by decide +kernel
theorem dX2_weighPatterns_15 : decode cX2_weighPatterns 15 = .ok (.iload 5, 2) := by decide +kernel
theorem dX2_weighPatterns_17 : decode cX2_weighPatterns 17 = .ok (.iconst 1, 1) := by decide +kernel
theorem dX2_weighPatterns_18 : decode cX2_weighPatterns 18 = .ok (.iload_n 2, 1) := by decide +kernel
theorem dX2_weighPatterns_19 : decode cX2_weighPatterns 19 = .ok (.ishl, 1) := by decide +kernel
theorem dX2_weighPatterns_20 : decode cX2_weighPatterns 20 = .ok (.if_icmp .ge 32, 3) := by decide +kernel
theorem dX2_weighPatterns_23 : decode cX2_weighPatterns 23 = .ok (.aload_n 0, 1) := by decide +kernel
theorem dX2_weighPatterns_24 : decode cX2_weighPatterns 24 = .ok (.getfield 18, 3) := by decide +kernel
theorem dX2_weighPatterns_27 : decode cX2_weighPatterns 27 = .ok (.iload 4, 2) := by decide +kernel
theorem dX2_weighPatterns_29 : decode cX2_weighPatterns 29 = .ok (.bipush 16, 2) := by decide +kernel
theorem dX2_weighPatterns_31 : decode cX2_weighPatterns 31 = .ok (.imul, 1) := by decide +kernel
theorem dX2_weighPatterns_32 : decode cX2_weighPatterns 32 = .ok (.iload 5, 2) := by decide +kernel
theorem dX2_weighPatterns_34 : decode cX2_weighPatterns 34 = .ok (.iadd, 1) := by decide +kernel
theorem dX2_weighPatterns_35 : decode cX2_weighPatterns 35 = .ok (.aload_n 1, 1) := by decide +kernel
theorem dX2_weighPatterns_36 : decode cX2_weighPatterns 36 = .ok (.iload 4, 2) := by decide +kernel
theorem dX2_weighPatterns_38 : decode cX2_weighPatterns 38 = .ok (.iload 5, 2) := by decide +kernel
theorem dX2_weighPatterns_40 : decode cX2_weighPatterns 40 = .ok (.iload_n 2, 1) := by decide +kernel
theorem dX2_weighPatterns_41 : decode cX2_weighPatterns 41 = .ok (.iload_n 3, 1) := by decide +kernel
theorem dX2_weighPatterns_42 : decode cX2_weighPatterns 42 = .ok (.invokestatic 77, 3) := by decide +kernel
theorem dX2_weighPatterns_45 : decode cX2_weighPatterns 45 = .ok (.iastore, 1) := by decide +kernel
theorem dX2_weighPatterns_46 : decode cX2_weighPatterns 46 = .ok (.iinc 5 1, 3) := by decide +kernel
theorem dX2_weighPatterns_49 : decode cX2_weighPatterns 49 = .ok (.goto (-34), 3) := by decide +kernel
theorem dX2_weighPatterns_52 : decode cX2_weighPatterns 52 = .ok (.iinc 4 1, 3) := by decide +kernel
theorem dX2_weighPatterns_55 : decode cX2_weighPatterns 55 = .ok (.goto (-52), 3) := by decide +kernel
theorem dX2_weighPatterns_58 : decode cX2_weighPatterns 58 = .ok (.return_, 1) := by decide +kernel
theorem dX2_burdenOn_0 : decode cX2_burdenOn 0 = .ok (.iload_n 3, 1) := by decide +kernel
theorem dX2_burdenOn_1 : decode cX2_burdenOn 1 = .ok (.iconst 1, 1) := by decide +kernel
theorem dX2_burdenOn_2 : decode cX2_burdenOn 2 = .ok (.invokestatic 71, 3) := by decide +kernel
theorem dX2_burdenOn_5 : decode cX2_burdenOn 5 = .ok (.istore 5, 2) := by decide +kernel
theorem dX2_burdenOn_7 : decode cX2_burdenOn 7 = .ok (.aload_n 0, 1) := by decide +kernel
theorem dX2_burdenOn_8 : decode cX2_burdenOn 8 = .ok (.getfield 81, 3) := by decide +kernel
theorem dX2_burdenOn_11 : decode cX2_burdenOn 11 = .ok (.iload_n 1, 1) := by decide +kernel
theorem dX2_burdenOn_12 : decode cX2_burdenOn 12 = .ok (.iaload, 1) := by decide +kernel
theorem dX2_burdenOn_13 : decode cX2_burdenOn 13 = .ok (.istore 6, 2) := by decide +kernel
theorem dX2_burdenOn_15 : decode cX2_burdenOn 15 = .ok (.aload_n 0, 1) := by decide +kernel
theorem dX2_burdenOn_16 : decode cX2_burdenOn 16 = .ok (.getfield 84, 3) := by decide +kernel
theorem dX2_burdenOn_19 : decode cX2_burdenOn 19 = .ok (.iload_n 1, 1) := by decide +kernel
theorem dX2_burdenOn_20 : decode cX2_burdenOn 20 = .ok (.iaload, 1) := by decide +kernel
theorem dX2_burdenOn_21 : decode cX2_burdenOn 21 = .ok (.istore 7, 2) := by decide +kernel
theorem dX2_burdenOn_23 : decode cX2_burdenOn 23 = .ok (.aload_n 0, 1) := by decide +kernel
theorem dX2_burdenOn_24 : decode cX2_burdenOn 24 = .ok (.getfield 87, 3) := by decide +kernel
theorem dX2_burdenOn_27 : decode cX2_burdenOn 27 = .ok (.istore 8, 2) := by decide +kernel
theorem dX2_burdenOn_29 : decode cX2_burdenOn 29 = .ok (.iload 8, 2) := by decide +kernel
theorem dX2_burdenOn_31 : decode cX2_burdenOn 31 = .ok (.aload_n 0, 1) := by decide +kernel
theorem dX2_burdenOn_32 : decode cX2_burdenOn 32 = .ok (.getfield 87, 3) := by decide +kernel
theorem dX2_burdenOn_35 : decode cX2_burdenOn 35 = .ok (.iload 4, 2) := by decide +kernel
theorem dX2_burdenOn_37 : decode cX2_burdenOn 37 = .ok (.iadd, 1) := by decide +kernel
theorem dX2_burdenOn_38 : decode cX2_burdenOn 38 = .ok (.if_icmp .ge 64, 3) := by decide +kernel
theorem dX2_burdenOn_41 : decode cX2_burdenOn 41 = .ok (.iload_n 2, 1) := by decide +kernel
theorem dX2_burdenOn_42 : decode cX2_burdenOn 42 = .ok (.iload 8, 2) := by decide +kernel
theorem dX2_burdenOn_44 : decode cX2_burdenOn 44 = .ok (.iload 5, 2) := by decide +kernel
theorem dX2_burdenOn_46 : decode cX2_burdenOn 46 = .ok (.irem, 1) := by decide +kernel
theorem dX2_burdenOn_47 : decode cX2_burdenOn 47 = .ok (.ishr, 1) := by decide +kernel
theorem dX2_burdenOn_48 : decode cX2_burdenOn 48 = .ok (.iconst 1, 1) := by decide +kernel
theorem dX2_burdenOn_49 : decode cX2_burdenOn 49 = .ok (.iand, 1) := by decide +kernel
theorem dX2_burdenOn_50 : decode cX2_burdenOn 50 = .ok (.iconst 1, 1) := by decide +kernel
theorem dX2_burdenOn_51 : decode cX2_burdenOn 51 = .ok (.if_icmp .ne 7, 3) := by decide +kernel
theorem dX2_burdenOn_54 : decode cX2_burdenOn 54 = .ok (.iconst 1, 1) := by decide +kernel
theorem dX2_burdenOn_55 : decode cX2_burdenOn 55 = .ok (.goto 4, 3) := by decide +kernel
theorem dX2_burdenOn_58 : decode cX2_burdenOn 58 = .ok (.iconst 0, 1) := by decide +kernel
theorem dX2_burdenOn_59 : decode cX2_burdenOn 59 = .ok (.istore 9, 2) := by decide +kernel
theorem dX2_burdenOn_61 : decode cX2_burdenOn 61 = .ok (.iload 7, 2) := by decide +kernel
theorem dX2_burdenOn_63 : decode cX2_burdenOn 63 = .ok (.iload 6, 2) := by decide +kernel
theorem dX2_burdenOn_65 : decode cX2_burdenOn 65 = .ok (.iload 7, 2) := by decide +kernel
theorem dX2_burdenOn_67 : decode cX2_burdenOn 67 = .ok (.aload_n 0, 1) := by decide +kernel
theorem dX2_burdenOn_68 : decode cX2_burdenOn 68 = .ok (.getfield 90, 3) := by decide +kernel
theorem dX2_burdenOn_71 : decode cX2_burdenOn 71 = .ok (.iload 9, 2) := by decide +kernel
theorem dX2_burdenOn_73 : decode cX2_burdenOn 73 = .ok (.invokestatic 93, 3) := by decide +kernel
theorem dX2_burdenOn_76 : decode cX2_burdenOn 76 = .ok (.isub, 1) := by decide +kernel
theorem dX2_burdenOn_77 : decode cX2_burdenOn 77 = .ok (.istore 7, 2) := by decide +kernel
theorem dX2_burdenOn_79 : decode cX2_burdenOn 79 = .ok (.aload_n 0, 1) := by decide +kernel
theorem dX2_burdenOn_80 : decode cX2_burdenOn 80 = .ok (.getfield 97, 3) := by decide +kernel
theorem dX2_burdenOn_83 : decode cX2_burdenOn 83 = .ok (.iload_n 1, 1) := by decide +kernel
theorem dX2_burdenOn_84 : decode cX2_burdenOn 84 = .ok (.iaload, 1) := by decide +kernel
theorem dX2_burdenOn_85 : decode cX2_burdenOn 85 = .ok (.iload 6, 2) := by decide +kernel
theorem dX2_burdenOn_87 : decode cX2_burdenOn 87 = .ok (.iload 9, 2) := by decide +kernel
theorem dX2_burdenOn_89 : decode cX2_burdenOn 89 = .ok (.iload 8, 2) := by decide +kernel
theorem dX2_burdenOn_91 : decode cX2_burdenOn 91 = .ok (.invokestatic 100, 3) := by decide +kernel
theorem dX2_burdenOn_94 : decode cX2_burdenOn 94 = .ok (.istore 6, 2) := by decide +kernel
theorem dX2_burdenOn_96 : decode cX2_burdenOn 96 = .ok (.iinc 8 1, 3) := by decide +kernel
theorem dX2_burdenOn_99 : decode cX2_burdenOn 99 = .ok (.goto (-70), 3) := by decide +kernel
theorem dX2_burdenOn_102 : decode cX2_burdenOn 102 = .ok (.bipush 16, 2) := by decide +kernel
theorem dX2_burdenOn_104 : decode cX2_burdenOn 104 = .ok (.aload_n 0, 1) := by decide +kernel
theorem dX2_burdenOn_105 : decode cX2_burdenOn 105 = .ok (.getfield 84, 3) := by decide +kernel
theorem dX2_burdenOn_108 : decode cX2_burdenOn 108 = .ok (.iload_n 1, 1) := by decide +kernel
theorem dX2_burdenOn_109 : decode cX2_burdenOn 109 = .ok (.iaload, 1) := by decide +kernel
theorem dX2_burdenOn_110 : decode cX2_burdenOn 110 = .ok (.iload 7, 2) := by decide +kernel
theorem dX2_burdenOn_112 : decode cX2_burdenOn 112 = .ok (.isub, 1) := by decide +kernel
theorem dX2_burdenOn_113 : decode cX2_burdenOn 113 = .ok (.imul, 1) := by decide +kernel
theorem dX2_burdenOn_114 : decode cX2_burdenOn 114 = .ok (.iload 6, 2) := by decide +kernel
theorem dX2_burdenOn_116 : decode cX2_burdenOn 116 = .ok (.ifCond .ne 7, 3) := by decide +kernel
theorem dX2_burdenOn_119 : decode cX2_burdenOn 119 = .ok (.iconst 1, 1) := by decide +kernel
theorem dX2_burdenOn_120 : decode cX2_burdenOn 120 = .ok (.goto 4, 3) := by decide +kernel
theorem dX2_burdenOn_123 : decode cX2_burdenOn 123 = .ok (.iconst 0, 1) := by decide +kernel
theorem dX2_burdenOn_124 : decode cX2_burdenOn 124 = .ok (.iadd, 1) := by decide +kernel
theorem dX2_burdenOn_125 : decode cX2_burdenOn 125 = .ok (.ireturn, 1) := by decide +kernel
theorem dX2_gatherHearers_0 : decode cX2_gatherHearers 0 = .ok (.iconst 0, 1) := by decide +kernel
theorem dX2_gatherHearers_1 : decode cX2_gatherHearers 1 = .ok (.istore_n 2, 1) := by decide +kernel
theorem dX2_gatherHearers_2 : decode cX2_gatherHearers 2 = .ok (.iload_n 2, 1) := by decide +kernel
theorem dX2_gatherHearers_3 : decode cX2_gatherHearers 3 = .ok (.aload_n 1, 1) := by decide +kernel
theorem dX2_gatherHearers_4 : decode cX2_gatherHearers 4 = .ok (.getfield 57, 3) := by decide +kernel
theorem dX2_gatherHearers_7 : decode cX2_gatherHearers 7 = .ok (.if_icmp .ge 59, 3) := by decide +kernel
theorem dX2_gatherHearers_10 : decode cX2_gatherHearers 10 = .ok (.aload_n 0, 1) := by decide +kernel
theorem dX2_gatherHearers_11 : decode cX2_gatherHearers 11 = .ok (.getfield 22, 3) := by decide +kernel
theorem dX2_gatherHearers_14 : decode cX2_gatherHearers 14 = .ok (.iload_n 2, 1) := by decide +kernel
theorem dX2_gatherHearers_15 : decode cX2_gatherHearers 15 = .ok (.iconst 0, 1) := by decide +kernel
theorem dX2_gatherHearers_16 : decode cX2_gatherHearers 16 = .ok (.iastore, 1) := by decide +kernel
theorem dX2_gatherHearers_17 : decode cX2_gatherHearers 17 = .ok (.iconst 0, 1) := by decide +kernel
theorem dX2_gatherHearers_18 : decode cX2_gatherHearers 18 = .ok (.istore_n 3, 1) := by decide +kernel
theorem dX2_gatherHearers_19 : decode cX2_gatherHearers 19 = .ok (.iload_n 3, 1) := by decide +kernel
theorem dX2_gatherHearers_20 : decode cX2_gatherHearers 20 = .ok (.aload_n 1, 1) := by decide +kernel
theorem dX2_gatherHearers_21 : decode cX2_gatherHearers 21 = .ok (.getfield 57, 3) := by decide +kernel
theorem dX2_gatherHearers_24 : decode cX2_gatherHearers 24 = .ok (.if_icmp .ge 36, 3) := by decide +kernel
theorem dX2_gatherHearers_27 : decode cX2_gatherHearers 27 = .ok (.aload_n 0, 1) := by decide +kernel
theorem dX2_gatherHearers_28 : decode cX2_gatherHearers 28 = .ok (.getfield 22, 3) := by decide +kernel
theorem dX2_gatherHearers_31 : decode cX2_gatherHearers 31 = .ok (.iload_n 2, 1) := by decide +kernel
theorem dX2_gatherHearers_32 : decode cX2_gatherHearers 32 = .ok (.dup2, 1) := by decide +kernel
theorem dX2_gatherHearers_33 : decode cX2_gatherHearers 33 = .ok (.iaload, 1) := by decide +kernel
theorem dX2_gatherHearers_34 : decode cX2_gatherHearers 34 = .ok (.aload_n 1, 1) := by decide +kernel
theorem dX2_gatherHearers_35 : decode cX2_gatherHearers 35 = .ok (.iload_n 3, 1) := by decide +kernel
theorem dX2_gatherHearers_36 : decode cX2_gatherHearers 36 = .ok (.iload_n 2, 1) := by decide +kernel
theorem dX2_gatherHearers_37 : decode cX2_gatherHearers 37 = .ok (.invokevirtual 104, 3) := by decide +kernel
theorem dX2_gatherHearers_40 : decode cX2_gatherHearers 40 = .ok (.ifCond .eq 11, 3) := by decide +kernel
theorem dX2_gatherHearers_43 : decode cX2_gatherHearers 43 = .ok (.iconst 1, 1) := by decide +kernel
theorem dX2_gatherHearers_44 : decode cX2_gatherHearers 44 = .ok (.iconst 4, 1) := by decide +kernel
theorem dX2_gatherHearers_45 : decode cX2_gatherHearers 45 = .ok (.iload_n 3, 1) := by decide +kernel
theorem dX2_gatherHearers_46 : decode cX2_gatherHearers 46 = .ok (.imul, 1) := by decide +kernel
theorem dX2_gatherHearers_47 : decode cX2_gatherHearers 47 = .ok (.ishl, 1) := by decide +kernel
theorem dX2_gatherHearers_48 : decode cX2_gatherHearers 48 = .ok (.goto 4, 3) := by decide +kernel
theorem dX2_gatherHearers_51 : decode cX2_gatherHearers 51 = .ok (.iconst 0, 1) := by decide +kernel
theorem dX2_gatherHearers_52 : decode cX2_gatherHearers 52 = .ok (.ior, 1) := by decide +kernel
theorem dX2_gatherHearers_53 : decode cX2_gatherHearers 53 = .ok (.iastore, 1) := by decide +kernel
theorem dX2_gatherHearers_54 : decode cX2_gatherHearers 54 = .ok (.iinc 3 1, 3) := by decide +kernel
theorem dX2_gatherHearers_57 : decode cX2_gatherHearers 57 = .ok (.goto (-38), 3) := by decide +kernel
theorem dX2_gatherHearers_60 : decode cX2_gatherHearers 60 = .ok (.iinc 2 1, 3) := by decide +kernel
theorem dX2_gatherHearers_63 : decode cX2_gatherHearers 63 = .ok (.goto (-61), 3) := by decide +kernel
theorem dX2_gatherHearers_66 : decode cX2_gatherHearers 66 = .ok (.return_, 1) := by decide +kernel
theorem dX2_burdenOf_0 : decode cX2_burdenOf 0 = .ok (.iload_n 2, 1) := by decide +kernel
theorem dX2_burdenOf_1 : decode cX2_burdenOf 1 = .ok (.iconst 1, 1) := by decide +kernel
theorem dX2_burdenOf_2 : decode cX2_burdenOf 2 = .ok (.invokestatic 71, 3) := by decide +kernel
theorem dX2_burdenOf_5 : decode cX2_burdenOf 5 = .ok (.istore 4, 2) := by decide +kernel
theorem dX2_burdenOf_7 : decode cX2_burdenOf 7 = .ok (.iload_n 1, 1) := by decide +kernel
theorem dX2_burdenOf_8 : decode cX2_burdenOf 8 = .ok (.istore 5, 2) := by decide +kernel
theorem dX2_burdenOf_10 : decode cX2_burdenOf 10 = .ok (.iconst 0, 1) := by decide +kernel
theorem dX2_burdenOf_11 : decode cX2_burdenOf 11 = .ok (.istore 6, 2) := by decide +kernel
theorem dX2_burdenOf_13 : decode cX2_burdenOf 13 = .ok (.iload_n 3, 1) := by decide +kernel
theorem dX2_burdenOf_14 : decode cX2_burdenOf 14 = .ok (.iconst 1, 1) := by decide +kernel
theorem dX2_burdenOf_15 : decode cX2_burdenOf 15 = .ok (.isub, 1) := by decide +kernel
theorem dX2_burdenOf_16 : decode cX2_burdenOf 16 = .ok (.istore 7, 2) := by decide +kernel
theorem dX2_burdenOf_18 : decode cX2_burdenOf 18 = .ok (.iload 7, 2) := by decide +kernel
theorem dX2_burdenOf_20 : decode cX2_burdenOf 20 = .ok (.ifCond .lt 34, 3) := by decide +kernel
theorem dX2_burdenOf_23 : decode cX2_burdenOf 23 = .ok (.iload 6, 2) := by decide +kernel
theorem dX2_burdenOf_25 : decode cX2_burdenOf 25 = .ok (.aload_n 0, 1) := by decide +kernel
theorem dX2_burdenOf_26 : decode cX2_burdenOf 26 = .ok (.getfield 22, 3) := by decide +kernel
theorem dX2_burdenOf_29 : decode cX2_burdenOf 29 = .ok (.iload 5, 2) := by decide +kernel
theorem dX2_burdenOf_31 : decode cX2_burdenOf 31 = .ok (.iload 4, 2) := by decide +kernel
theorem dX2_burdenOf_33 : decode cX2_burdenOf 33 = .ok (.irem, 1) := by decide +kernel
theorem dX2_burdenOf_34 : decode cX2_burdenOf 34 = .ok (.iaload, 1) := by decide +kernel
theorem dX2_burdenOf_35 : decode cX2_burdenOf 35 = .ok (.iload 7, 2) := by decide +kernel
theorem dX2_burdenOf_37 : decode cX2_burdenOf 37 = .ok (.ishl, 1) := by decide +kernel
theorem dX2_burdenOf_38 : decode cX2_burdenOf 38 = .ok (.ior, 1) := by decide +kernel
theorem dX2_burdenOf_39 : decode cX2_burdenOf 39 = .ok (.istore 6, 2) := by decide +kernel
theorem dX2_burdenOf_41 : decode cX2_burdenOf 41 = .ok (.iload 5, 2) := by decide +kernel
theorem dX2_burdenOf_43 : decode cX2_burdenOf 43 = .ok (.iload 4, 2) := by decide +kernel
theorem dX2_burdenOf_45 : decode cX2_burdenOf 45 = .ok (.idiv, 1) := by decide +kernel
theorem dX2_burdenOf_46 : decode cX2_burdenOf 46 = .ok (.istore 5, 2) := by decide +kernel
theorem dX2_burdenOf_48 : decode cX2_burdenOf 48 = .ok (.iinc 7 (-1), 3) := by decide +kernel
theorem dX2_burdenOf_51 : decode cX2_burdenOf 51 = .ok (.goto (-33), 3) := by decide +kernel
theorem dX2_burdenOf_54 : decode cX2_burdenOf 54 = .ok (.iconst 0, 1) := by decide +kernel
theorem dX2_burdenOf_55 : decode cX2_burdenOf 55 = .ok (.istore 7, 2) := by decide +kernel
theorem dX2_burdenOf_57 : decode cX2_burdenOf 57 = .ok (.iconst 0, 1) := by decide +kernel
theorem dX2_burdenOf_58 : decode cX2_burdenOf 58 = .ok (.istore 8, 2) := by decide +kernel
theorem dX2_burdenOf_60 : decode cX2_burdenOf 60 = .ok (.iload 8, 2) := by decide +kernel
theorem dX2_burdenOf_62 : decode cX2_burdenOf 62 = .ok (.iload_n 2, 1) := by decide +kernel
