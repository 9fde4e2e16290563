theorem dX7_shift_9 : decode cX7_shift 9 = .ok (.ireturn, 1) := by decide +kernel
theorem dX7_shift_10 : decode cX7_shift 10 = .ok (.iload_n 1, 1) := by decide +kernel
theorem dX7_shift_11 : decode cX7_shift 11 = .ok (.i2l, 1) := by decide +kernel
theorem dX7_shift_12 : decode cX7_shift 12 = .ok (.lconst 1, 1) := by decide +kernel
theorem dX7_shift_13 : decode cX7_shift 13 = .ok (.ldc2_w 185, 3) := by decide +kernel
theorem dX7_shift_16 : decode cX7_shift 16 = .ok (.invokestatic 38, 3) := by decide +kernel
theorem dX7_shift_19 : decode cX7_shift 19 = .ok (.ifCond .eq 13, 3) := by decide +kernel
theorem dX7_shift_22 : decode cX7_shift 22 = .ok (.iload_n 2, 1) := by decide +kernel
theorem dX7_shift_23 : decode cX7_shift 23 = .ok (.i2l, 1) := by decide +kernel
theorem dX7_shift_24 : decode cX7_shift 24 = .ok (.lconst 0, 1) := by decide +kernel
theorem dX7_shift_25 : decode cX7_shift 25 = .ok (.lconst 1, 1) := by decide +kernel
theorem dX7_shift_26 : decode cX7_shift 26 = .ok (.invokestatic 38, 3) := by decide +kernel
theorem dX7_shift_29 : decode cX7_shift 29 = .ok (.ifCond .ne 6, 3) := by decide +kernel
theorem dX7_shift_32 : decode cX7_shift 32 = .ok (.ldc 55, 2) := by decide +kernel
theorem dX7_shift_34 : decode cX7_shift 34 = .ok (.ireturn, 1) := by decide +kernel
theorem dX7_shift_35 : decode cX7_shift 35 = .ok (.aload_n 0, 1) := by decide +kernel
theorem dX7_shift_36 : decode cX7_shift 36 = .ok (.invokevirtual 167, 3) := by decide +kernel
theorem dX7_shift_39 : decode cX7_shift 39 = .ok (.aload_n 0, 1) := by decide +kernel
theorem dX7_shift_40 : decode cX7_shift 40 = .ok (.getfield 7, 3) := by decide +kernel
theorem dX7_shift_43 : decode cX7_shift 43 = .ok (.bipush 43, 2) := by decide +kernel
theorem dX7_shift_45 : decode cX7_shift 45 = .ok (.iconst 0, 1) := by decide +kernel
theorem dX7_shift_46 : decode cX7_shift 46 = .ok (.iastore, 1) := by decide +kernel
theorem dX7_shift_47 : decode cX7_shift 47 = .ok (.aload_n 0, 1) := by decide +kernel
theorem dX7_shift_48 : decode cX7_shift 48 = .ok (.iload_n 1, 1) := by decide +kernel
theorem dX7_shift_49 : decode cX7_shift 49 = .ok (.invokevirtual 170, 3) := by decide +kernel
theorem dX7_shift_52 : decode cX7_shift 52 = .ok (.aload_n 0, 1) := by decide +kernel
theorem dX7_shift_53 : decode cX7_shift 53 = .ok (.getfield 7, 3) := by decide +kernel
theorem dX7_shift_56 : decode cX7_shift 56 = .ok (.bipush 43, 2) := by decide +kernel
theorem dX7_shift_58 : decode cX7_shift 58 = .ok (.iaload, 1) := by decide +kernel
theorem dX7_shift_59 : decode cX7_shift 59 = .ok (.istore_n 3, 1) := by decide +kernel
theorem dX7_shift_60 : decode cX7_shift 60 = .ok (.ldc 173, 2) := by decide +kernel
theorem dX7_shift_62 : decode cX7_shift 62 = .ok (.istore 4, 2) := by decide +kernel
theorem dX7_shift_64 : decode cX7_shift 64 = .ok (.iconst 0, 1) := by decide +kernel
theorem dX7_shift_65 : decode cX7_shift 65 = .ok (.istore 5, 2) := by decide +kernel
theorem dX7_shift_67 : decode cX7_shift 67 = .ok (.iload 5, 2) := by decide +kernel
theorem dX7_shift_69 : decode cX7_shift 69 = .ok (.aload_n 0, 1) := by decide +kernel
theorem dX7_shift_70 : decode cX7_shift 70 = .ok (.getfield 7, 3) := by decide +kernel
theorem dX7_shift_73 : decode cX7_shift 73 = .ok (.iconst 1, 1) := by decide +kernel
theorem dX7_shift_74 : decode cX7_shift 74 = .ok (.iaload, 1) := by decide +kernel
theorem dX7_shift_75 : decode cX7_shift 75 = .ok (.if_icmp .ge 101, 3) := by decide +kernel
theorem dX7_shift_78 : decode cX7_shift 78 = .ok (.iconst 0, 1) := by decide +kernel
theorem dX7_shift_79 : decode cX7_shift 79 = .ok (.istore 6, 2) := by decide +kernel
theorem dX7_shift_81 : decode cX7_shift 81 = .ok (.iload 6, 2) := by decide +kernel
theorem dX7_shift_83 : decode cX7_shift 83 = .ok (.aload_n 0, 1) := by decide +kernel
theorem dX7_shift_84 : decode cX7_shift 84 = .ok (.getfield 7, 3) := by decide +kernel
theorem dX7_shift_87 : decode cX7_shift 87 = .ok (.iconst 0, 1) := by decide +kernel
theorem dX7_shift_88 : decode cX7_shift 88 = .ok (.iaload, 1) := by decide +kernel
theorem dX7_shift_89 : decode cX7_shift 89 = .ok (.if_icmp .ge 81, 3) := by decide +kernel
theorem dX7_shift_92 : decode cX7_shift 92 = .ok (.aload_n 0, 1) := by decide +kernel
theorem dX7_shift_93 : decode cX7_shift 93 = .ok (.invokevirtual 167, 3) := by decide +kernel
theorem dX7_shift_96 : decode cX7_shift 96 = .ok (.aload_n 0, 1) := by decide +kernel
theorem dX7_shift_97 : decode cX7_shift 97 = .ok (.getfield 7, 3) := by decide +kernel
theorem dX7_shift_100 : decode cX7_shift 100 = .ok (.bipush 43, 2) := by decide +kernel
theorem dX7_shift_102 : decode cX7_shift 102 = .ok (.iconst 0, 1) := by decide +kernel
theorem dX7_shift_103 : decode cX7_shift 103 = .ok (.iastore, 1) := by decide +kernel
theorem dX7_shift_104 : decode cX7_shift 104 = .ok (.aload_n 0, 1) := by decide +kernel
theorem dX7_shift_105 : decode cX7_shift 105 = .ok (.getfield 7, 3) := by decide +kernel
theorem dX7_shift_108 : decode cX7_shift 108 = .ok (.bipush 68, 2) := by decide +kernel
theorem dX7_shift_110 : decode cX7_shift 110 = .ok (.iload 5, 2) := by decide +kernel
theorem dX7_shift_112 : decode cX7_shift 112 = .ok (.iadd, 1) := by decide +kernel
theorem dX7_shift_113 : decode cX7_shift 113 = .ok (.iload 6, 2) := by decide +kernel
theorem dX7_shift_115 : decode cX7_shift 115 = .ok (.iastore, 1) := by decide +kernel
theorem dX7_shift_116 : decode cX7_shift 116 = .ok (.aload_n 0, 1) := by decide +kernel
theorem dX7_shift_117 : decode cX7_shift 117 = .ok (.iload_n 1, 1) := by decide +kernel
theorem dX7_shift_118 : decode cX7_shift 118 = .ok (.invokevirtual 170, 3) := by decide +kernel
theorem dX7_shift_121 : decode cX7_shift 121 = .ok (.aload_n 0, 1) := by decide +kernel
theorem dX7_shift_122 : decode cX7_shift 122 = .ok (.getfield 7, 3) := by decide +kernel
theorem dX7_shift_125 : decode cX7_shift 125 = .ok (.bipush 43, 2) := by decide +kernel
theorem dX7_shift_127 : decode cX7_shift 127 = .ok (.iaload, 1) := by decide +kernel
theorem dX7_shift_128 : decode cX7_shift 128 = .ok (.istore 7, 2) := by decide +kernel
theorem dX7_shift_130 : decode cX7_shift 130 = .ok (.iload 7, 2) := by decide +kernel
theorem dX7_shift_132 : decode cX7_shift 132 = .ok (.iload_n 3, 1) := by decide +kernel
theorem dX7_shift_133 : decode cX7_shift 133 = .ok (.if_icmp .ge 14, 3) := by decide +kernel
theorem dX7_shift_136 : decode cX7_shift 136 = .ok (.bipush 10, 2) := by decide +kernel
theorem dX7_shift_138 : decode cX7_shift 138 = .ok (.iload 5, 2) := by decide +kernel
theorem dX7_shift_140 : decode cX7_shift 140 = .ok (.imul, 1) := by decide +kernel
theorem dX7_shift_141 : decode cX7_shift 141 = .ok (.iload 6, 2) := by decide +kernel
theorem dX7_shift_143 : decode cX7_shift 143 = .ok (.iadd, 1) := by decide +kernel
theorem dX7_shift_144 : decode cX7_shift 144 = .ok (.goto 5, 3) := by decide +kernel
theorem dX7_shift_147 : decode cX7_shift 147 = .ok (.iload 4, 2) := by decide +kernel
theorem dX7_shift_149 : decode cX7_shift 149 = .ok (.istore 4, 2) := by decide +kernel
theorem dX7_shift_151 : decode cX7_shift 151 = .ok (.iload 7, 2) := by decide +kernel
theorem dX7_shift_153 : decode cX7_shift 153 = .ok (.iload_n 3, 1) := by decide +kernel
theorem dX7_shift_154 : decode cX7_shift 154 = .ok (.if_icmp .ge 8, 3) := by decide +kernel
theorem dX7_shift_157 : decode cX7_shift 157 = .ok (.iload 7, 2) := by decide +kernel
theorem dX7_shift_159 : decode cX7_shift 159 = .ok (.goto 4, 3) := by decide +kernel
theorem dX7_shift_162 : decode cX7_shift 162 = .ok (.iload_n 3, 1) := by decide +kernel
theorem dX7_shift_163 : decode cX7_shift 163 = .ok (.istore_n 3, 1) := by decide +kernel
theorem dX7_shift_164 : decode cX7_shift 164 = .ok (.iinc 6 1, 3) := by decide +kernel
theorem dX7_shift_167 : decode cX7_shift 167 = .ok (.goto (-86), 3) := by decide +kernel
theorem dX7_shift_170 : decode cX7_shift 170 = .ok (.iinc 5 1, 3) := by decide +kernel
theorem dX7_shift_173 : decode cX7_shift 173 = .ok (.goto (-106), 3) := by decide +kernel
theorem dX7_shift_176 : decode cX7_shift 176 = .ok (.iload 4, 2) := by decide +kernel
theorem dX7_shift_178 : decode cX7_shift 178 = .ok (.ldc 173, 2) := by decide +kernel
theorem dX7_shift_180 : decode cX7_shift 180 = .ok (.if_icmp .eq 7, 3) := by decide +kernel
theorem dX7_shift_183 : decode cX7_shift 183 = .ok (.iload_n 2, 1) := by decide +kernel
theorem dX7_shift_184 : decode cX7_shift 184 = .ok (.ifCond .ne 8, 3) := by decide +kernel
theorem dX7_shift_187 : decode cX7_shift 187 = .ok (.iload 4, 2) := by decide +kernel
theorem dX7_shift_189 : decode cX7_shift 189 = .ok (.goto 4, 3) := by decide +kernel
theorem dX7_shift_192 : decode cX7_shift 192 = .ok (.iload_n 3, 1) := by decide +kernel
theorem dX7_shift_193 : decode cX7_shift 193 = .ok (.ireturn, 1) := by decide +kernel
theorem dX7_cover_0 : decode cX7_cover 0 = .ok (.aload_n 0, 1) := by decide +kernel
theorem dX7_cover_1 : decode cX7_cover 1 = .ok (.invokevirtual 142, 3) := by decide +kernel
theorem dX7_cover_4 : decode cX7_cover 4 = .ok (.ifCond .ne 6, 3) := by decide +kernel
theorem dX7_cover_7 : decode cX7_cover 7 = .ok (.ldc 145, 2) := by decide +kernel
theorem dX7_cover_9 : decode cX7_cover 9 = .ok (.ireturn, 1) := by decide +kernel
theorem dX7_cover_10 : decode cX7_cover 10 = .ok (.iload_n 1, 1) := by decide +kernel
theorem dX7_cover_11 : decode cX7_cover 11 = .ok (.i2l, 1) := by decide +kernel
theorem dX7_cover_12 : decode cX7_cover 12 = .ok (.lconst 0, 1) := by decide +kernel
theorem dX7_cover_13 : decode cX7_cover 13 = .ok (.lconst 1, 1) := by decide +kernel
theorem dX7_cover_14 : decode cX7_cover 14 = .ok (.invokestatic 38, 3) := by decide +kernel
theorem dX7_cover_17 : decode cX7_cover 17 = .ok (.ifCond .ne 6, 3) := by decide +kernel
theorem dX7_cover_20 : decode cX7_cover 20 = .ok (.ldc 55, 2) := by decide +kernel
theorem dX7_cover_22 : decode cX7_cover 22 = .ok (.ireturn, 1) := by decide +kernel
theorem dX7_cover_23 : decode cX7_cover 23 = .ok (.iconst 1, 1) := by decide +kernel
theorem dX7_cover_24 : decode cX7_cover 24 = .ok (.aload_n 0, 1) := by decide +kernel
theorem dX7_cover_25 : decode cX7_cover 25 = .ok (.getfield 7, 3) := by decide +kernel
theorem dX7_cover_28 : decode cX7_cover 28 = .ok (.iconst 0, 1) := by decide +kernel
theorem dX7_cover_29 : decode cX7_cover 29 = .ok (.iaload, 1) := by decide +kernel
theorem dX7_cover_30 : decode cX7_cover 30 = .ok (.ishl, 1) := by decide +kernel
theorem dX7_cover_31 : decode cX7_cover 31 = .ok (.iconst 1, 1) := by decide +kernel
theorem dX7_cover_32 : decode cX7_cover 32 = .ok (.isub, 1) := by decide +kernel
theorem dX7_cover_33 : decode cX7_cover 33 = .ok (.istore_n 2, 1) := by decide +kernel
theorem dX7_cover_34 : decode cX7_cover 34 = .ok (.iload_n 2, 1) := by decide +kernel
theorem dX7_cover_35 : decode cX7_cover 35 = .ok (.istore_n 3, 1) := by decide +kernel
theorem dX7_cover_36 : decode cX7_cover 36 = .ok (.iload_n 3, 1) := by decide +kernel
theorem dX7_cover_37 : decode cX7_cover 37 = .ok (.ifCond .le 131, 3) := by decide +kernel
theorem dX7_cover_40 : decode cX7_cover 40 = .ok (.iconst 1, 1) := by decide +kernel
theorem dX7_cover_41 : decode cX7_cover 41 = .ok (.istore 4, 2) := by decide +kernel
theorem dX7_cover_43 : decode cX7_cover 43 = .ok (.iconst 0, 1) := by decide +kernel
theorem dX7_cover_44 : decode cX7_cover 44 = .ok (.istore 5, 2) := by decide +kernel
theorem dX7_cover_46 : decode cX7_cover 46 = .ok (.iload 5, 2) := by decide +kernel
theorem dX7_cover_48 : decode cX7_cover 48 = .ok (.aload_n 0, 1) := by decide +kernel
theorem dX7_cover_49 : decode cX7_cover 49 = .ok (.getfield 7, 3) := by decide +kernel
theorem dX7_cover_52 : decode cX7_cover 52 = .ok (.iconst 0, 1) := by decide +kernel
theorem dX7_cover_53 : decode cX7_cover 53 = .ok (.iaload, 1) := by decide +kernel
theorem dX7_cover_54 : decode cX7_cover 54 = .ok (.if_icmp .ge 86, 3) := by decide +kernel
theorem dX7_cover_57 : decode cX7_cover 57 = .ok (.iconst 0, 1) := by decide +kernel
theorem dX7_cover_58 : decode cX7_cover 58 = .ok (.istore 6, 2) := by decide +kernel
theorem dX7_cover_60 : decode cX7_cover 60 = .ok (.iconst 0, 1) := by decide +kernel
theorem dX7_cover_61 : decode cX7_cover 61 = .ok (.istore 7, 2) := by decide +kernel
theorem dX7_cover_63 : decode cX7_cover 63 = .ok (.iload 7, 2) := by decide +kernel
theorem dX7_cover_65 : decode cX7_cover 65 = .ok (.aload_n 0, 1) := by decide +kernel
theorem dX7_cover_66 : decode cX7_cover 66 = .ok (.getfield 7, 3) := by decide +kernel
theorem dX7_cover_69 : decode cX7_cover 69 = .ok (.iconst 0, 1) := by decide +kernel
theorem dX7_cover_70 : decode cX7_cover 70 = .ok (.iaload, 1) := by decide +kernel
theorem dX7_cover_71 : decode cX7_cover 71 = .ok (.if_icmp .ge 46, 3) := by decide +kernel
theorem dX7_cover_74 : decode cX7_cover 74 = .ok (.iload 6, 2) := by decide +kernel
theorem dX7_cover_76 : decode cX7_cover 76 = .ok (.ifCond .ne 28, 3) := by decide +kernel
theorem dX7_cover_79 : decode cX7_cover 79 = .ok (.iload_n 3, 1) := by decide +kernel
theorem dX7_cover_80 : decode cX7_cover 80 = .ok (.iload 7, 2) := by decide +kernel
theorem dX7_cover_82 : decode cX7_cover 82 = .ok (.invokestatic 187, 3) := by decide +kernel
theorem dX7_cover_85 : decode cX7_cover 85 = .ok (.ifCond .eq 23, 3) := by decide +kernel
theorem dX7_cover_88 : decode cX7_cover 88 = .ok (.iload 7, 2) := by decide +kernel
theorem dX7_cover_90 : decode cX7_cover 90 = .ok (.iload 5, 2) := by decide +kernel
theorem dX7_cover_92 : decode cX7_cover 92 = .ok (.invokestatic 124, 3) := by decide +kernel
theorem dX7_cover_95 : decode cX7_cover 95 = .ok (.aload_n 0, 1) := by decide +kernel
theorem dX7_cover_96 : decode cX7_cover 96 = .ok (.getfield 7, 3) := by decide +kernel
theorem dX7_cover_99 : decode cX7_cover 99 = .ok (.iconst 2, 1) := by decide +kernel
theorem dX7_cover_100 : decode cX7_cover 100 = .ok (.iaload, 1) := by decide +kernel
theorem dX7_cover_101 : decode cX7_cover 101 = .ok (.if_icmp .gt 7, 3) := by decide +kernel
theorem dX7_cover_104 : decode cX7_cover 104 = .ok (.iconst 1, 1) := by decide +kernel
theorem dX7_cover_105 : decode cX7_cover 105 = .ok (.goto 4, 3) := by decide +kernel
theorem dX7_cover_108 : decode cX7_cover 108 = .ok (.iconst 0, 1) := by decide +kernel
theorem dX7_cover_109 : decode cX7_cover 109 = .ok (.istore 6, 2) := by decide +kernel
theorem dX7_cover_111 : decode cX7_cover 111 = .ok (.iinc 7 1, 3) := by decide +kernel
theorem dX7_cover_114 : decode cX7_cover 114 = .ok (.goto (-51), 3) := by decide +kernel
theorem dX7_cover_117 : decode cX7_cover 117 = .ok (.iload 4, 2) := by decide +kernel
theorem dX7_cover_119 : decode cX7_cover 119 = .ok (.ifCond .eq 12, 3) := by decide +kernel
theorem dX7_cover_122 : decode cX7_cover 122 = .ok (.iload 6, 2) := by decide +kernel
theorem dX7_cover_124 : decode cX7_cover 124 = .ok (.ifCond .eq 7, 3) := by decide +kernel
theorem dX7_cover_127 : decode cX7_cover 127 = .ok (.iconst 1, 1) := by decide +kernel
theorem dX7_cover_128 : decode cX7_cover 128 = .ok (.goto 4, 3) := by decide +kernel
theorem dX7_cover_131 : decode cX7_cover 131 = .ok (.iconst 0, 1) := by decide +kernel
theorem dX7_cover_132 : decode cX7_cover 132 = .ok (.istore 4, 2) := by decide +kernel
theorem dX7_cover_134 : decode cX7_cover 134 = .ok (.iinc 5 1, 3) := by decide +kernel
theorem dX7_cover_137 : decode cX7_cover 137 = .ok (.goto (-91), 3) := by decide +kernel
theorem dX7_cover_140 : decode cX7_cover 140 = .ok (.iload 4, 2) := by decide +kernel
theorem dX7_cover_142 : decode cX7_cover 142 = .ok (.ifCond .eq 18, 3) := by decide +kernel
theorem dX7_cover_145 : decode cX7_cover 145 = .ok (.iload_n 3, 1) := by decide +kernel
theorem dX7_cover_146 : decode cX7_cover 146 = .ok (.invokestatic 182, 3) := by decide +kernel
theorem dX7_cover_149 : decode cX7_cover 149 = .ok (.iload_n 2, 1) := by decide +kernel
theorem dX7_cover_150 : decode cX7_cover 150 = .ok (.invokestatic 182, 3) := by decide +kernel
theorem dX7_cover_153 : decode cX7_cover 153 = .ok (.if_icmp .gt 7, 3) := by decide +kernel
theorem dX7_cover_156 : decode cX7_cover 156 = .ok (.iload_n 3, 1) := by decide +kernel
theorem dX7_cover_157 : decode cX7_cover 157 = .ok (.goto 4, 3) := by decide +kernel
theorem dX7_cover_160 : decode cX7_cover 160 = .ok (.iload_n 2, 1) := by decide +kernel
theorem dX7_cover_161 : decode cX7_cover 161 = .ok (.istore_n 2, 1) := by decide +kernel
theorem dX7_cover_162 : decode cX7_cover 162 = .ok (.iinc 3 (-1), 3) := by decide +kernel
theorem dX7_cover_165 : decode cX7_cover 165 = .ok (.goto (-129), 3) := by decide +kernel
theorem dX7_cover_168 : decode cX7_cover 168 = .ok (.iload_n 1, 1) := by decide +kernel
theorem dX7_cover_169 : decode cX7_cover 169 = .ok (.ifCond .ne 10, 3) := by decide +kernel
theorem dX7_cover_172 : decode cX7_cover 172 = .ok (.iload_n 2, 1) := by decide +kernel
theorem dX7_cover_173 : decode cX7_cover 173 = .ok (.invokestatic 182, 3) := by decide +kernel
theorem dX7_cover_176 : decode cX7_cover 176 = .ok (.goto 4, 3) := by decide +kernel
theorem dX7_cover_179 : decode cX7_cover 179 = .ok (.iload_n 2, 1) := by decide +kernel
theorem dX7_cover_180 : decode cX7_cover 180 = .ok (.ireturn, 1) := by decide +kernel
theorem dX7_spread_0 : decode cX7_spread 0 = .ok (.aload_n 0, 1) := by decide +kernel
theorem dX7_spread_1 : decode cX7_spread 1 = .ok (.iload_n 1, 1) := by decide +kernel
theorem dX7_spread_2 : decode cX7_spread 2 = .ok (.invokevirtual 158, 3) := by decide +kernel
theorem dX7_spread_5 : decode cX7_spread 5 = .ok (.ifCond .eq 15, 3) := by decide +kernel
theorem dX7_spread_8 : decode cX7_spread 8 = .ok (.iload_n 2, 1) := by decide +kernel
theorem dX7_spread_9 : decode cX7_spread 9 = .ok (.i2l, 1) := by decide +kernel
theorem dX7_spread_10 : decode cX7_spread 10 = .ok (.lconst 1, 1) := by decide +kernel
theorem dX7_spread_11 : decode cX7_spread 11 = .ok (.ldc2_w 185, 3) := by decide +kernel
theorem dX7_spread_14 : decode cX7_spread 14 = .ok (.invokestatic 38, 3) := by decide +kernel
theorem dX7_spread_17 : decode cX7_spread 17 = .ok (.ifCond .ne 6, 3) := by decide +kernel
theorem dX7_spread_20 : decode cX7_spread 20 = .ok (.ldc 55, 2) := by decide +kernel
theorem dX7_spread_22 : decode cX7_spread 22 = .ok (.ireturn, 1) := by decide +kernel
theorem dX7_spread_23 : decode cX7_spread 23 = .ok (.iconst 0, 1) := by decide +kernel
theorem dX7_spread_24 : decode cX7_spread 24 = .ok (.istore_n 3, 1) := by decide +kernel
theorem dX7_spread_25 : decode cX7_spread 25 = .ok (.iload_n 3, 1) := by decide +kernel
theorem dX7_spread_26 : decode cX7_spread 26 = .ok (.iconst 4, 1) := by decide +kernel
theorem dX7_spread_27 : decode cX7_spread 27 = .ok (.if_icmp .ge 40, 3) := by decide +kernel
theorem dX7_spread_30 : decode cX7_spread 30 = .ok (.aload_n 0, 1) := by decide +kernel
theorem dX7_spread_31 : decode cX7_spread 31 = .ok (.invokevirtual 167, 3) := by decide +kernel
theorem dX7_spread_34 : decode cX7_spread 34 = .ok (.aload_n 0, 1) := by decide +kernel
theorem dX7_spread_35 : decode cX7_spread 35 = .ok (.getfield 7, 3) := by decide +kernel
theorem dX7_spread_38 : decode cX7_spread 38 = .ok (.bipush 40, 2) := by decide +kernel
theorem dX7_spread_40 : decode cX7_spread 40 = .ok (.iload_n 3, 1) := by decide +kernel
theorem dX7_spread_41 : decode cX7_spread 41 = .ok (.iastore, 1) := by decide +kernel
theorem dX7_spread_42 : decode cX7_spread 42 = .ok (.aload_n 0, 1) := by decide +kernel
theorem dX7_spread_43 : decode cX7_spread 43 = .ok (.iload_n 2, 1) := by decide +kernel
theorem dX7_spread_44 : decode cX7_spread 44 = .ok (.invokevirtual 170, 3) := by decide +kernel
theorem dX7_spread_47 : decode cX7_spread 47 = .ok (.aload_n 0, 1) := by decide +kernel
theorem dX7_spread_48 : decode cX7_spread 48 = .ok (.getfield 7, 3) := by decide +kernel
theorem dX7_spread_51 : decode cX7_spread 51 = .ok (.bipush 52, 2) := by decide +kernel
theorem dX7_spread_53 : decode cX7_spread 53 = .ok (.iload_n 1, 1) := by decide +kernel
theorem dX7_spread_54 : decode cX7_spread 54 = .ok (.iadd, 1) := by decide +kernel
theorem dX7_spread_55 : decode cX7_spread 55 = .ok (.iaload, 1) := by decide +kernel
theorem dX7_spread_56 : decode cX7_spread 56 = .ok (.ifCond .le 5, 3) := by decide +kernel
theorem dX7_spread_59 : decode cX7_spread 59 = .ok (.iload_n 3, 1) := by decide +kernel
theorem dX7_spread_60 : decode cX7_spread 60 = .ok (.ireturn, 1) := by decide +kernel
theorem dX7_spread_61 : decode cX7_spread 61 = .ok (.iinc 3 1, 3) := by decide +kernel
theorem dX7_spread_64 : decode cX7_spread 64 = .ok (.goto (-39), 3) := by decide +kernel
theorem dX7_spread_67 : decode cX7_spread 67 = .ok (.ldc 173, 2) := by decide +kernel
theorem dX7_spread_69 : decode cX7_spread 69 = .ok (.ireturn, 1) := by decide +kernel
theorem dX7_skins_0 : decode cX7_skins 0 = .ok (.aload_n 0, 1) := by decide +kernel
theorem dX7_skins_1 : decode cX7_skins 1 = .ok (.iload_n 1, 1) := by decide +kernel
theorem dX7_skins_2 : decode cX7_skins 2 = .ok (.invokevirtual 158, 3) := by decide +kernel
theorem dX7_skins_5 : decode cX7_skins 5 = .ok (.ifCond .eq 15, 3) := by decide +kernel
theorem dX7_skins_8 : decode cX7_skins 8 = .ok (.iload_n 2, 1) := by decide +kernel
theorem dX7_skins_9 : decode cX7_skins 9 = .ok (.i2l, 1) := by decide +kernel
theorem dX7_skins_10 : decode cX7_skins 10 = .ok (.lconst 0, 1) := by decide +kernel
theorem dX7_skins_11 : decode cX7_skins 11 = .ok (.ldc2_w 190, 3) := by decide +kernel
theorem dX7_skins_14 : decode cX7_skins 14 = .ok (.invokestatic 38, 3) := by decide +kernel
theorem dX7_skins_17 : decode cX7_skins 17 = .ok (.ifCond .ne 6, 3) := by decide +kernel
theorem dX7_skins_20 : decode cX7_skins 20 = .ok (.ldc 55, 2) := by decide +kernel
theorem dX7_skins_22 : decode cX7_skins 22 = .ok (.ireturn, 1) := by decide +kernel
theorem dX7_skins_23 : decode cX7_skins 23 = .ok (.iconst 0, 1) := by decide +kernel
theorem dX7_skins_24 : decode cX7_skins 24 = .ok (.istore_n 3, 1) := by decide +kernel
theorem dX7_skins_25 : decode cX7_skins 25 = .ok (.iconst 0, 1) := by decide +kernel
theorem dX7_skins_26 : decode cX7_skins 26 = .ok (.istore 4, 2) := by decide +kernel
theorem dX7_skins_28 : decode cX7_skins 28 = .ok (.iload 4, 2) := by decide +kernel
theorem dX7_skins_30 : decode cX7_skins 30 = .ok (.aload_n 0, 1) := by decide +kernel
theorem dX7_skins_31 : decode cX7_skins 31 = .ok (.getfield 7, 3) := by decide +kernel
theorem dX7_skins_34 : decode cX7_skins 34 = .ok (.iconst 0, 1) := by decide +kernel
theorem dX7_skins_35 : decode cX7_skins 35 = .ok (.iaload, 1) := by decide +kernel
theorem dX7_skins_36 : decode cX7_skins 36 = .ok (.if_icmp .ge 22, 3) := by decide +kernel
theorem dX7_skins_39 : decode cX7_skins 39 = .ok (.iload_n 3, 1) := by decide +kernel
theorem dX7_skins_40 : decode cX7_skins 40 = .ok (.aload_n 0, 1) := by decide +kernel
theorem dX7_skins_41 : decode cX7_skins 41 = .ok (.getfield 7, 3) := by decide +kernel
theorem dX7_skins_44 : decode cX7_skins 44 = .ok (.bipush 22, 2) := by decide +kernel
theorem dX7_skins_46 : decode cX7_skins 46 = .ok (.iload 4, 2) := by decide +kernel
theorem dX7_skins_48 : decode cX7_skins 48 = .ok (.iadd, 1) := by decide +kernel
theorem dX7_skins_49 : decode cX7_skins 49 = .ok (.iaload, 1) := by decide +kernel
theorem dX7_skins_50 : decode cX7_skins 50 = .ok (.iadd, 1) := by decide +kernel
theorem dX7_skins_51 : decode cX7_skins 51 = .ok (.istore_n 3, 1) := by decide +kernel
theorem dX7_skins_52 : decode cX7_skins 52 = .ok (.iinc 4 1, 3) := by decide +kernel
theorem dX7_skins_55 : decode cX7_skins 55 = .ok (.goto (-27), 3) := by decide +kernel
theorem dX7_skins_58 : decode cX7_skins 58 = .ok (.aload_n 0, 1) := by decide +kernel
theorem dX7_skins_59 : decode cX7_skins 59 = .ok (.getfield 7, 3) := by decide +kernel
theorem dX7_skins_62 : decode cX7_skins 62 = .ok (.bipush 22, 2) := by decide +kernel
theorem dX7_skins_64 : decode cX7_skins 64 = .ok (.iload_n 1, 1) := by decide +kernel
theorem dX7_skins_65 : decode cX7_skins 65 = .ok (.iadd, 1) := by decide +kernel
theorem dX7_skins_66 : decode cX7_skins 66 = .ok (.iaload, 1) := by decide +kernel
theorem dX7_skins_67 : decode cX7_skins 67 = .ok (.ifCond .ne 5, 3) := by decide +kernel
theorem dX7_skins_70 : decode cX7_skins 70 = .ok (.iconst 0, 1) := by decide +kernel
theorem dX7_skins_71 : decode cX7_skins 71 = .ok (.ireturn, 1) := by decide +kernel
theorem dX7_skins_72 : decode cX7_skins 72 = .ok (.iload_n 2, 1) := by decide +kernel
theorem dX7_skins_73 : decode cX7_skins 73 = .ok (.istore 4, 2) := by decide +kernel
theorem dX7_skins_75 : decode cX7_skins 75 = .ok (.iconst 0, 1) := by decide +kernel
theorem dX7_skins_76 : decode cX7_skins 76 = .ok (.istore 5, 2) := by decide +kernel
theorem dX7_skins_78 : decode cX7_skins 78 = .ok (.iconst 0, 1) := by decide +kernel
theorem dX7_skins_79 : decode cX7_skins 79 = .ok (.istore 6, 2) := by decide +kernel
theorem dX7_skins_81 : decode cX7_skins 81 = .ok (.iload 6, 2) := by decide +kernel
theorem dX7_skins_83 : decode cX7_skins 83 = .ok (.aload_n 0, 1) := by decide +kernel
theorem dX7_skins_84 : decode cX7_skins 84 = .ok (.getfield 7, 3) := by decide +kernel
theorem dX7_skins_87 : decode cX7_skins 87 = .ok (.iconst 0, 1) := by decide +kernel
theorem dX7_skins_88 : decode cX7_skins 88 = .ok (.iaload, 1) := by decide +kernel
theorem dX7_skins_89 : decode cX7_skins 89 = .ok (.if_icmp .ge 57, 3) := by decide +kernel
theorem dX7_skins_92 : decode cX7_skins 92 = .ok (.iload 4, 2) := by decide +kernel
theorem dX7_skins_94 : decode cX7_skins 94 = .ok (.iload_n 2, 1) := by decide +kernel
theorem dX7_skins_95 : decode cX7_skins 95 = .ok (.aload_n 0, 1) := by decide +kernel
theorem dX7_skins_96 : decode cX7_skins 96 = .ok (.getfield 7, 3) := by decide +kernel
theorem dX7_skins_99 : decode cX7_skins 99 = .ok (.bipush 22, 2) := by decide +kernel
theorem dX7_skins_101 : decode cX7_skins 101 = .ok (.iload 6, 2) := by decide +kernel
theorem dX7_skins_103 : decode cX7_skins 103 = .ok (.iadd, 1) := by decide +kernel
theorem dX7_skins_104 : decode cX7_skins 104 = .ok (.iaload, 1) := by decide +kernel
theorem dX7_skins_105 : decode cX7_skins 105 = .ok (.imul, 1) := by decide +kernel
theorem dX7_skins_106 : decode cX7_skins 106 = .ok (.iload_n 3, 1) := by decide +kernel
theorem dX7_skins_107 : decode cX7_skins 107 = .ok (.idiv, 1) := by decide +kernel
theorem dX7_skins_108 : decode cX7_skins 108 = .ok (.isub, 1) := by decide +kernel
theorem dX7_skins_109 : decode cX7_skins 109 = .ok (.istore 4, 2) := by decide +kernel
theorem dX7_skins_111 : decode cX7_skins 111 = .ok (.iload 5, 2) := by decide +kernel
theorem dX7_skins_113 : decode cX7_skins 113 = .ok (.iload 6, 2) := by decide +kernel
theorem dX7_skins_115 : decode cX7_skins 115 = .ok (.iload_n 1, 1) := by decide +kernel
theorem dX7_skins_116 : decode cX7_skins 116 = .ok (.if_icmp .ge 20, 3) := by decide +kernel
theorem dX7_skins_119 : decode cX7_skins 119 = .ok (.aload_n 0, 1) := by decide +kernel
theorem dX7_skins_120 : decode cX7_skins 120 = .ok (.getfield 7, 3) := by decide +kernel
theorem dX7_skins_123 : decode cX7_skins 123 = .ok (.bipush 22, 2) := by decide +kernel
theorem dX7_skins_125 : decode cX7_skins 125 = .ok (.iload 6, 2) := by decide +kernel
theorem dX7_skins_127 : decode cX7_skins 127 = .ok (.iadd, 1) := by decide +kernel
theorem dX7_skins_128 : decode cX7_skins 128 = .ok (.iaload, 1) := by decide +kernel
theorem dX7_skins_129 : decode cX7_skins 129 = .ok (.ifCond .le 7, 3) := by decide +kernel
theorem dX7_skins_132 : decode cX7_skins 132 = .ok (.iconst 1, 1) := by decide +kernel
theorem dX7_skins_133 : decode cX7_skins 133 = .ok (.goto 4, 3) := by decide +kernel
theorem dX7_skins_136 : decode cX7_skins 136 = .ok (.iconst 0, 1) := by decide +kernel
theorem dX7_skins_137 : decode cX7_skins 137 = .ok (.iadd, 1) := by decide +kernel
theorem dX7_skins_138 : decode cX7_skins 138 = .ok (.istore 5, 2) := by decide +kernel
theorem dX7_skins_140 : decode cX7_skins 140 = .ok (.iinc 6 1, 3) := by decide +kernel
theorem dX7_skins_143 : decode cX7_skins 143 = .ok (.goto (-62), 3) := by decide +kernel
theorem dX7_skins_146 : decode cX7_skins 146 = .ok (.iload_n 2, 1) := by decide +kernel
theorem dX7_skins_147 : decode cX7_skins 147 = .ok (.aload_n 0, 1) := by decide +kernel
theorem dX7_skins_148 : decode cX7_skins 148 = .ok (.getfield 7, 3) := by decide +kernel
theorem dX7_skins_151 : decode cX7_skins 151 = .ok (.bipush 22, 2) := by decide +kernel
theorem dX7_skins_153 : decode cX7_skins 153 = .ok (.iload_n 1, 1) := by decide +kernel
theorem dX7_skins_154 : decode cX7_skins 154 = .ok (.iadd, 1) := by decide +kernel
theorem dX7_skins_155 : decode cX7_skins 155 = .ok (.iaload, 1) := by decide +kernel
theorem dX7_skins_156 : decode cX7_skins 156 = .ok (.imul, 1) := by decide +kernel
theorem dX7_skins_157 : decode cX7_skins 157 = .ok (.iload_n 3, 1) := by decide +kernel
theorem dX7_skins_158 : decode cX7_skins 158 = .ok (.idiv, 1) := by decide +kernel
theorem dX7_skins_159 : decode cX7_skins 159 = .ok (.iload 5, 2) := by decide +kernel
theorem dX7_skins_161 : decode cX7_skins 161 = .ok (.iload 4, 2) := by decide +kernel
theorem dX7_skins_163 : decode cX7_skins 163 = .ok (.if_icmp .ge 7, 3) := by decide +kernel
theorem dX7_skins_166 : decode cX7_skins 166 = .ok (.iconst 1, 1) := by decide +kernel
theorem dX7_skins_167 : decode cX7_skins 167 = .ok (.goto 4, 3) := by decide +kernel
theorem dX7_skins_170 : decode cX7_skins 170 = .ok (.iconst 0, 1) := by decide +kernel
theorem dX7_skins_171 : decode cX7_skins 171 = .ok (.iadd, 1) := by decide +kernel
theorem dX7_skins_172 : decode cX7_skins 172 = .ok (.ireturn, 1) := by decide +kernel
theorem dX7_isSo_0 : decode cX7_isSo 0 = .ok (.iconst 1, 1) := by decide +kernel
theorem dX7_isSo_1 : decode cX7_isSo 1 = .ok (.istore 4, 2) := by decide +kernel
theorem dX7_isSo_3 : decode cX7_isSo 3 = .ok (.iconst 0, 1) := by decide +kernel
theorem dX7_isSo_4 : decode cX7_isSo 4 = .ok (.istore 5, 2) := by decide +kernel
theorem dX7_isSo_6 : decode cX7_isSo 6 = .ok (.iload 5, 2) := by decide +kernel
theorem dX7_isSo_8 : decode cX7_isSo 8 = .ok (.iload_n 3, 1) := by decide +kernel
theorem dX7_isSo_9 : decode cX7_isSo 9 = .ok (.if_icmp .ge 48, 3) := by decide +kernel
theorem dX7_isSo_12 : decode cX7_isSo 12 = .ok (.aload_n 0, 1) := by decide +kernel
theorem dX7_isSo_13 : decode cX7_isSo 13 = .ok (.bipush 38, 2) := by decide +kernel
theorem dX7_isSo_15 : decode cX7_isSo 15 = .ok (.invokevirtual 151, 3) := by decide +kernel
theorem dX7_isSo_18 : decode cX7_isSo 18 = .ok (.iload 4, 2) := by decide +kernel
theorem dX7_isSo_20 : decode cX7_isSo 20 = .ok (.ifCond .eq 28, 3) := by decide +kernel
theorem dX7_isSo_23 : decode cX7_isSo 23 = .ok (.aload_n 0, 1) := by decide +kernel
theorem dX7_isSo_24 : decode cX7_isSo 24 = .ok (.getfield 7, 3) := by decide +kernel
theorem dX7_isSo_27 : decode cX7_isSo 27 = .ok (.bipush 52, 2) := by decide +kernel
theorem dX7_isSo_29 : decode cX7_isSo 29 = .ok (.iload_n 1, 1) := by decide +kernel
theorem dX7_isSo_30 : decode cX7_isSo 30 = .ok (.iadd, 1) := by decide +kernel
theorem dX7_isSo_31 : decode cX7_isSo 31 = .ok (.iaload, 1) := by decide +kernel
theorem dX7_isSo_32 : decode cX7_isSo 32 = .ok (.aload_n 0, 1) := by decide +kernel
theorem dX7_isSo_33 : decode cX7_isSo 33 = .ok (.getfield 22, 3) := by decide +kernel
theorem dX7_isSo_36 : decode cX7_isSo 36 = .ok (.iload_n 2, 1) := by decide +kernel
theorem dX7_isSo_37 : decode cX7_isSo 37 = .ok (.iload 5, 2) := by decide +kernel
theorem dX7_isSo_39 : decode cX7_isSo 39 = .ok (.iadd, 1) := by decide +kernel
theorem dX7_isSo_40 : decode cX7_isSo 40 = .ok (.iaload, 1) := by decide +kernel
theorem dX7_isSo_41 : decode cX7_isSo 41 = .ok (.if_icmp .ne 7, 3) := by decide +kernel
theorem dX7_isSo_44 : decode cX7_isSo 44 = .ok (.iconst 1, 1) := by decide +kernel
theorem dX7_isSo_45 : decode cX7_isSo 45 = .ok (.goto 4, 3) := by decide +kernel
theorem dX7_isSo_48 : decode cX7_isSo 48 = .ok (.iconst 0, 1) := by decide +kernel
theorem dX7_isSo_49 : decode cX7_isSo 49 = .ok (.istore 4, 2) := by decide +kernel
theorem dX7_isSo_51 : decode cX7_isSo 51 = .ok (.iinc 5 1, 3) := by decide +kernel
theorem dX7_isSo_54 : decode cX7_isSo 54 = .ok (.goto (-48), 3) := by decide +kernel
theorem dX7_isSo_57 : decode cX7_isSo 57 = .ok (.iload 4, 2) := by decide +kernel
theorem dX7_isSo_59 : decode cX7_isSo 59 = .ok (.ireturn, 1) := by decide +kernel
theorem dX7_fits_0 : decode cX7_fits 0 = .ok (.aload_n 0, 1) := by decide +kernel
theorem dX7_fits_1 : decode cX7_fits 1 = .ok (.iload_n 1, 1) := by decide +kernel
theorem dX7_fits_2 : decode cX7_fits 2 = .ok (.invokevirtual 158, 3) := by decide +kernel
theorem dX7_fits_5 : decode cX7_fits 5 = .ok (.ifCond .eq 36, 3) := by decide +kernel
theorem dX7_fits_8 : decode cX7_fits 8 = .ok (.iload_n 2, 1) := by decide +kernel
theorem dX7_fits_9 : decode cX7_fits 9 = .ok (.invokestatic 49, 3) := by decide +kernel
theorem dX7_fits_12 : decode cX7_fits 12 = .ok (.ifCond .eq 29, 3) := by decide +kernel
theorem dX7_fits_15 : decode cX7_fits 15 = .ok (.iload 4, 2) := by decide +kernel
theorem dX7_fits_17 : decode cX7_fits 17 = .ok (.i2l, 1) := by decide +kernel
theorem dX7_fits_18 : decode cX7_fits 18 = .ok (.lconst 1, 1) := by decide +kernel
theorem dX7_fits_19 : decode cX7_fits 19 = .ok (.ldc2_w 179, 3) := by decide +kernel
theorem dX7_fits_22 : decode cX7_fits 22 = .ok (.invokestatic 38, 3) := by decide +kernel
theorem dX7_fits_25 : decode cX7_fits 25 = .ok (.ifCond .eq 16, 3) := by decide +kernel
theorem dX7_fits_28 : decode cX7_fits 28 = .ok (.iload 5, 2) := by decide +kernel
theorem dX7_fits_30 : decode cX7_fits 30 = .ok (.i2l, 1) := by decide +kernel
theorem dX7_fits_31 : decode cX7_fits 31 = .ok (.lconst 0, 1) := by decide +kernel
theorem dX7_fits_32 : decode cX7_fits 32 = .ok (.ldc2_w 161, 3) := by decide +kernel
theorem dX7_fits_35 : decode cX7_fits 35 = .ok (.invokestatic 38, 3) := by decide +kernel
theorem dX7_fits_38 : decode cX7_fits 38 = .ok (.ifCond .ne 6, 3) := by decide +kernel
theorem dX7_fits_41 : decode cX7_fits 41 = .ok (.ldc 55, 2) := by decide +kernel
theorem dX7_fits_43 : decode cX7_fits 43 = .ok (.ireturn, 1) := by decide +kernel
theorem dX7_fits_44 : decode cX7_fits 44 = .ok (.aload_n 0, 1) := by decide +kernel
theorem dX7_fits_45 : decode cX7_fits 45 = .ok (.iload_n 2, 1) := by decide +kernel
theorem dX7_fits_46 : decode cX7_fits 46 = .ok (.iload_n 3, 1) := by decide +kernel
theorem dX7_fits_47 : decode cX7_fits 47 = .ok (.iload 4, 2) := by decide +kernel
theorem dX7_fits_49 : decode cX7_fits 49 = .ok (.invokevirtual 60, 3) := by decide +kernel
theorem dX7_fits_52 : decode cX7_fits 52 = .ok (.istore 6, 2) := by decide +kernel
theorem dX7_fits_54 : decode cX7_fits 54 = .ok (.iload 6, 2) := by decide +kernel
theorem dX7_fits_56 : decode cX7_fits 56 = .ok (.ifCond .le 10, 3) := by decide +kernel
theorem dX7_fits_59 : decode cX7_fits 59 = .ok (.aload_n 0, 1) := by decide +kernel
theorem dX7_fits_60 : decode cX7_fits 60 = .ok (.iload 6, 2) := by decide +kernel
theorem dX7_fits_62 : decode cX7_fits 62 = .ok (.invokevirtual 56, 3) := by decide +kernel
theorem dX7_fits_65 : decode cX7_fits 65 = .ok (.ireturn, 1) := by decide +kernel
theorem dX7_fits_66 : decode cX7_fits 66 = .ok (.aload_n 0, 1) := by decide +kernel
theorem dX7_fits_67 : decode cX7_fits 67 = .ok (.iconst 0, 1) := by decide +kernel
theorem dX7_fits_68 : decode cX7_fits 68 = .ok (.putfield 44, 3) := by decide +kernel
theorem dX7_fits_71 : decode cX7_fits 71 = .ok (.iload 5, 2) := by decide +kernel
theorem dX7_fits_73 : decode cX7_fits 73 = .ok (.ifCond .ne 7, 3) := by decide +kernel
theorem dX7_fits_76 : decode cX7_fits 76 = .ok (.iconst 1, 1) := by decide +kernel
theorem dX7_fits_77 : decode cX7_fits 77 = .ok (.goto 4, 3) := by decide +kernel
theorem dX7_fits_80 : decode cX7_fits 80 = .ok (.iconst 0, 1) := by decide +kernel
theorem dX7_fits_81 : decode cX7_fits 81 = .ok (.istore 7, 2) := by decide +kernel
theorem dX7_fits_83 : decode cX7_fits 83 = .ok (.iload 5, 2) := by decide +kernel
theorem dX7_fits_85 : decode cX7_fits 85 = .ok (.ifCond .ne 7, 3) := by decide +kernel
theorem dX7_fits_88 : decode cX7_fits 88 = .ok (.iconst 5, 1) := by decide +kernel
theorem dX7_fits_89 : decode cX7_fits 89 = .ok (.goto 32, 3) := by decide +kernel
theorem dX7_fits_92 : decode cX7_fits 92 = .ok (.iload 5, 2) := by decide +kernel
theorem dX7_fits_94 : decode cX7_fits 94 = .ok (.iconst 1, 1) := by decide +kernel
theorem dX7_fits_95 : decode cX7_fits 95 = .ok (.if_icmp .ne 8, 3) := by decide +kernel
theorem dX7_fits_98 : decode cX7_fits 98 = .ok (.bipush 20, 2) := by decide +kernel
theorem dX7_fits_100 : decode cX7_fits 100 = .ok (.goto 21, 3) := by decide +kernel
theorem dX7_fits_103 : decode cX7_fits 103 = .ok (.iload 5, 2) := by decide +kernel
theorem dX7_fits_105 : decode cX7_fits 105 = .ok (.iconst 2, 1) := by decide +kernel
theorem dX7_fits_106 : decode cX7_fits 106 = .ok (.if_icmp .ne 7, 3) := by decide +kernel
theorem dX7_fits_109 : decode cX7_fits 109 = .ok (.iconst 3, 1) := by decide +kernel
theorem dX7_fits_110 : decode cX7_fits 110 = .ok (.goto 11, 3) := by decide +kernel
theorem dX7_fits_113 : decode cX7_fits 113 = .ok (.aload_n 0, 1) := by decide +kernel
theorem dX7_fits_114 : decode cX7_fits 114 = .ok (.getfield 7, 3) := by decide +kernel
theorem dX7_fits_117 : decode cX7_fits 117 = .ok (.iconst 0, 1) := by decide +kernel
theorem dX7_fits_118 : decode cX7_fits 118 = .ok (.iaload, 1) := by decide +kernel
theorem dX7_fits_119 : decode cX7_fits 119 = .ok (.iconst 1, 1) := by decide +kernel
theorem dX7_fits_120 : decode cX7_fits 120 = .ok (.isub, 1) := by decide +kernel
theorem dX7_fits_121 : decode cX7_fits 121 = .ok (.istore 8, 2) := by decide +kernel
theorem dX7_fits_123 : decode cX7_fits 123 = .ok (.iload 5, 2) := by decide +kernel
theorem dX7_fits_125 : decode cX7_fits 125 = .ok (.ifCond .ne 10, 3) := by decide +kernel
theorem dX7_fits_128 : decode cX7_fits 128 = .ok (.bipush 6, 2) := by decide +kernel
theorem dX7_fits_130 : decode cX7_fits 130 = .ok (.iload_n 1, 1) := by decide +kernel
theorem dX7_fits_131 : decode cX7_fits 131 = .ok (.iadd, 1) := by decide +kernel
theorem dX7_fits_132 : decode cX7_fits 132 = .ok (.goto 42, 3) := by decide +kernel
theorem dX7_fits_135 : decode cX7_fits 135 = .ok (.iload 5, 2) := by decide +kernel
theorem dX7_fits_137 : decode cX7_fits 137 = .ok (.iconst 1, 1) := by decide +kernel
theorem dX7_fits_138 : decode cX7_fits 138 = .ok (.if_icmp .ne 10, 3) := by decide +kernel
theorem dX7_fits_141 : decode cX7_fits 141 = .ok (.bipush 14, 2) := by decide +kernel
theorem dX7_fits_143 : decode cX7_fits 143 = .ok (.iload_n 1, 1) := by decide +kernel
theorem dX7_fits_144 : decode cX7_fits 144 = .ok (.iadd, 1) := by decide +kernel
theorem dX7_fits_145 : decode cX7_fits 145 = .ok (.goto 29, 3) := by decide +kernel
theorem dX7_fits_148 : decode cX7_fits 148 = .ok (.iload 5, 2) := by decide +kernel
theorem dX7_fits_150 : decode cX7_fits 150 = .ok (.iconst 2, 1) := by decide +kernel
theorem dX7_fits_151 : decode cX7_fits 151 = .ok (.if_icmp .ne 7, 3) := by decide +kernel
theorem dX7_fits_154 : decode cX7_fits 154 = .ok (.iconst 2, 1) := by decide +kernel
theorem dX7_fits_155 : decode cX7_fits 155 = .ok (.goto 19, 3) := by decide +kernel
theorem dX7_fits_158 : decode cX7_fits 158 = .ok (.bipush 30, 2) := by decide +kernel
theorem dX7_fits_160 : decode cX7_fits 160 = .ok (.aload_n 0, 1) := by decide +kernel
theorem dX7_fits_161 : decode cX7_fits 161 = .ok (.getfield 7, 3) := by decide +kernel
theorem dX7_fits_164 : decode cX7_fits 164 = .ok (.iconst 4, 1) := by decide +kernel
theorem dX7_fits_165 : decode cX7_fits 165 = .ok (.iaload, 1) := by decide +kernel
theorem dX7_fits_166 : decode cX7_fits 166 = .ok (.aload_n 0, 1) := by decide +kernel
theorem dX7_fits_167 : decode cX7_fits 167 = .ok (.getfield 7, 3) := by decide +kernel
theorem dX7_fits_170 : decode cX7_fits 170 = .ok (.iconst 1, 1) := by decide +kernel
theorem dX7_fits_171 : decode cX7_fits 171 = .ok (.iaload, 1) := by decide +kernel
theorem dX7_fits_172 : decode cX7_fits 172 = .ok (.irem, 1) := by decide +kernel
theorem dX7_fits_173 : decode cX7_fits 173 = .ok (.iadd, 1) := by decide +kernel
theorem dX7_fits_174 : decode cX7_fits 174 = .ok (.istore 9, 2) := by decide +kernel
theorem dX7_fits_176 : decode cX7_fits 176 = .ok (.iconst 0, 1) := by decide +kernel
theorem dX7_fits_177 : decode cX7_fits 177 = .ok (.istore 10, 2) := by decide +kernel
theorem dX7_fits_179 : decode cX7_fits 179 = .ok (.iload 7, 2) := by decide +kernel
theorem dX7_fits_181 : decode cX7_fits 181 = .ok (.istore 11, 2) := by decide +kernel
theorem dX7_fits_183 : decode cX7_fits 183 = .ok (.iload 11, 2) := by decide +kernel
theorem dX7_fits_185 : decode cX7_fits 185 = .ok (.iload 8, 2) := by decide +kernel
theorem dX7_fits_187 : decode cX7_fits 187 = .ok (.if_icmp .gt 54, 3) := by decide +kernel
theorem dX7_fits_190 : decode cX7_fits 190 = .ok (.aload_n 0, 1) := by decide +kernel
theorem dX7_fits_191 : decode cX7_fits 191 = .ok (.invokevirtual 167, 3) := by decide +kernel
theorem dX7_fits_194 : decode cX7_fits 194 = .ok (.aload_n 0, 1) := by decide +kernel
theorem dX7_fits_195 : decode cX7_fits 195 = .ok (.getfield 7, 3) := by decide +kernel
theorem dX7_fits_198 : decode cX7_fits 198 = .ok (.bipush 38, 2) := by decide +kernel
theorem dX7_fits_200 : decode cX7_fits 200 = .ok (.iload 9, 2) := by decide +kernel
theorem dX7_fits_202 : decode cX7_fits 202 = .ok (.iadd, 1) := by decide +kernel
theorem dX7_fits_203 : decode cX7_fits 203 = .ok (.iload 11, 2) := by decide +kernel
theorem dX7_fits_205 : decode cX7_fits 205 = .ok (.iastore, 1) := by decide +kernel
theorem dX7_fits_206 : decode cX7_fits 206 = .ok (.iload 10, 2) := by decide +kernel
theorem dX7_fits_208 : decode cX7_fits 208 = .ok (.aload_n 0, 1) := by decide +kernel
theorem dX7_fits_209 : decode cX7_fits 209 = .ok (.iload_n 1, 1) := by decide +kernel
theorem dX7_fits_210 : decode cX7_fits 210 = .ok (.bipush 40, 2) := by decide +kernel
theorem dX7_fits_212 : decode cX7_fits 212 = .ok (.iload_n 2, 1) := by decide +kernel
theorem dX7_fits_213 : decode cX7_fits 213 = .ok (.imul, 1) := by decide +kernel
theorem dX7_fits_214 : decode cX7_fits 214 = .ok (.iload_n 3, 1) := by decide +kernel
theorem dX7_fits_215 : decode cX7_fits 215 = .ok (.iadd, 1) := by decide +kernel
theorem dX7_fits_216 : decode cX7_fits 216 = .ok (.iload 4, 2) := by decide +kernel
theorem dX7_fits_218 : decode cX7_fits 218 = .ok (.invokevirtual 192, 3) := by decide +kernel
theorem dX7_fits_221 : decode cX7_fits 221 = .ok (.ifCond .eq 10, 3) := by decide +kernel
theorem dX7_fits_224 : decode cX7_fits 224 = .ok (.iconst 1, 1) := by decide +kernel
theorem dX7_fits_225 : decode cX7_fits 225 = .ok (.iload 11, 2) := by decide +kernel
theorem dX7_fits_227 : decode cX7_fits 227 = .ok (.ishl, 1) := by decide +kernel
theorem dX7_fits_228 : decode cX7_fits 228 = .ok (.goto 4, 3) := by decide +kernel
theorem dX7_fits_231 : decode cX7_fits 231 = .ok (.iconst 0, 1) := by decide +kernel
theorem dX7_fits_232 : decode cX7_fits 232 = .ok (.ior, 1) := by decide +kernel
theorem dX7_fits_233 : decode cX7_fits 233 = .ok (.istore 10, 2) := by decide +kernel
theorem dX7_fits_235 : decode cX7_fits 235 = .ok (.iinc 11 1, 3) := by decide +kernel
theorem dX7_fits_238 : decode cX7_fits 238 = .ok (.goto (-55), 3) := by decide +kernel
theorem dX7_fits_241 : decode cX7_fits 241 = .ok (.iload 10, 2) := by decide +kernel
theorem dX7_fits_243 : decode cX7_fits 243 = .ok (.ireturn, 1) := by decide +kernel
theorem dX7_drops_0 : decode cX7_drops 0 = .ok (.aload_n 0, 1) := by decide +kernel
theorem dX7_drops_1 : decode cX7_drops 1 = .ok (.iload_n 1, 1) := by decide +kernel
theorem dX7_drops_2 : decode cX7_drops 2 = .ok (.invokevirtual 158, 3) := by decide +kernel
theorem dX7_drops_5 : decode cX7_drops 5 = .ok (.ifCond .eq 38, 3) := by decide +kernel
theorem dX7_drops_8 : decode cX7_drops 8 = .ok (.iload_n 2, 1) := by decide +kernel
theorem dX7_drops_9 : decode cX7_drops 9 = .ok (.i2l, 1) := by decide +kernel
theorem dX7_drops_10 : decode cX7_drops 10 = .ok (.lconst 0, 1) := by decide +kernel
theorem dX7_drops_11 : decode cX7_drops 11 = .ok (.ldc2_w 196, 3) := by decide +kernel
theorem dX7_drops_14 : decode cX7_drops 14 = .ok (.invokestatic 38, 3) := by decide +kernel
theorem dX7_drops_17 : decode cX7_drops 17 = .ok (.ifCond .eq 26, 3) := by decide +kernel
theorem dX7_drops_20 : decode cX7_drops 20 = .ok (.iload_n 3, 1) := by decide +kernel
theorem dX7_drops_21 : decode cX7_drops 21 = .ok (.i2l, 1) := by decide +kernel
theorem dX7_drops_22 : decode cX7_drops 22 = .ok (.lconst 0, 1) := by decide +kernel
theorem dX7_drops_23 : decode cX7_drops 23 = .ok (.ldc2_w 198, 3) := by decide +kernel
theorem dX7_drops_26 : decode cX7_drops 26 = .ok (.invokestatic 38, 3) := by decide +kernel
theorem dX7_drops_29 : decode cX7_drops 29 = .ok (.ifCond .eq 14, 3) := by decide +kernel
theorem dX7_drops_32 : decode cX7_drops 32 = .ok (.iload 4, 2) := by decide +kernel
theorem dX7_drops_34 : decode cX7_drops 34 = .ok (.i2l, 1) := by decide +kernel
theorem dX7_drops_35 : decode cX7_drops 35 = .ok (.lconst 0, 1) := by decide +kernel
theorem dX7_drops_36 : decode cX7_drops 36 = .ok (.lconst 1, 1) := by decide +kernel
theorem dX7_drops_37 : decode cX7_drops 37 = .ok (.invokestatic 38, 3) := by decide +kernel
theorem dX7_drops_40 : decode cX7_drops 40 = .ok (.ifCond .ne 6, 3) := by decide +kernel
theorem dX7_drops_43 : decode cX7_drops 43 = .ok (.ldc 55, 2) := by decide +kernel
theorem dX7_drops_45 : decode cX7_drops 45 = .ok (.ireturn, 1) := by decide +kernel
theorem dX7_drops_46 : decode cX7_drops 46 = .ok (.lconst 0, 1) := by decide +kernel
theorem dX7_drops_47 : decode cX7_drops 47 = .ok (.lstore 5, 2) := by decide +kernel
theorem dX7_drops_49 : decode cX7_drops 49 = .ok (.lconst 1, 1) := by decide +kernel
theorem dX7_drops_50 : decode cX7_drops 50 = .ok (.lstore 7, 2) := by decide +kernel
theorem dX7_drops_52 : decode cX7_drops 52 = .ok (.iconst 0, 1) := by decide +kernel
theorem dX7_drops_53 : decode cX7_drops 53 = .ok (.istore 9, 2) := by decide +kernel
theorem dX7_drops_55 : decode cX7_drops 55 = .ok (.iload 9, 2) := by decide +kernel
theorem dX7_drops_57 : decode cX7_drops 57 = .ok (.iload_n 2, 1) := by decide +kernel
theorem dX7_drops_58 : decode cX7_drops 58 = .ok (.if_icmp .ge 17, 3) := by decide +kernel
theorem dX7_drops_61 : decode cX7_drops 61 = .ok (.lload 7, 2) := by decide +kernel
theorem dX7_drops_63 : decode cX7_drops 63 = .ok (.ldc2_w 198, 3) := by decide +kernel
theorem dX7_drops_66 : decode cX7_drops 66 = .ok (.lmul, 1) := by decide +kernel
theorem dX7_drops_67 : decode cX7_drops 67 = .ok (.lstore 7, 2) := by decide +kernel
theorem dX7_drops_69 : decode cX7_drops 69 = .ok (.iinc 9 1, 3) := by decide +kernel
theorem dX7_drops_72 : decode cX7_drops 72 = .ok (.goto (-17), 3) := by decide +kernel
theorem dX7_drops_75 : decode cX7_drops 75 = .ok (.iconst 0, 1) := by decide +kernel
theorem dX7_drops_76 : decode cX7_drops 76 = .ok (.istore 9, 2) := by decide +kernel
theorem dX7_drops_78 : decode cX7_drops 78 = .ok (.iload 9, 2) := by decide +kernel
theorem dX7_drops_80 : decode cX7_drops 80 = .ok (.iconst 1, 1) := by decide +kernel
theorem dX7_drops_81 : decode cX7_drops 81 = .ok (.iload_n 2, 1) := by decide +kernel
theorem dX7_drops_82 : decode cX7_drops 82 = .ok (.ishl, 1) := by decide +kernel
theorem dX7_drops_83 : decode cX7_drops 83 = .ok (.if_icmp .ge 156, 3) := by decide +kernel
theorem dX7_drops_86 : decode cX7_drops 86 = .ok (.lconst 1, 1) := by decide +kernel
theorem dX7_drops_87 : decode cX7_drops 87 = .ok (.lstore 10, 2) := by decide +kernel
theorem dX7_drops_89 : decode cX7_drops 89 = .ok (.aload_n 0, 1) := by decide +kernel
theorem dX7_drops_90 : decode cX7_drops 90 = .ok (.invokevirtual 167, 3) := by decide +kernel
theorem dX7_drops_93 : decode cX7_drops 93 = .ok (.iconst 0, 1) := by decide +kernel
theorem dX7_drops_94 : decode cX7_drops 94 = .ok (.istore 12, 2) := by decide +kernel
theorem dX7_drops_96 : decode cX7_drops 96 = .ok (.iload 12, 2) := by decide +kernel
theorem dX7_drops_98 : decode cX7_drops 98 = .ok (.iload_n 2, 1) := by decide +kernel
theorem dX7_drops_99 : decode cX7_drops 99 = .ok (.if_icmp .ge 111, 3) := by decide +kernel
theorem dX7_drops_102 : decode cX7_drops 102 = .ok (.lload 10, 2) := by decide +kernel
theorem dX7_drops_104 : decode cX7_drops 104 = .ok (.iload 9, 2) := by decide +kernel
theorem dX7_drops_106 : decode cX7_drops 106 = .ok (.iload 12, 2) := by decide +kernel
theorem dX7_drops_108 : decode cX7_drops 108 = .ok (.invokestatic 187, 3) := by decide +kernel
theorem dX7_drops_111 : decode cX7_drops 111 = .ok (.ifCond .eq 8, 3) := by decide +kernel
theorem dX7_drops_114 : decode cX7_drops 114 = .ok (.iload_n 3, 1) := by decide +kernel
theorem dX7_drops_115 : decode cX7_drops 115 = .ok (.i2l, 1) := by decide +kernel
theorem dX7_drops_116 : decode cX7_drops 116 = .ok (.goto 8, 3) := by decide +kernel
theorem dX7_drops_119 : decode cX7_drops 119 = .ok (.bipush 10, 2) := by decide +kernel
theorem dX7_drops_121 : decode cX7_drops 121 = .ok (.iload_n 3, 1) := by decide +kernel
theorem dX7_drops_122 : decode cX7_drops 122 = .ok (.isub, 1) := by decide +kernel
theorem dX7_drops_123 : decode cX7_drops 123 = .ok (.i2l, 1) := by decide +kernel
theorem dX7_drops_124 : decode cX7_drops 124 = .ok (.lmul, 1) := by decide +kernel
theorem dX7_drops_125 : decode cX7_drops 125 = .ok (.lstore 10, 2) := by decide +kernel
theorem dX7_drops_127 : decode cX7_drops 127 = .ok (.iload 9, 2) := by decide +kernel
theorem dX7_drops_129 : decode cX7_drops 129 = .ok (.iload 12, 2) := by decide +kernel
theorem dX7_drops_131 : decode cX7_drops 131 = .ok (.invokestatic 187, 3) := by decide +kernel
theorem dX7_drops_134 : decode cX7_drops 134 = .ok (.ifCond .ne 17, 3) := by decide +kernel
theorem dX7_drops_137 : decode cX7_drops 137 = .ok (.aload_n 0, 1) := by decide +kernel
theorem dX7_drops_138 : decode cX7_drops 138 = .ok (.bipush 38, 2) := by decide +kernel
theorem dX7_drops_140 : decode cX7_drops 140 = .ok (.iload_n 1, 1) := by decide +kernel
theorem dX7_drops_141 : decode cX7_drops 141 = .ok (.invokevirtual 131, 3) := by decide +kernel
theorem dX7_drops_144 : decode cX7_drops 144 = .ok (.ifCond .eq 7, 3) := by decide +kernel
theorem dX7_drops_147 : decode cX7_drops 147 = .ok (.iconst 1, 1) := by decide +kernel
theorem dX7_drops_148 : decode cX7_drops 148 = .ok (.goto 4, 3) := by decide +kernel
theorem dX7_drops_151 : decode cX7_drops 151 = .ok (.iconst 0, 1) := by decide +kernel
theorem dX7_drops_152 : decode cX7_drops 152 = .ok (.istore 13, 2) := by decide +kernel
theorem dX7_drops_154 : decode cX7_drops 154 = .ok (.aload_n 0, 1) := by decide +kernel
theorem dX7_drops_155 : decode cX7_drops 155 = .ok (.getfield 7, 3) := by decide +kernel
theorem dX7_drops_158 : decode cX7_drops 158 = .ok (.bipush 52, 2) := by decide +kernel
theorem dX7_drops_160 : decode cX7_drops 160 = .ok (.iload_n 1, 1) := by decide +kernel
theorem dX7_drops_161 : decode cX7_drops 161 = .ok (.iadd, 1) := by decide +kernel
theorem dX7_drops_162 : decode cX7_drops 162 = .ok (.aload_n 0, 1) := by decide +kernel
theorem dX7_drops_163 : decode cX7_drops 163 = .ok (.getfield 7, 3) := by decide +kernel
theorem dX7_drops_166 : decode cX7_drops 166 = .ok (.bipush 6, 2) := by decide +kernel
theorem dX7_drops_168 : decode cX7_drops 168 = .ok (.iload_n 1, 1) := by decide +kernel
theorem dX7_drops_169 : decode cX7_drops 169 = .ok (.iadd, 1) := by decide +kernel
theorem dX7_drops_170 : decode cX7_drops 170 = .ok (.iaload, 1) := by decide +kernel
theorem dX7_drops_171 : decode cX7_drops 171 = .ok (.aload_n 0, 1) := by decide +kernel
theorem dX7_drops_172 : decode cX7_drops 172 = .ok (.getfield 7, 3) := by decide +kernel
theorem dX7_drops_175 : decode cX7_drops 175 = .ok (.bipush 52, 2) := by decide +kernel
theorem dX7_drops_177 : decode cX7_drops 177 = .ok (.iload_n 1, 1) := by decide +kernel
theorem dX7_drops_178 : decode cX7_drops 178 = .ok (.iadd, 1) := by decide +kernel
theorem dX7_drops_179 : decode cX7_drops 179 = .ok (.iaload, 1) := by decide +kernel
theorem dX7_drops_180 : decode cX7_drops 180 = .ok (.iload 13, 2) := by decide +kernel
theorem dX7_drops_182 : decode cX7_drops 182 = .ok (.aload_n 0, 1) := by decide +kernel
theorem dX7_drops_183 : decode cX7_drops 183 = .ok (.getfield 7, 3) := by decide +kernel
theorem dX7_drops_186 : decode cX7_drops 186 = .ok (.bipush 42, 2) := by decide +kernel
theorem dX7_drops_188 : decode cX7_drops 188 = .ok (.iaload, 1) := by decide +kernel
theorem dX7_drops_189 : decode cX7_drops 189 = .ok (.invokestatic 137, 3) := by decide +kernel
theorem dX7_drops_192 : decode cX7_drops 192 = .ok (.iastore, 1) := by decide +kernel
theorem dX7_drops_193 : decode cX7_drops 193 = .ok (.aload_n 0, 1) := by decide +kernel
theorem dX7_drops_194 : decode cX7_drops 194 = .ok (.getfield 7, 3) := by decide +kernel
theorem dX7_drops_197 : decode cX7_drops 197 = .ok (.bipush 42, 2) := by decide +kernel
theorem dX7_drops_199 : decode cX7_drops 199 = .ok (.dup2, 1) := by decide +kernel
theorem dX7_drops_200 : decode cX7_drops 200 = .ok (.iaload, 1) := by decide +kernel
theorem dX7_drops_201 : decode cX7_drops 201 = .ok (.iconst 1, 1) := by decide +kernel
theorem dX7_drops_202 : decode cX7_drops 202 = .ok (.iadd, 1) := by decide +kernel
theorem dX7_drops_203 : decode cX7_drops 203 = .ok (.iastore, 1) := by decide +kernel
theorem dX7_drops_204 : decode cX7_drops 204 = .ok (.iinc 12 1, 3) := by decide +kernel
theorem dX7_drops_207 : decode cX7_drops 207 = .ok (.goto (-111), 3) := by decide +kernel
theorem dX7_drops_210 : decode cX7_drops 210 = .ok (.lload 5, 2) := by decide +kernel
theorem dX7_drops_212 : decode cX7_drops 212 = .ok (.aload_n 0, 1) := by decide +kernel
theorem dX7_drops_213 : decode cX7_drops 213 = .ok (.getfield 7, 3) := by decide +kernel
theorem dX7_drops_216 : decode cX7_drops 216 = .ok (.bipush 52, 2) := by decide +kernel
theorem dX7_drops_218 : decode cX7_drops 218 = .ok (.iload_n 1, 1) := by decide +kernel
theorem dX7_drops_219 : decode cX7_drops 219 = .ok (.iadd, 1) := by decide +kernel
theorem dX7_drops_220 : decode cX7_drops 220 = .ok (.iaload, 1) := by decide +kernel
theorem dX7_drops_221 : decode cX7_drops 221 = .ok (.ifCond .ne 8, 3) := by decide +kernel
theorem dX7_drops_224 : decode cX7_drops 224 = .ok (.lload 10, 2) := by decide +kernel
theorem dX7_drops_226 : decode cX7_drops 226 = .ok (.goto 4, 3) := by decide +kernel
theorem dX7_drops_229 : decode cX7_drops 229 = .ok (.lconst 0, 1) := by decide +kernel
theorem dX7_drops_230 : decode cX7_drops 230 = .ok (.ladd, 1) := by decide +kernel
theorem dX7_drops_231 : decode cX7_drops 231 = .ok (.lstore 5, 2) := by decide +kernel
theorem dX7_drops_233 : decode cX7_drops 233 = .ok (.iinc 9 1, 3) := by decide +kernel
theorem dX7_drops_236 : decode cX7_drops 236 = .ok (.goto (-158), 3) := by decide +kernel
theorem dX7_drops_239 : decode cX7_drops 239 = .ok (.lload 5, 2) := by decide +kernel
theorem dX7_drops_241 : decode cX7_drops 241 = .ok (.lstore 9, 2) := by decide +kernel
theorem dX7_drops_243 : decode cX7_drops 243 = .ok (.lload 7, 2) := by decide +kernel
theorem dX7_drops_245 : decode cX7_drops 245 = .ok (.lstore 11, 2) := by decide +kernel
theorem dX7_drops_247 : decode cX7_drops 247 = .ok (.lload 11, 2) := by decide +kernel
theorem dX7_drops_249 : decode cX7_drops 249 = .ok (.lconst 0, 1) := by decide +kernel
theorem dX7_drops_250 : decode cX7_drops 250 = .ok (.lcmp, 1) := by decide +kernel
theorem dX7_drops_251 : decode cX7_drops 251 = .ok (.ifCond .eq 21, 3) := by decide +kernel
theorem dX7_drops_254 : decode cX7_drops 254 = .ok (.lload 9, 2) := by decide +kernel
theorem dX7_drops_256 : decode cX7_drops 256 = .ok (.lload 11, 2) := by decide +kernel
theorem dX7_drops_258 : decode cX7_drops 258 = .ok (.lrem, 1) := by decide +kernel
theorem dX7_drops_259 : decode cX7_drops 259 = .ok (.lstore 13, 2) := by decide +kernel
theorem dX7_drops_261 : decode cX7_drops 261 = .ok (.lload 11, 2) := by decide +kernel
theorem dX7_drops_263 : decode cX7_drops 263 = .ok (.lstore 9, 2) := by decide +kernel
theorem dX7_drops_265 : decode cX7_drops 265 = .ok (.lload 13, 2) := by decide +kernel
theorem dX7_drops_267 : decode cX7_drops 267 = .ok (.lstore 11, 2) := by decide +kernel
theorem dX7_drops_269 : decode cX7_drops 269 = .ok (.goto (-22), 3) := by decide +kernel
theorem dX7_drops_272 : decode cX7_drops 272 = .ok (.iload 4, 2) := by decide +kernel
theorem dX7_drops_274 : decode cX7_drops 274 = .ok (.ifCond .ne 11, 3) := by decide +kernel
theorem dX7_drops_277 : decode cX7_drops 277 = .ok (.lload 5, 2) := by decide +kernel
theorem dX7_drops_279 : decode cX7_drops 279 = .ok (.lload 9, 2) := by decide +kernel
theorem dX7_drops_281 : decode cX7_drops 281 = .ok (.ldiv, 1) := by decide +kernel
theorem dX7_drops_282 : decode cX7_drops 282 = .ok (.goto 8, 3) := by decide +kernel
theorem dX7_drops_285 : decode cX7_drops 285 = .ok (.lload 7, 2) := by decide +kernel
theorem dX7_drops_287 : decode cX7_drops 287 = .ok (.lload 9, 2) := by decide +kernel
theorem dX7_drops_289 : decode cX7_drops 289 = .ok (.ldiv, 1) := by decide +kernel
theorem dX7_drops_290 : decode cX7_drops 290 = .ok (.l2i, 1) := by decide +kernel
theorem dX7_drops_291 : decode cX7_drops 291 = .ok (.ireturn, 1) := by decide +kernel
theorem dX7_drawn_0 : decode cX7_drawn 0 = .ok (.aload_n 0, 1) := by decide +kernel
theorem dX7_drawn_1 : decode cX7_drawn 1 = .ok (.invokevirtual 142, 3) := by decide +kernel
theorem dX7_drawn_4 : decode cX7_drawn 4 = .ok (.ifCond .ne 6, 3) := by decide +kernel
theorem dX7_drawn_7 : decode cX7_drawn 7 = .ok (.ldc 145, 2) := by decide +kernel
theorem dX7_drawn_9 : decode cX7_drawn 9 = .ok (.ireturn, 1) := by decide +kernel
theorem dX7_drawn_10 : decode cX7_drawn 10 = .ok (.iload_n 1, 1) := by decide +kernel
theorem dX7_drawn_11 : decode cX7_drawn 11 = .ok (.i2l, 1) := by decide +kernel
theorem dX7_drawn_12 : decode cX7_drawn 12 = .ok (.lconst 0, 1) := by decide +kernel
theorem dX7_drawn_13 : decode cX7_drawn 13 = .ok (.ldc2_w 165, 3) := by decide +kernel
theorem dX7_drawn_16 : decode cX7_drawn 16 = .ok (.invokestatic 38, 3) := by decide +kernel
theorem dX7_drawn_19 : decode cX7_drawn 19 = .ok (.ifCond .eq 25, 3) := by decide +kernel
theorem dX7_drawn_22 : decode cX7_drawn 22 = .ok (.iload_n 2, 1) := by decide +kernel
theorem dX7_drawn_23 : decode cX7_drawn 23 = .ok (.i2l, 1) := by decide +kernel
theorem dX7_drawn_24 : decode cX7_drawn 24 = .ok (.lconst 1, 1) := by decide +kernel
theorem dX7_drawn_25 : decode cX7_drawn 25 = .ok (.ldc2_w 200, 3) := by decide +kernel
theorem dX7_drawn_28 : decode cX7_drawn 28 = .ok (.invokestatic 38, 3) := by decide +kernel
theorem dX7_drawn_31 : decode cX7_drawn 31 = .ok (.ifCond .eq 13, 3) := by decide +kernel
theorem dX7_drawn_34 : decode cX7_drawn 34 = .ok (.iload_n 3, 1) := by decide +kernel
theorem dX7_drawn_35 : decode cX7_drawn 35 = .ok (.i2l, 1) := by decide +kernel
theorem dX7_drawn_36 : decode cX7_drawn 36 = .ok (.lconst 0, 1) := by decide +kernel
theorem dX7_drawn_37 : decode cX7_drawn 37 = .ok (.lconst 1, 1) := by decide +kernel
theorem dX7_drawn_38 : decode cX7_drawn 38 = .ok (.invokestatic 38, 3) := by decide +kernel
theorem dX7_drawn_41 : decode cX7_drawn 41 = .ok (.ifCond .ne 6, 3) := by decide +kernel
theorem dX7_drawn_44 : decode cX7_drawn 44 = .ok (.ldc 55, 2) := by decide +kernel
theorem dX7_drawn_46 : decode cX7_drawn 46 = .ok (.ireturn, 1) := by decide +kernel
theorem dX7_drawn_47 : decode cX7_drawn 47 = .ok (.aload_n 0, 1) := by decide +kernel
theorem dX7_drawn_48 : decode cX7_drawn 48 = .ok (.invokevirtual 167, 3) := by decide +kernel
theorem dX7_drawn_51 : decode cX7_drawn 51 = .ok (.aload_n 0, 1) := by decide +kernel
theorem dX7_drawn_52 : decode cX7_drawn 52 = .ok (.getfield 7, 3) := by decide +kernel
theorem dX7_drawn_55 : decode cX7_drawn 55 = .ok (.bipush 43, 2) := by decide +kernel
theorem dX7_drawn_57 : decode cX7_drawn 57 = .ok (.iconst 0, 1) := by decide +kernel
theorem dX7_drawn_58 : decode cX7_drawn 58 = .ok (.iastore, 1) := by decide +kernel
theorem dX7_drawn_59 : decode cX7_drawn 59 = .ok (.iload_n 2, 1) := by decide +kernel
theorem dX7_drawn_60 : decode cX7_drawn 60 = .ok (.i2l, 1) := by decide +kernel
theorem dX7_drawn_61 : decode cX7_drawn 61 = .ok (.lstore 4, 2) := by decide +kernel
theorem dX7_drawn_63 : decode cX7_drawn 63 = .ok (.iconst 0, 1) := by decide +kernel
theorem dX7_drawn_64 : decode cX7_drawn 64 = .ok (.istore 6, 2) := by decide +kernel
theorem dX7_drawn_66 : decode cX7_drawn 66 = .ok (.iload 6, 2) := by decide +kernel
theorem dX7_drawn_68 : decode cX7_drawn 68 = .ok (.iload_n 1, 1) := by decide +kernel
theorem dX7_drawn_69 : decode cX7_drawn 69 = .ok (.if_icmp .ge 98, 3) := by decide +kernel
theorem dX7_drawn_72 : decode cX7_drawn 72 = .ok (.lload 4, 2) := by decide +kernel
theorem dX7_drawn_74 : decode cX7_drawn 74 = .ok (.ldc2_w 202, 3) := by decide +kernel
theorem dX7_drawn_77 : decode cX7_drawn 77 = .ok (.lmul, 1) := by decide +kernel
theorem dX7_drawn_78 : decode cX7_drawn 78 = .ok (.ldc2_w 204, 3) := by decide +kernel
theorem dX7_drawn_81 : decode cX7_drawn 81 = .ok (.lrem, 1) := by decide +kernel
theorem dX7_drawn_82 : decode cX7_drawn 82 = .ok (.lstore 4, 2) := by decide +kernel
theorem dX7_drawn_84 : decode cX7_drawn 84 = .ok (.lload 4, 2) := by decide +kernel
theorem dX7_drawn_86 : decode cX7_drawn 86 = .ok (.aload_n 0, 1) := by decide +kernel
theorem dX7_drawn_87 : decode cX7_drawn 87 = .ok (.getfield 7, 3) := by decide +kernel
theorem dX7_drawn_90 : decode cX7_drawn 90 = .ok (.iconst 0, 1) := by decide +kernel
theorem dX7_drawn_91 : decode cX7_drawn 91 = .ok (.iaload, 1) := by decide +kernel
theorem dX7_drawn_92 : decode cX7_drawn 92 = .ok (.i2l, 1) := by decide +kernel
theorem dX7_drawn_93 : decode cX7_drawn 93 = .ok (.lrem, 1) := by decide +kernel
theorem dX7_drawn_94 : decode cX7_drawn 94 = .ok (.l2i, 1) := by decide +kernel
theorem dX7_drawn_95 : decode cX7_drawn 95 = .ok (.istore 7, 2) := by decide +kernel
theorem dX7_drawn_97 : decode cX7_drawn 97 = .ok (.lload 4, 2) := by decide +kernel
theorem dX7_drawn_99 : decode cX7_drawn 99 = .ok (.ldc2_w 161, 3) := by decide +kernel
theorem dX7_drawn_102 : decode cX7_drawn 102 = .ok (.lrem, 1) := by decide +kernel
theorem dX7_drawn_103 : decode cX7_drawn 103 = .ok (.lconst 0, 1) := by decide +kernel
theorem dX7_drawn_104 : decode cX7_drawn 104 = .ok (.lcmp, 1) := by decide +kernel
theorem dX7_drawn_105 : decode cX7_drawn 105 = .ok (.ifCond .ne 27, 3) := by decide +kernel
theorem dX7_drawn_108 : decode cX7_drawn 108 = .ok (.aload_n 0, 1) := by decide +kernel
theorem dX7_drawn_109 : decode cX7_drawn 109 = .ok (.getfield 7, 3) := by decide +kernel
theorem dX7_drawn_112 : decode cX7_drawn 112 = .ok (.bipush 68, 2) := by decide +kernel
theorem dX7_drawn_114 : decode cX7_drawn 114 = .ok (.lload 4, 2) := by decide +kernel
theorem dX7_drawn_116 : decode cX7_drawn 116 = .ok (.aload_n 0, 1) := by decide +kernel
theorem dX7_drawn_117 : decode cX7_drawn 117 = .ok (.getfield 7, 3) := by decide +kernel
theorem dX7_drawn_120 : decode cX7_drawn 120 = .ok (.iconst 1, 1) := by decide +kernel
theorem dX7_drawn_121 : decode cX7_drawn 121 = .ok (.iaload, 1) := by decide +kernel
theorem dX7_drawn_122 : decode cX7_drawn 122 = .ok (.i2l, 1) := by decide +kernel
theorem dX7_drawn_123 : decode cX7_drawn 123 = .ok (.lrem, 1) := by decide +kernel
theorem dX7_drawn_124 : decode cX7_drawn 124 = .ok (.l2i, 1) := by decide +kernel
theorem dX7_drawn_125 : decode cX7_drawn 125 = .ok (.iadd, 1) := by decide +kernel
theorem dX7_drawn_126 : decode cX7_drawn 126 = .ok (.iload 7, 2) := by decide +kernel
theorem dX7_drawn_128 : decode cX7_drawn 128 = .ok (.iastore, 1) := by decide +kernel
theorem dX7_drawn_129 : decode cX7_drawn 129 = .ok (.goto 26, 3) := by decide +kernel
theorem dX7_drawn_132 : decode cX7_drawn 132 = .ok (.lload 4, 2) := by decide +kernel
theorem dX7_drawn_134 : decode cX7_drawn 134 = .ok (.ldc2_w 206, 3) := by decide +kernel
theorem dX7_drawn_137 : decode cX7_drawn 137 = .ok (.lrem, 1) := by decide +kernel
theorem dX7_drawn_138 : decode cX7_drawn 138 = .ok (.lconst 0, 1) := by decide +kernel
theorem dX7_drawn_139 : decode cX7_drawn 139 = .ok (.lcmp, 1) := by decide +kernel
theorem dX7_drawn_140 : decode cX7_drawn 140 = .ok (.ifCond .ne 15, 3) := by decide +kernel
theorem dX7_drawn_143 : decode cX7_drawn 143 = .ok (.aload_n 0, 1) := by decide +kernel
theorem dX7_drawn_144 : decode cX7_drawn 144 = .ok (.getfield 7, 3) := by decide +kernel
theorem dX7_drawn_147 : decode cX7_drawn 147 = .ok (.bipush 60, 2) := by decide +kernel
theorem dX7_drawn_149 : decode cX7_drawn 149 = .ok (.iload 7, 2) := by decide +kernel
theorem dX7_drawn_151 : decode cX7_drawn 151 = .ok (.iadd, 1) := by decide +kernel
theorem dX7_drawn_152 : decode cX7_drawn 152 = .ok (.bipush 60, 2) := by decide +kernel
theorem dX7_drawn_154 : decode cX7_drawn 154 = .ok (.iastore, 1) := by decide +kernel
theorem dX7_drawn_155 : decode cX7_drawn 155 = .ok (.aload_n 0, 1) := by decide +kernel
theorem dX7_drawn_156 : decode cX7_drawn 156 = .ok (.bipush 38, 2) := by decide +kernel
theorem dX7_drawn_158 : decode cX7_drawn 158 = .ok (.invokevirtual 151, 3) := by decide +kernel
theorem dX7_drawn_161 : decode cX7_drawn 161 = .ok (.iinc 6 1, 3) := by decide +kernel
theorem dX7_drawn_164 : decode cX7_drawn 164 = .ok (.goto (-98), 3) := by decide +kernel
theorem dX7_drawn_167 : decode cX7_drawn 167 = .ok (.iload_n 3, 1) := by decide +kernel
theorem dX7_drawn_168 : decode cX7_drawn 168 = .ok (.ifCond .ne 13, 3) := by decide +kernel
theorem dX7_drawn_171 : decode cX7_drawn 171 = .ok (.aload_n 0, 1) := by decide +kernel
theorem dX7_drawn_172 : decode cX7_drawn 172 = .ok (.getfield 7, 3) := by decide +kernel
theorem dX7_drawn_175 : decode cX7_drawn 175 = .ok (.bipush 43, 2) := by decide +kernel
theorem dX7_drawn_177 : decode cX7_drawn 177 = .ok (.iaload, 1) := by decide +kernel
theorem dX7_drawn_178 : decode cX7_drawn 178 = .ok (.goto 12, 3) := by decide +kernel
theorem dX7_drawn_181 : decode cX7_drawn 181 = .ok (.aload_n 0, 1) := by decide +kernel
theorem dX7_drawn_182 : decode cX7_drawn 182 = .ok (.bipush 38, 2) := by decide +kernel
theorem dX7_drawn_184 : decode cX7_drawn 184 = .ok (.invokevirtual 155, 3) := by decide +kernel
theorem dX7_drawn_187 : decode cX7_drawn 187 = .ok (.invokestatic 182, 3) := by decide +kernel
theorem dX7_drawn_190 : decode cX7_drawn 190 = .ok (.ireturn, 1) := by decide +kernel
theorem dX7_image_0 : decode cX7_image 0 = .ok (.iload_n 1, 1) := by decide +kernel
theorem dX7_image_1 : decode cX7_image 1 = .ok (.i2l, 1) := by decide +kernel
theorem dX7_image_2 : decode cX7_image 2 = .ok (.lconst 0, 1) := by decide +kernel
theorem dX7_image_3 : decode cX7_image 3 = .ok (.lconst 1, 1) := by decide +kernel
theorem dX7_image_4 : decode cX7_image 4 = .ok (.invokestatic 38, 3) := by decide +kernel
theorem dX7_image_7 : decode cX7_image 7 = .ok (.ifCond .ne 6, 3) := by decide +kernel
theorem dX7_image_10 : decode cX7_image 10 = .ok (.ldc 55, 2) := by decide +kernel
theorem dX7_image_12 : decode cX7_image 12 = .ok (.ireturn, 1) := by decide +kernel
theorem dX7_image_13 : decode cX7_image 13 = .ok (.aload_n 0, 1) := by decide +kernel
theorem dX7_image_14 : decode cX7_image 14 = .ok (.invokevirtual 142, 3) := by decide +kernel
theorem dX7_image_17 : decode cX7_image 17 = .ok (.ifCond .ne 6, 3) := by decide +kernel
theorem dX7_image_20 : decode cX7_image 20 = .ok (.ldc 145, 2) := by decide +kernel
theorem dX7_image_22 : decode cX7_image 22 = .ok (.ireturn, 1) := by decide +kernel
theorem dX7_image_23 : decode cX7_image 23 = .ok (.aload_n 0, 1) := by decide +kernel
theorem dX7_image_24 : decode cX7_image 24 = .ok (.iconst 0, 1) := by decide +kernel
theorem dX7_image_25 : decode cX7_image 25 = .ok (.bipush 76, 2) := by decide +kernel
theorem dX7_image_27 : decode cX7_image 27 = .ok (.bipush 38, 2) := by decide +kernel
theorem dX7_image_29 : decode cX7_image 29 = .ok (.iload_n 1, 1) := by decide +kernel
theorem dX7_image_30 : decode cX7_image 30 = .ok (.imul, 1) := by decide +kernel
theorem dX7_image_31 : decode cX7_image 31 = .ok (.iadd, 1) := by decide +kernel
theorem dX7_image_32 : decode cX7_image 32 = .ok (.invokevirtual 117, 3) := by decide +kernel
theorem dX7_image_35 : decode cX7_image 35 = .ok (.aload_n 0, 1) := by decide +kernel
theorem dX7_image_36 : decode cX7_image 36 = .ok (.getfield 31, 3) := by decide +kernel
theorem dX7_image_39 : decode cX7_image 39 = .ok (.iload_n 1, 1) := by decide +kernel
theorem dX7_image_40 : decode cX7_image 40 = .ok (.iconst 1, 1) := by decide +kernel
theorem dX7_image_41 : decode cX7_image 41 = .ok (.bastore, 1) := by decide +kernel
theorem dX7_image_42 : decode cX7_image 42 = .ok (.iconst 1, 1) := by decide +kernel
theorem dX7_image_43 : decode cX7_image 43 = .ok (.ireturn, 1) := by decide +kernel
theorem dX7_restore_0 : decode cX7_restore 0 = .ok (.iload_n 1, 1) := by decide +kernel
theorem dX7_restore_1 : decode cX7_restore 1 = .ok (.i2l, 1) := by decide +kernel
theorem dX7_restore_2 : decode cX7_restore 2 = .ok (.lconst 0, 1) := by decide +kernel
theorem dX7_restore_3 : decode cX7_restore 3 = .ok (.lconst 1, 1) := by decide +kernel
theorem dX7_restore_4 : decode cX7_restore 4 = .ok (.invokestatic 38, 3) := by decide +kernel
theorem dX7_restore_7 : decode cX7_restore 7 = .ok (.ifCond .ne 6, 3) := by decide +kernel
theorem dX7_restore_10 : decode cX7_restore 10 = .ok (.ldc 55, 2) := by decide +kernel
theorem dX7_restore_12 : decode cX7_restore 12 = .ok (.ireturn, 1) := by decide +kernel
theorem dX7_restore_13 : decode cX7_restore 13 = .ok (.aload_n 0, 1) := by decide +kernel
theorem dX7_restore_14 : decode cX7_restore 14 = .ok (.getfield 31, 3) := by decide +kernel
theorem dX7_restore_17 : decode cX7_restore 17 = .ok (.iload_n 1, 1) := by decide +kernel
theorem dX7_restore_18 : decode cX7_restore 18 = .ok (.baload, 1) := by decide +kernel
theorem dX7_restore_19 : decode cX7_restore 19 = .ok (.ifCond .ne 6, 3) := by decide +kernel
theorem dX7_restore_22 : decode cX7_restore 22 = .ok (.ldc 145, 2) := by decide +kernel
theorem dX7_restore_24 : decode cX7_restore 24 = .ok (.ireturn, 1) := by decide +kernel
theorem dX7_restore_25 : decode cX7_restore 25 = .ok (.aload_n 0, 1) := by decide +kernel
theorem dX7_restore_26 : decode cX7_restore 26 = .ok (.bipush 76, 2) := by decide +kernel
theorem dX7_restore_28 : decode cX7_restore 28 = .ok (.bipush 38, 2) := by decide +kernel
theorem dX7_restore_30 : decode cX7_restore 30 = .ok (.iload_n 1, 1) := by decide +kernel
theorem dX7_restore_31 : decode cX7_restore 31 = .ok (.imul, 1) := by decide +kernel
theorem dX7_restore_32 : decode cX7_restore 32 = .ok (.iadd, 1) := by decide +kernel
theorem dX7_restore_33 : decode cX7_restore 33 = .ok (.iconst 0, 1) := by decide +kernel
theorem dX7_restore_34 : decode cX7_restore 34 = .ok (.invokevirtual 117, 3) := by decide +kernel
theorem dX7_restore_37 : decode cX7_restore 37 = .ok (.aload_n 0, 1) := by decide +kernel
theorem dX7_restore_38 : decode cX7_restore 38 = .ok (.iconst 0, 1) := by decide +kernel
theorem dX7_restore_39 : decode cX7_restore 39 = .ok (.putfield 121, 3) := by decide +kernel
theorem dX7_restore_42 : decode cX7_restore 42 = .ok (.iconst 1, 1) := by decide +kernel
theorem dX7_restore_43 : decode cX7_restore 43 = .ok (.ireturn, 1) := by decide +kernel
theorem dX7_kind_0 : decode cX7_kind 0 = .ok (.aload_n 0, 1) := by decide +kernel
theorem dX7_kind_1 : decode cX7_kind 1 = .ok (.iload_n 1, 1) := by decide +kernel
theorem dX7_kind_2 : decode cX7_kind 2 = .ok (.invokevirtual 158, 3) := by decide +kernel
theorem dX7_kind_5 : decode cX7_kind 5 = .ok (.ifCond .eq 15, 3) := by decide +kernel
theorem dX7_kind_8 : decode cX7_kind 8 = .ok (.aload_n 0, 1) := by decide +kernel
theorem dX7_kind_9 : decode cX7_kind 9 = .ok (.getfield 7, 3) := by decide +kernel
theorem dX7_kind_12 : decode cX7_kind 12 = .ok (.bipush 6, 2) := by decide +kernel
theorem dX7_kind_14 : decode cX7_kind 14 = .ok (.iload_n 1, 1) := by decide +kernel
theorem dX7_kind_15 : decode cX7_kind 15 = .ok (.iadd, 1) := by decide +kernel
theorem dX7_kind_16 : decode cX7_kind 16 = .ok (.iaload, 1) := by decide +kernel
theorem dX7_kind_17 : decode cX7_kind 17 = .ok (.goto 5, 3) := by decide +kernel
theorem dX7_kind_20 : decode cX7_kind 20 = .ok (.ldc 55, 2) := by decide +kernel
theorem dX7_kind_22 : decode cX7_kind 22 = .ok (.ireturn, 1) := by decide +kernel
theorem dX7_isA_0 : decode cX7_isA 0 = .ok (.iload_n 1, 1) := by decide +kernel
theorem dX7_isA_1 : decode cX7_isA 1 = .ok (.ifCond .eq 33, 3) := by decide +kernel
theorem dX7_isA_4 : decode cX7_isA 4 = .ok (.iload_n 1, 1) := by decide +kernel
theorem dX7_isA_5 : decode cX7_isA 5 = .ok (.iload_n 0, 1) := by decide +kernel
theorem dX7_isA_6 : decode cX7_isA 6 = .ok (.if_icmp .eq 28, 3) := by decide +kernel
theorem dX7_isA_9 : decode cX7_isA 9 = .ok (.iload_n 1, 1) := by decide +kernel
theorem dX7_isA_10 : decode cX7_isA 10 = .ok (.iconst 1, 1) := by decide +kernel
theorem dX7_isA_11 : decode cX7_isA 11 = .ok (.if_icmp .ne 13, 3) := by decide +kernel
theorem dX7_isA_14 : decode cX7_isA 14 = .ok (.iload_n 0, 1) := by decide +kernel
theorem dX7_isA_15 : decode cX7_isA 15 = .ok (.iconst 2, 1) := by decide +kernel
theorem dX7_isA_16 : decode cX7_isA 16 = .ok (.if_icmp .eq 18, 3) := by decide +kernel
theorem dX7_isA_19 : decode cX7_isA 19 = .ok (.iload_n 0, 1) := by decide +kernel
theorem dX7_isA_20 : decode cX7_isA 20 = .ok (.iconst 3, 1) := by decide +kernel
theorem dX7_isA_21 : decode cX7_isA 21 = .ok (.if_icmp .eq 13, 3) := by decide +kernel
theorem dX7_isA_24 : decode cX7_isA 24 = .ok (.iload_n 1, 1) := by decide +kernel
theorem dX7_isA_25 : decode cX7_isA 25 = .ok (.iconst 4, 1) := by decide +kernel
theorem dX7_isA_26 : decode cX7_isA 26 = .ok (.if_icmp .ne 12, 3) := by decide +kernel
theorem dX7_isA_29 : decode cX7_isA 29 = .ok (.iload_n 0, 1) := by decide +kernel
theorem dX7_isA_30 : decode cX7_isA 30 = .ok (.iconst 5, 1) := by decide +kernel
theorem dX7_isA_31 : decode cX7_isA 31 = .ok (.if_icmp .ne 7, 3) := by decide +kernel
theorem dX7_isA_34 : decode cX7_isA 34 = .ok (.iconst 1, 1) := by decide +kernel
theorem dX7_isA_35 : decode cX7_isA 35 = .ok (.goto 4, 3) := by decide +kernel
theorem dX7_isA_38 : decode cX7_isA 38 = .ok (.iconst 0, 1) := by decide +kernel
theorem dX7_isA_39 : decode cX7_isA 39 = .ok (.ireturn, 1) := by decide +kernel
theorem dX7_as_0 : decode cX7_as 0 = .ok (.aload_n 0, 1) := by decide +kernel
theorem dX7_as_1 : decode cX7_as 1 = .ok (.iload_n 1, 1) := by decide +kernel
theorem dX7_as_2 : decode cX7_as 2 = .ok (.invokevirtual 158, 3) := by decide +kernel
theorem dX7_as_5 : decode cX7_as 5 = .ok (.ifCond .eq 15, 3) := by decide +kernel
theorem dX7_as_8 : decode cX7_as 8 = .ok (.iload_n 2, 1) := by decide +kernel
theorem dX7_as_9 : decode cX7_as 9 = .ok (.i2l, 1) := by decide +kernel
theorem dX7_as_10 : decode cX7_as 10 = .ok (.lconst 0, 1) := by decide +kernel
theorem dX7_as_11 : decode cX7_as 11 = .ok (.ldc2_w 206, 3) := by decide +kernel
theorem dX7_as_14 : decode cX7_as 14 = .ok (.invokestatic 38, 3) := by decide +kernel
theorem dX7_as_17 : decode cX7_as 17 = .ok (.ifCond .ne 6, 3) := by decide +kernel
theorem dX7_as_20 : decode cX7_as 20 = .ok (.ldc 55, 2) := by decide +kernel
theorem dX7_as_22 : decode cX7_as 22 = .ok (.ireturn, 1) := by decide +kernel
theorem dX7_as_23 : decode cX7_as 23 = .ok (.aload_n 0, 1) := by decide +kernel
theorem dX7_as_24 : decode cX7_as 24 = .ok (.getfield 7, 3) := by decide +kernel
theorem dX7_as_27 : decode cX7_as 27 = .ok (.bipush 6, 2) := by decide +kernel
theorem dX7_as_29 : decode cX7_as 29 = .ok (.iload_n 1, 1) := by decide +kernel
theorem dX7_as_30 : decode cX7_as 30 = .ok (.iadd, 1) := by decide +kernel
theorem dX7_as_31 : decode cX7_as 31 = .ok (.iaload, 1) := by decide +kernel
theorem dX7_as_32 : decode cX7_as 32 = .ok (.iload_n 2, 1) := by decide +kernel
theorem dX7_as_33 : decode cX7_as 33 = .ok (.invokestatic 208, 3) := by decide +kernel
theorem dX7_as_36 : decode cX7_as 36 = .ok (.ifCond .ne 9, 3) := by decide +kernel
theorem dX7_as_39 : decode cX7_as 39 = .ok (.aload_n 0, 1) := by decide +kernel
theorem dX7_as_40 : decode cX7_as 40 = .ok (.iconst 3, 1) := by decide +kernel
theorem dX7_as_41 : decode cX7_as 41 = .ok (.invokevirtual 56, 3) := by decide +kernel
theorem dX7_as_44 : decode cX7_as 44 = .ok (.ireturn, 1) := by decide +kernel
theorem dX7_as_45 : decode cX7_as 45 = .ok (.aload_n 0, 1) := by decide +kernel
theorem dX7_as_46 : decode cX7_as 46 = .ok (.iconst 0, 1) := by decide +kernel
theorem dX7_as_47 : decode cX7_as 47 = .ok (.putfield 44, 3) := by decide +kernel
theorem dX7_as_50 : decode cX7_as 50 = .ok (.iload_n 1, 1) := by decide +kernel
theorem dX7_as_51 : decode cX7_as 51 = .ok (.ireturn, 1) := by decide +kernel
theorem dX7_traces_0 : decode cX7_traces 0 = .ok (.aload_n 0, 1) := by decide +kernel
theorem dX7_traces_1 : decode cX7_traces 1 = .ok (.getfield 211, 3) := by decide +kernel
theorem dX7_traces_4 : decode cX7_traces 4 = .ok (.bipush 16, 2) := by decide +kernel
theorem dX7_traces_6 : decode cX7_traces 6 = .ok (.if_icmp .ge 23, 3) := by decide +kernel
theorem dX7_traces_9 : decode cX7_traces 9 = .ok (.aload_n 0, 1) := by decide +kernel
theorem dX7_traces_10 : decode cX7_traces 10 = .ok (.getfield 35, 3) := by decide +kernel
theorem dX7_traces_13 : decode cX7_traces 13 = .ok (.aload_n 0, 1) := by decide +kernel
theorem dX7_traces_14 : decode cX7_traces 14 = .ok (.getfield 211, 3) := by decide +kernel
theorem dX7_traces_17 : decode cX7_traces 17 = .ok (.iload_n 1, 1) := by decide +kernel
theorem dX7_traces_18 : decode cX7_traces 18 = .ok (.iastore, 1) := by decide +kernel
theorem dX7_traces_19 : decode cX7_traces 19 = .ok (.aload_n 0, 1) := by decide +kernel
theorem dX7_traces_20 : decode cX7_traces 20 = .ok (.dup, 1) := by decide +kernel
theorem dX7_traces_21 : decode cX7_traces 21 = .ok (.getfield 211, 3) := by decide +kernel
theorem dX7_traces_24 : decode cX7_traces 24 = .ok (.iconst 1, 1) := by decide +kernel
theorem dX7_traces_25 : decode cX7_traces 25 = .ok (.iadd, 1) := by decide +kernel
theorem dX7_traces_26 : decode cX7_traces 26 = .ok (.putfield 211, 3) := by decide +kernel
theorem dX7_traces_29 : decode cX7_traces 29 = .ok (.return_, 1) := by decide +kernel
theorem dX7_size10_0 : decode cX7_size10 0 = .ok (.aload_n 0, 1) := by decide +kernel
theorem dX7_size10_1 : decode cX7_size10 1 = .ok (.bipush 10, 2) := by decide +kernel
theorem dX7_size10_3 : decode cX7_size10 3 = .ok (.invokevirtual 214, 3) := by decide +kernel
theorem dX7_size10_6 : decode cX7_size10 6 = .ok (.aload_n 0, 1) := by decide +kernel
theorem dX7_size10_7 : decode cX7_size10 7 = .ok (.getfield 7, 3) := by decide +kernel
theorem dX7_size10_10 : decode cX7_size10 10 = .ok (.bipush 22, 2) := by decide +kernel
theorem dX7_size10_12 : decode cX7_size10 12 = .ok (.iload_n 1, 1) := by decide +kernel
theorem dX7_size10_13 : decode cX7_size10 13 = .ok (.iadd, 1) := by decide +kernel
theorem dX7_size10_14 : decode cX7_size10 14 = .ok (.iaload, 1) := by decide +kernel
theorem dX7_size10_15 : decode cX7_size10 15 = .ok (.ireturn, 1) := by decide +kernel
theorem dX7_size11_0 : decode cX7_size11 0 = .ok (.aload_n 0, 1) := by decide +kernel
theorem dX7_size11_1 : decode cX7_size11 1 = .ok (.bipush 11, 2) := by decide +kernel
theorem dX7_size11_3 : decode cX7_size11 3 = .ok (.invokevirtual 214, 3) := by decide +kernel
theorem dX7_size11_6 : decode cX7_size11 6 = .ok (.aload_n 0, 1) := by decide +kernel
theorem dX7_size11_7 : decode cX7_size11 7 = .ok (.iload_n 1, 1) := by decide +kernel
theorem dX7_size11_8 : decode cX7_size11 8 = .ok (.invokevirtual 217, 3) := by decide +kernel
theorem dX7_size11_11 : decode cX7_size11 11 = .ok (.istore_n 2, 1) := by decide +kernel
theorem dX7_size11_12 : decode cX7_size11 12 = .ok (.iload_n 2, 1) := by decide +kernel
theorem dX7_size11_13 : decode cX7_size11 13 = .ok (.aload_n 0, 1) := by decide +kernel
theorem dX7_size11_14 : decode cX7_size11 14 = .ok (.iload_n 1, 1) := by decide +kernel
theorem dX7_size11_15 : decode cX7_size11 15 = .ok (.invokevirtual 220, 3) := by decide +kernel
theorem dX7_size11_18 : decode cX7_size11 18 = .ok (.iadd, 1) := by decide +kernel
theorem dX7_size11_19 : decode cX7_size11 19 = .ok (.ireturn, 1) := by decide +kernel
theorem dX7_size13_0 : decode cX7_size13 0 = .ok (.aload_n 0, 1) := by decide +kernel
theorem dX7_size13_1 : decode cX7_size13 1 = .ok (.bipush 13, 2) := by decide +kernel
theorem dX7_size13_3 : decode cX7_size13 3 = .ok (.invokevirtual 214, 3) := by decide +kernel
theorem dX7_size13_6 : decode cX7_size13 6 = .ok (.aload_n 0, 1) := by decide +kernel
theorem dX7_size13_7 : decode cX7_size13 7 = .ok (.iload_n 1, 1) := by decide +kernel
theorem dX7_size13_8 : decode cX7_size13 8 = .ok (.invokevirtual 217, 3) := by decide +kernel
theorem dX7_size13_11 : decode cX7_size13 11 = .ok (.bipush 100, 2) := by decide +kernel
theorem dX7_size13_13 : decode cX7_size13 13 = .ok (.isub, 1) := by decide +kernel
theorem dX7_size13_14 : decode cX7_size13 14 = .ok (.ireturn, 1) := by decide +kernel
theorem dX7_sizeOf_0 : decode cX7_sizeOf 0 = .ok (.aload_n 0, 1) := by decide +kernel
theorem dX7_sizeOf_1 : decode cX7_sizeOf 1 = .ok (.getfield 7, 3) := by decide +kernel
theorem dX7_sizeOf_4 : decode cX7_sizeOf 4 = .ok (.bipush 6, 2) := by decide +kernel
theorem dX7_sizeOf_6 : decode cX7_sizeOf 6 = .ok (.iload_n 1, 1) := by decide +kernel
theorem dX7_sizeOf_7 : decode cX7_sizeOf 7 = .ok (.iadd, 1) := by decide +kernel
theorem dX7_sizeOf_8 : decode cX7_sizeOf 8 = .ok (.iaload, 1) := by decide +kernel
theorem dX7_sizeOf_9 : decode cX7_sizeOf 9 = .ok (.tableswitch 64 2 5 #[31, 64, 44, 50], 31) := by decide +kernel
theorem dX7_sizeOf_40 : decode cX7_sizeOf 40 = .ok (.aload_n 0, 1) := by decide +kernel
theorem dX7_sizeOf_41 : decode cX7_sizeOf 41 = .ok (.bipush 12, 2) := by decide +kernel
theorem dX7_sizeOf_43 : decode cX7_sizeOf 43 = .ok (.invokevirtual 214, 3) := by decide +kernel
theorem dX7_sizeOf_46 : decode cX7_sizeOf 46 = .ok (.aload_n 0, 1) := by decide +kernel
theorem dX7_sizeOf_47 : decode cX7_sizeOf 47 = .ok (.iload_n 1, 1) := by decide +kernel
theorem dX7_sizeOf_48 : decode cX7_sizeOf 48 = .ok (.invokevirtual 223, 3) := by decide +kernel
theorem dX7_sizeOf_51 : decode cX7_sizeOf 51 = .ok (.ineg, 1) := by decide +kernel
theorem dX7_sizeOf_52 : decode cX7_sizeOf 52 = .ok (.ireturn, 1) := by decide +kernel
theorem dX7_sizeOf_53 : decode cX7_sizeOf 53 = .ok (.aload_n 0, 1) := by decide +kernel
theorem dX7_sizeOf_54 : decode cX7_sizeOf 54 = .ok (.iload_n 1, 1) := by decide +kernel
theorem dX7_sizeOf_55 : decode cX7_sizeOf 55 = .ok (.invokevirtual 226, 3) := by decide +kernel
theorem dX7_sizeOf_58 : decode cX7_sizeOf 58 = .ok (.ireturn, 1) := by decide +kernel
theorem dX7_sizeOf_59 : decode cX7_sizeOf 59 = .ok (.aload_n 0, 1) := by decide +kernel
theorem dX7_sizeOf_60 : decode cX7_sizeOf 60 = .ok (.bipush 14, 2) := by decide +kernel
theorem dX7_sizeOf_62 : decode cX7_sizeOf 62 = .ok (.invokevirtual 214, 3) := by decide +kernel
theorem dX7_sizeOf_65 : decode cX7_sizeOf 65 = .ok (.iconst 2, 1) := by decide +kernel
theorem dX7_sizeOf_66 : decode cX7_sizeOf 66 = .ok (.aload_n 0, 1) := by decide +kernel
theorem dX7_sizeOf_67 : decode cX7_sizeOf 67 = .ok (.iload_n 1, 1) := by decide +kernel
theorem dX7_sizeOf_68 : decode cX7_sizeOf 68 = .ok (.invokevirtual 226, 3) := by decide +kernel
theorem dX7_sizeOf_71 : decode cX7_sizeOf 71 = .ok (.imul, 1) := by decide +kernel
theorem dX7_sizeOf_72 : decode cX7_sizeOf 72 = .ok (.ireturn, 1) := by decide +kernel
theorem dX7_sizeOf_73 : decode cX7_sizeOf 73 = .ok (.aload_n 0, 1) := by decide +kernel
theorem dX7_sizeOf_74 : decode cX7_sizeOf 74 = .ok (.iload_n 1, 1) := by decide +kernel
theorem dX7_sizeOf_75 : decode cX7_sizeOf 75 = .ok (.invokevirtual 223, 3) := by decide +kernel
theorem dX7_sizeOf_78 : decode cX7_sizeOf 78 = .ok (.ireturn, 1) := by decide +kernel
theorem dX7_mark20_0 : decode cX7_mark20 0 = .ok (.aload_n 0, 1) := by decide +kernel
theorem dX7_mark20_1 : decode cX7_mark20 1 = .ok (.bipush 20, 2) := by decide +kernel
theorem dX7_mark20_3 : decode cX7_mark20 3 = .ok (.invokevirtual 214, 3) := by decide +kernel
theorem dX7_mark20_6 : decode cX7_mark20 6 = .ok (.iload_n 1, 1) := by decide +kernel
theorem dX7_mark20_7 : decode cX7_mark20 7 = .ok (.ireturn, 1) := by decide +kernel
theorem dX7_mark21_0 : decode cX7_mark21 0 = .ok (.aload_n 0, 1) := by decide +kernel
theorem dX7_mark21_1 : decode cX7_mark21 1 = .ok (.bipush 21, 2) := by decide +kernel
theorem dX7_mark21_3 : decode cX7_mark21 3 = .ok (.invokevirtual 214, 3) := by decide +kernel
theorem dX7_mark21_6 : decode cX7_mark21 6 = .ok (.aload_n 0, 1) := by decide +kernel
theorem dX7_mark21_7 : decode cX7_mark21 7 = .ok (.iload_n 1, 1) := by decide +kernel
theorem dX7_mark21_8 : decode cX7_mark21 8 = .ok (.invokevirtual 229, 3) := by decide +kernel
theorem dX7_mark21_11 : decode cX7_mark21 11 = .ok (.aload_n 0, 1) := by decide +kernel
theorem dX7_mark21_12 : decode cX7_mark21 12 = .ok (.getfield 7, 3) := by decide +kernel
theorem dX7_mark21_15 : decode cX7_mark21 15 = .ok (.bipush 14, 2) := by decide +kernel
theorem dX7_mark21_17 : decode cX7_mark21 17 = .ok (.iload_n 1, 1) := by decide +kernel
theorem dX7_mark21_18 : decode cX7_mark21 18 = .ok (.iadd, 1) := by decide +kernel
theorem dX7_mark21_19 : decode cX7_mark21 19 = .ok (.iaload, 1) := by decide +kernel
theorem dX7_mark21_20 : decode cX7_mark21 20 = .ok (.iadd, 1) := by decide +kernel
theorem dX7_mark21_21 : decode cX7_mark21 21 = .ok (.ireturn, 1) := by decide +kernel
theorem dX7_markOf_0 : decode cX7_markOf 0 = .ok (.aload_n 0, 1) := by decide +kernel
theorem dX7_markOf_1 : decode cX7_markOf 1 = .ok (.getfield 7, 3) := by decide +kernel
theorem dX7_markOf_4 : decode cX7_markOf 4 = .ok (.bipush 6, 2) := by decide +kernel
theorem dX7_markOf_6 : decode cX7_markOf 6 = .ok (.iload_n 1, 1) := by decide +kernel
theorem dX7_markOf_7 : decode cX7_markOf 7 = .ok (.iadd, 1) := by decide +kernel
theorem dX7_markOf_8 : decode cX7_markOf 8 = .ok (.iaload, 1) := by decide +kernel
theorem dX7_markOf_9 : decode cX7_markOf 9 = .ok (.lookupswitch 57 #[(2, 27), (3, 41)], 27) := by decide +kernel
theorem dX7_markOf_36 : decode cX7_markOf 36 = .ok (.aload_n 0, 1) := by decide +kernel
theorem dX7_markOf_37 : decode cX7_markOf 37 = .ok (.bipush 24, 2) := by decide +kernel
theorem dX7_markOf_39 : decode cX7_markOf 39 = .ok (.invokevirtual 214, 3) := by decide +kernel
theorem dX7_markOf_42 : decode cX7_markOf 42 = .ok (.iconst 2, 1) := by decide +kernel
theorem dX7_markOf_43 : decode cX7_markOf 43 = .ok (.aload_n 0, 1) := by decide +kernel
theorem dX7_markOf_44 : decode cX7_markOf 44 = .ok (.iload_n 1, 1) := by decide +kernel
theorem dX7_markOf_45 : decode cX7_markOf 45 = .ok (.invokevirtual 232, 3) := by decide +kernel
theorem dX7_markOf_48 : decode cX7_markOf 48 = .ok (.imul, 1) := by decide +kernel
theorem dX7_markOf_49 : decode cX7_markOf 49 = .ok (.ireturn, 1) := by decide +kernel
theorem dX7_markOf_50 : decode cX7_markOf 50 = .ok (.aload_n 0, 1) := by decide +kernel
theorem dX7_markOf_51 : decode cX7_markOf 51 = .ok (.bipush 22, 2) := by decide +kernel
theorem dX7_markOf_53 : decode cX7_markOf 53 = .ok (.invokevirtual 214, 3) := by decide +kernel
theorem dX7_markOf_56 : decode cX7_markOf 56 = .ok (.aload_n 0, 1) := by decide +kernel
theorem dX7_markOf_57 : decode cX7_markOf 57 = .ok (.iload_n 1, 1) := by decide +kernel
theorem dX7_markOf_58 : decode cX7_markOf 58 = .ok (.invokevirtual 232, 3) := by decide +kernel
theorem dX7_markOf_61 : decode cX7_markOf 61 = .ok (.sipush 1000, 3) := by decide +kernel
theorem dX7_markOf_64 : decode cX7_markOf 64 = .ok (.isub, 1) := by decide +kernel
theorem dX7_markOf_65 : decode cX7_markOf 65 = .ok (.ireturn, 1) := by decide +kernel
theorem dX7_markOf_66 : decode cX7_markOf 66 = .ok (.aload_n 0, 1) := by decide +kernel
theorem dX7_markOf_67 : decode cX7_markOf 67 = .ok (.iload_n 1, 1) := by decide +kernel
theorem dX7_markOf_68 : decode cX7_markOf 68 = .ok (.invokevirtual 232, 3) := by decide +kernel
theorem dX7_markOf_71 : decode cX7_markOf 71 = .ok (.ireturn, 1) := by decide +kernel
theorem dX7_mark23_0 : decode cX7_mark23 0 = .ok (.aload_n 0, 1) := by decide +kernel
theorem dX7_mark23_1 : decode cX7_mark23 1 = .ok (.bipush 23, 2) := by decide +kernel
theorem dX7_mark23_3 : decode cX7_mark23 3 = .ok (.invokevirtual 214, 3) := by decide +kernel
theorem dX7_mark23_6 : decode cX7_mark23 6 = .ok (.aload_n 0, 1) := by decide +kernel
theorem dX7_mark23_7 : decode cX7_mark23 7 = .ok (.iload_n 1, 1) := by decide +kernel
theorem dX7_mark23_8 : decode cX7_mark23 8 = .ok (.invokevirtual 229, 3) := by decide +kernel
theorem dX7_mark23_11 : decode cX7_mark23 11 = .ok (.istore_n 2, 1) := by decide +kernel
theorem dX7_mark23_12 : decode cX7_mark23 12 = .ok (.iload_n 2, 1) := by decide +kernel
theorem dX7_mark23_13 : decode cX7_mark23 13 = .ok (.aload_n 0, 1) := by decide +kernel
theorem dX7_mark23_14 : decode cX7_mark23 14 = .ok (.iload_n 1, 1) := by decide +kernel
theorem dX7_mark23_15 : decode cX7_mark23 15 = .ok (.invokevirtual 235, 3) := by decide +kernel
theorem dX7_mark23_18 : decode cX7_mark23 18 = .ok (.isub, 1) := by decide +kernel
theorem dX7_mark23_19 : decode cX7_mark23 19 = .ok (.ireturn, 1) := by decide +kernel
theorem dX7_ask_0 : decode cX7_ask 0 = .ok (.aload_n 0, 1) := by decide +kernel
theorem dX7_ask_1 : decode cX7_ask 1 = .ok (.iload_n 1, 1) := by decide +kernel
theorem dX7_ask_2 : decode cX7_ask 2 = .ok (.invokevirtual 158, 3) := by decide +kernel
theorem dX7_ask_5 : decode cX7_ask 5 = .ok (.ifCond .eq 13, 3) := by decide +kernel
theorem dX7_ask_8 : decode cX7_ask 8 = .ok (.iload_n 2, 1) := by decide +kernel
theorem dX7_ask_9 : decode cX7_ask 9 = .ok (.i2l, 1) := by decide +kernel
theorem dX7_ask_10 : decode cX7_ask 10 = .ok (.lconst 0, 1) := by decide +kernel
theorem dX7_ask_11 : decode cX7_ask 11 = .ok (.lconst 1, 1) := by decide +kernel
theorem dX7_ask_12 : decode cX7_ask 12 = .ok (.invokestatic 38, 3) := by decide +kernel
theorem dX7_ask_15 : decode cX7_ask 15 = .ok (.ifCond .ne 6, 3) := by decide +kernel
theorem dX7_ask_18 : decode cX7_ask 18 = .ok (.ldc 55, 2) := by decide +kernel
theorem dX7_ask_20 : decode cX7_ask 20 = .ok (.ireturn, 1) := by decide +kernel
theorem dX7_ask_21 : decode cX7_ask 21 = .ok (.aload_n 0, 1) := by decide +kernel
theorem dX7_ask_22 : decode cX7_ask 22 = .ok (.iconst 0, 1) := by decide +kernel
theorem dX7_ask_23 : decode cX7_ask 23 = .ok (.putfield 211, 3) := by decide +kernel
theorem dX7_ask_26 : decode cX7_ask 26 = .ok (.iload_n 2, 1) := by decide +kernel
theorem dX7_ask_27 : decode cX7_ask 27 = .ok (.ifCond .ne 11, 3) := by decide +kernel
theorem dX7_ask_30 : decode cX7_ask 30 = .ok (.aload_n 0, 1) := by decide +kernel
theorem dX7_ask_31 : decode cX7_ask 31 = .ok (.iload_n 1, 1) := by decide +kernel
theorem dX7_ask_32 : decode cX7_ask 32 = .ok (.invokevirtual 235, 3) := by decide +kernel
theorem dX7_ask_35 : decode cX7_ask 35 = .ok (.goto 29, 3) := by decide +kernel
theorem dX7_ask_38 : decode cX7_ask 38 = .ok (.aload_n 0, 1) := by decide +kernel
theorem dX7_ask_39 : decode cX7_ask 39 = .ok (.getfield 7, 3) := by decide +kernel
theorem dX7_ask_42 : decode cX7_ask 42 = .ok (.bipush 6, 2) := by decide +kernel
theorem dX7_ask_44 : decode cX7_ask 44 = .ok (.iload_n 1, 1) := by decide +kernel
theorem dX7_ask_45 : decode cX7_ask 45 = .ok (.iadd, 1) := by decide +kernel
theorem dX7_ask_46 : decode cX7_ask 46 = .ok (.iaload, 1) := by decide +kernel
theorem dX7_ask_47 : decode cX7_ask 47 = .ok (.iconst 4, 1) := by decide +kernel
theorem dX7_ask_48 : decode cX7_ask 48 = .ok (.if_icmp .lt 11, 3) := by decide +kernel
theorem dX7_ask_51 : decode cX7_ask 51 = .ok (.aload_n 0, 1) := by decide +kernel
theorem dX7_ask_52 : decode cX7_ask 52 = .ok (.iload_n 1, 1) := by decide +kernel
theorem dX7_ask_53 : decode cX7_ask 53 = .ok (.invokevirtual 238, 3) := by decide +kernel
theorem dX7_ask_56 : decode cX7_ask 56 = .ok (.goto 8, 3) := by decide +kernel
theorem dX7_ask_59 : decode cX7_ask 59 = .ok (.aload_n 0, 1) := by decide +kernel
theorem dX7_ask_60 : decode cX7_ask 60 = .ok (.iload_n 1, 1) := by decide +kernel
theorem dX7_ask_61 : decode cX7_ask 61 = .ok (.invokevirtual 220, 3) := by decide +kernel
theorem dX7_ask_64 : decode cX7_ask 64 = .ok (.ireturn, 1) := by decide +kernel
theorem dX7_trace_0 : decode cX7_trace 0 = .ok (.iload_n 1, 1) := by decide +kernel
theorem dX7_trace_1 : decode cX7_trace 1 = .ok (.i2l, 1) := by decide +kernel
theorem dX7_trace_2 : decode cX7_trace 2 = .ok (.lconst 0, 1) := by decide +kernel
theorem dX7_trace_3 : decode cX7_trace 3 = .ok (.aload_n 0, 1) := by decide +kernel
theorem dX7_trace_4 : decode cX7_trace 4 = .ok (.getfield 211, 3) := by decide +kernel
theorem dX7_trace_7 : decode cX7_trace 7 = .ok (.iconst 1, 1) := by decide +kernel
theorem dX7_trace_8 : decode cX7_trace 8 = .ok (.isub, 1) := by decide +kernel
theorem dX7_trace_9 : decode cX7_trace 9 = .ok (.i2l, 1) := by decide +kernel
theorem dX7_trace_10 : decode cX7_trace 10 = .ok (.invokestatic 38, 3) := by decide +kernel
theorem dX7_trace_13 : decode cX7_trace 13 = .ok (.ifCond .eq 12, 3) := by decide +kernel
theorem dX7_trace_16 : decode cX7_trace 16 = .ok (.aload_n 0, 1) := by decide +kernel
theorem dX7_trace_17 : decode cX7_trace 17 = .ok (.getfield 35, 3) := by decide +kernel
theorem dX7_trace_20 : decode cX7_trace 20 = .ok (.iload_n 1, 1) := by decide +kernel
theorem dX7_trace_21 : decode cX7_trace 21 = .ok (.iaload, 1) := by decide +kernel
theorem dX7_trace_22 : decode cX7_trace 22 = .ok (.goto 5, 3) := by decide +kernel
theorem dX7_trace_25 : decode cX7_trace 25 = .ok (.ldc 173, 2) := by decide +kernel
theorem dX7_trace_27 : decode cX7_trace 27 = .ok (.ireturn, 1) := by decide +kernel
theorem dX7_rowsThere_0 : decode cX7_rowsThere 0 = .ok (.iconst 0, 1) := by decide +kernel
theorem dX7_rowsThere_1 : decode cX7_rowsThere 1 = .ok (.istore_n 1, 1) := by decide +kernel
theorem dX7_rowsThere_2 : decode cX7_rowsThere 2 = .ok (.iconst 0, 1) := by decide +kernel
theorem dX7_rowsThere_3 : decode cX7_rowsThere 3 = .ok (.istore_n 2, 1) := by decide +kernel
theorem dX7_rowsThere_4 : decode cX7_rowsThere 4 = .ok (.iload_n 2, 1) := by decide +kernel
theorem dX7_rowsThere_5 : decode cX7_rowsThere 5 = .ok (.bipush 8, 2) := by decide +kernel
theorem dX7_rowsThere_7 : decode cX7_rowsThere 7 = .ok (.if_icmp .ge 26, 3) := by decide +kernel
theorem dX7_rowsThere_10 : decode cX7_rowsThere 10 = .ok (.iload_n 1, 1) := by decide +kernel
theorem dX7_rowsThere_11 : decode cX7_rowsThere 11 = .ok (.aload_n 0, 1) := by decide +kernel
theorem dX7_rowsThere_12 : decode cX7_rowsThere 12 = .ok (.getfield 16, 3) := by decide +kernel
theorem dX7_rowsThere_15 : decode cX7_rowsThere 15 = .ok (.iload_n 2, 1) := by decide +kernel
theorem dX7_rowsThere_16 : decode cX7_rowsThere 16 = .ok (.iaload, 1) := by decide +kernel
