theorem dX10_digest_93 : decode cX10_digest 93 = .ok (.aload_n 0, 1) := by decide +kernel
theorem dX10_digest_94 : decode cX10_digest 94 = .ok (.getfield 32, 3) := by decide +kernel
theorem dX10_digest_97 : decode cX10_digest 97 = .ok (.iload_n 3, 1) := by decide +kernel
theorem dX10_digest_98 : decode cX10_digest 98 = .ok (.iaload, 1) := by decide +kernel
theorem dX10_digest_99 : decode cX10_digest 99 = .ok (.i2l, 1) := by decide +kernel
theorem dX10_digest_100 : decode cX10_digest 100 = .ok (.ladd, 1) := by decide +kernel
theorem dX10_digest_101 : decode cX10_digest 101 = .ok (.lmul, 1) := by decide +kernel
theorem dX10_digest_102 : decode cX10_digest 102 = .ok (.aload_n 0, 1) := by decide +kernel
theorem dX10_digest_103 : decode cX10_digest 103 = .ok (.getfield 35, 3) := by decide +kernel
theorem dX10_digest_106 : decode cX10_digest 106 = .ok (.iload_n 3, 1) := by decide +kernel
theorem dX10_digest_107 : decode cX10_digest 107 = .ok (.iaload, 1) := by decide +kernel
theorem dX10_digest_108 : decode cX10_digest 108 = .ok (.i2l, 1) := by decide +kernel
theorem dX10_digest_109 : decode cX10_digest 109 = .ok (.ladd, 1) := by decide +kernel
theorem dX10_digest_110 : decode cX10_digest 110 = .ok (.lmul, 1) := by decide +kernel
theorem dX10_digest_111 : decode cX10_digest 111 = .ok (.aload_n 0, 1) := by decide +kernel
theorem dX10_digest_112 : decode cX10_digest 112 = .ok (.getfield 38, 3) := by decide +kernel
theorem dX10_digest_115 : decode cX10_digest 115 = .ok (.iload_n 3, 1) := by decide +kernel
theorem dX10_digest_116 : decode cX10_digest 116 = .ok (.iaload, 1) := by decide +kernel
theorem dX10_digest_117 : decode cX10_digest 117 = .ok (.i2l, 1) := by decide +kernel
theorem dX10_digest_118 : decode cX10_digest 118 = .ok (.ladd, 1) := by decide +kernel
theorem dX10_digest_119 : decode cX10_digest 119 = .ok (.lstore_n 1, 1) := by decide +kernel
theorem dX10_digest_120 : decode cX10_digest 120 = .ok (.iinc 3 1, 3) := by decide +kernel
theorem dX10_digest_123 : decode cX10_digest 123 = .ok (.goto (-49), 3) := by decide +kernel
theorem dX10_digest_126 : decode cX10_digest 126 = .ok (.iconst 0, 1) := by decide +kernel
theorem dX10_digest_127 : decode cX10_digest 127 = .ok (.istore_n 3, 1) := by decide +kernel
theorem dX10_digest_128 : decode cX10_digest 128 = .ok (.iload_n 3, 1) := by decide +kernel
theorem dX10_digest_129 : decode cX10_digest 129 = .ok (.bipush 12, 2) := by decide +kernel
theorem dX10_digest_131 : decode cX10_digest 131 = .ok (.if_icmp .ge 23, 3) := by decide +kernel
theorem dX10_digest_134 : decode cX10_digest 134 = .ok (.ldc2_w 174, 3) := by decide +kernel
theorem dX10_digest_137 : decode cX10_digest 137 = .ok (.lload_n 1, 1) := by decide +kernel
theorem dX10_digest_138 : decode cX10_digest 138 = .ok (.lmul, 1) := by decide +kernel
theorem dX10_digest_139 : decode cX10_digest 139 = .ok (.aload_n 0, 1) := by decide +kernel
theorem dX10_digest_140 : decode cX10_digest 140 = .ok (.getfield 63, 3) := by decide +kernel
theorem dX10_digest_143 : decode cX10_digest 143 = .ok (.iload_n 3, 1) := by decide +kernel
theorem dX10_digest_144 : decode cX10_digest 144 = .ok (.iaload, 1) := by decide +kernel
theorem dX10_digest_145 : decode cX10_digest 145 = .ok (.i2l, 1) := by decide +kernel
theorem dX10_digest_146 : decode cX10_digest 146 = .ok (.ladd, 1) := by decide +kernel
theorem dX10_digest_147 : decode cX10_digest 147 = .ok (.lstore_n 1, 1) := by decide +kernel
theorem dX10_digest_148 : decode cX10_digest 148 = .ok (.iinc 3 1, 3) := by decide +kernel
theorem dX10_digest_151 : decode cX10_digest 151 = .ok (.goto (-23), 3) := by decide +kernel
theorem dX10_digest_154 : decode cX10_digest 154 = .ok (.iconst 0, 1) := by decide +kernel
theorem dX10_digest_155 : decode cX10_digest 155 = .ok (.istore_n 3, 1) := by decide +kernel
theorem dX10_digest_156 : decode cX10_digest 156 = .ok (.iload_n 3, 1) := by decide +kernel
theorem dX10_digest_157 : decode cX10_digest 157 = .ok (.iconst 4, 1) := by decide +kernel
theorem dX10_digest_158 : decode cX10_digest 158 = .ok (.if_icmp .ge 76, 3) := by decide +kernel
theorem dX10_digest_161 : decode cX10_digest 161 = .ok (.ldc2_w 174, 3) := by decide +kernel
theorem dX10_digest_164 : decode cX10_digest 164 = .ok (.lload_n 1, 1) := by decide +kernel
theorem dX10_digest_165 : decode cX10_digest 165 = .ok (.lmul, 1) := by decide +kernel
theorem dX10_digest_166 : decode cX10_digest 166 = .ok (.aload_n 0, 1) := by decide +kernel
theorem dX10_digest_167 : decode cX10_digest 167 = .ok (.getfield 72, 3) := by decide +kernel
theorem dX10_digest_170 : decode cX10_digest 170 = .ok (.iload_n 3, 1) := by decide +kernel
theorem dX10_digest_171 : decode cX10_digest 171 = .ok (.iaload, 1) := by decide +kernel
theorem dX10_digest_172 : decode cX10_digest 172 = .ok (.ifCond .ge 7, 3) := by decide +kernel
theorem dX10_digest_175 : decode cX10_digest 175 = .ok (.iconst (-1), 1) := by decide +kernel
theorem dX10_digest_176 : decode cX10_digest 176 = .ok (.goto 9, 3) := by decide +kernel
theorem dX10_digest_179 : decode cX10_digest 179 = .ok (.aload_n 0, 1) := by decide +kernel
theorem dX10_digest_180 : decode cX10_digest 180 = .ok (.getfield 72, 3) := by decide +kernel
theorem dX10_digest_183 : decode cX10_digest 183 = .ok (.iload_n 3, 1) := by decide +kernel
theorem dX10_digest_184 : decode cX10_digest 184 = .ok (.iaload, 1) := by decide +kernel
theorem dX10_digest_185 : decode cX10_digest 185 = .ok (.i2l, 1) := by decide +kernel
theorem dX10_digest_186 : decode cX10_digest 186 = .ok (.ladd, 1) := by decide +kernel
theorem dX10_digest_187 : decode cX10_digest 187 = .ok (.lstore_n 1, 1) := by decide +kernel
theorem dX10_digest_188 : decode cX10_digest 188 = .ok (.iconst 0, 1) := by decide +kernel
theorem dX10_digest_189 : decode cX10_digest 189 = .ok (.istore 4, 2) := by decide +kernel
theorem dX10_digest_191 : decode cX10_digest 191 = .ok (.iload 4, 2) := by decide +kernel
theorem dX10_digest_193 : decode cX10_digest 193 = .ok (.aload_n 0, 1) := by decide +kernel
theorem dX10_digest_194 : decode cX10_digest 194 = .ok (.getfield 72, 3) := by decide +kernel
theorem dX10_digest_197 : decode cX10_digest 197 = .ok (.iload_n 3, 1) := by decide +kernel
theorem dX10_digest_198 : decode cX10_digest 198 = .ok (.iaload, 1) := by decide +kernel
theorem dX10_digest_199 : decode cX10_digest 199 = .ok (.if_icmp .ge 29, 3) := by decide +kernel
theorem dX10_digest_202 : decode cX10_digest 202 = .ok (.ldc2_w 174, 3) := by decide +kernel
theorem dX10_digest_205 : decode cX10_digest 205 = .ok (.lload_n 1, 1) := by decide +kernel
theorem dX10_digest_206 : decode cX10_digest 206 = .ok (.lmul, 1) := by decide +kernel
theorem dX10_digest_207 : decode cX10_digest 207 = .ok (.aload_n 0, 1) := by decide +kernel
theorem dX10_digest_208 : decode cX10_digest 208 = .ok (.getfield 75, 3) := by decide +kernel
theorem dX10_digest_211 : decode cX10_digest 211 = .ok (.bipush 10, 2) := by decide +kernel
theorem dX10_digest_213 : decode cX10_digest 213 = .ok (.iload_n 3, 1) := by decide +kernel
theorem dX10_digest_214 : decode cX10_digest 214 = .ok (.imul, 1) := by decide +kernel
theorem dX10_digest_215 : decode cX10_digest 215 = .ok (.iload 4, 2) := by decide +kernel
theorem dX10_digest_217 : decode cX10_digest 217 = .ok (.iadd, 1) := by decide +kernel
theorem dX10_digest_218 : decode cX10_digest 218 = .ok (.iaload, 1) := by decide +kernel
theorem dX10_digest_219 : decode cX10_digest 219 = .ok (.i2l, 1) := by decide +kernel
theorem dX10_digest_220 : decode cX10_digest 220 = .ok (.ladd, 1) := by decide +kernel
theorem dX10_digest_221 : decode cX10_digest 221 = .ok (.lstore_n 1, 1) := by decide +kernel
theorem dX10_digest_222 : decode cX10_digest 222 = .ok (.iinc 4 1, 3) := by decide +kernel
theorem dX10_digest_225 : decode cX10_digest 225 = .ok (.goto (-34), 3) := by decide +kernel
theorem dX10_digest_228 : decode cX10_digest 228 = .ok (.iinc 3 1, 3) := by decide +kernel
theorem dX10_digest_231 : decode cX10_digest 231 = .ok (.goto (-75), 3) := by decide +kernel
theorem dX10_digest_234 : decode cX10_digest 234 = .ok (.lload_n 1, 1) := by decide +kernel
theorem dX10_digest_235 : decode cX10_digest 235 = .ok (.lreturn, 1) := by decide +kernel
theorem dJ6_bitCount_0f7a4_0 : decode cJ6_bitCount_0f7a4 0 = .ok (.iload_n 0, 1) := by decide +kernel
theorem dJ6_bitCount_0f7a4_1 : decode cJ6_bitCount_0f7a4 1 = .ok (.iload_n 0, 1) := by decide +kernel
theorem dJ6_bitCount_0f7a4_2 : decode cJ6_bitCount_0f7a4 2 = .ok (.iconst 1, 1) := by decide +kernel
theorem dJ6_bitCount_0f7a4_3 : decode cJ6_bitCount_0f7a4 3 = .ok (.iushr, 1) := by decide +kernel
theorem dJ6_bitCount_0f7a4_4 : decode cJ6_bitCount_0f7a4 4 = .ok (.ldc_w 265, 3) := by decide +kernel
theorem dJ6_bitCount_0f7a4_7 : decode cJ6_bitCount_0f7a4 7 = .ok (.iand, 1) := by decide +kernel
theorem dJ6_bitCount_0f7a4_8 : decode cJ6_bitCount_0f7a4 8 = .ok (.isub, 1) := by decide +kernel
theorem dJ6_bitCount_0f7a4_9 : decode cJ6_bitCount_0f7a4 9 = .ok (.istore_n 0, 1) := by decide +kernel
theorem dJ6_bitCount_0f7a4_10 : decode cJ6_bitCount_0f7a4 10 = .ok (.iload_n 0, 1) := by decide +kernel
theorem dJ6_bitCount_0f7a4_11 : decode cJ6_bitCount_0f7a4 11 = .ok (.ldc_w 266, 3) := by decide +kernel
theorem dJ6_bitCount_0f7a4_14 : decode cJ6_bitCount_0f7a4 14 = .ok (.iand, 1) := by decide +kernel
theorem dJ6_bitCount_0f7a4_15 : decode cJ6_bitCount_0f7a4 15 = .ok (.iload_n 0, 1) := by decide +kernel
theorem dJ6_bitCount_0f7a4_16 : decode cJ6_bitCount_0f7a4 16 = .ok (.iconst 2, 1) := by decide +kernel
theorem dJ6_bitCount_0f7a4_17 : decode cJ6_bitCount_0f7a4 17 = .ok (.iushr, 1) := by decide +kernel
theorem dJ6_bitCount_0f7a4_18 : decode cJ6_bitCount_0f7a4 18 = .ok (.ldc_w 266, 3) := by decide +kernel
theorem dJ6_bitCount_0f7a4_21 : decode cJ6_bitCount_0f7a4 21 = .ok (.iand, 1) := by decide +kernel
theorem dJ6_bitCount_0f7a4_22 : decode cJ6_bitCount_0f7a4 22 = .ok (.iadd, 1) := by decide +kernel
theorem dJ6_bitCount_0f7a4_23 : decode cJ6_bitCount_0f7a4 23 = .ok (.istore_n 0, 1) := by decide +kernel
theorem dJ6_bitCount_0f7a4_24 : decode cJ6_bitCount_0f7a4 24 = .ok (.iload_n 0, 1) := by decide +kernel
theorem dJ6_bitCount_0f7a4_25 : decode cJ6_bitCount_0f7a4 25 = .ok (.iload_n 0, 1) := by decide +kernel
theorem dJ6_bitCount_0f7a4_26 : decode cJ6_bitCount_0f7a4 26 = .ok (.iconst 4, 1) := by decide +kernel
theorem dJ6_bitCount_0f7a4_27 : decode cJ6_bitCount_0f7a4 27 = .ok (.iushr, 1) := by decide +kernel
theorem dJ6_bitCount_0f7a4_28 : decode cJ6_bitCount_0f7a4 28 = .ok (.iadd, 1) := by decide +kernel
theorem dJ6_bitCount_0f7a4_29 : decode cJ6_bitCount_0f7a4 29 = .ok (.ldc_w 267, 3) := by decide +kernel
theorem dJ6_bitCount_0f7a4_32 : decode cJ6_bitCount_0f7a4 32 = .ok (.iand, 1) := by decide +kernel
theorem dJ6_bitCount_0f7a4_33 : decode cJ6_bitCount_0f7a4 33 = .ok (.istore_n 0, 1) := by decide +kernel
theorem dJ6_bitCount_0f7a4_34 : decode cJ6_bitCount_0f7a4 34 = .ok (.iload_n 0, 1) := by decide +kernel
theorem dJ6_bitCount_0f7a4_35 : decode cJ6_bitCount_0f7a4 35 = .ok (.iload_n 0, 1) := by decide +kernel
theorem dJ6_bitCount_0f7a4_36 : decode cJ6_bitCount_0f7a4 36 = .ok (.bipush 8, 2) := by decide +kernel
theorem dJ6_bitCount_0f7a4_38 : decode cJ6_bitCount_0f7a4 38 = .ok (.iushr, 1) := by decide +kernel
theorem dJ6_bitCount_0f7a4_39 : decode cJ6_bitCount_0f7a4 39 = .ok (.iadd, 1) := by decide +kernel
theorem dJ6_bitCount_0f7a4_40 : decode cJ6_bitCount_0f7a4 40 = .ok (.istore_n 0, 1) := by decide +kernel
theorem dJ6_bitCount_0f7a4_41 : decode cJ6_bitCount_0f7a4 41 = .ok (.iload_n 0, 1) := by decide +kernel
theorem dJ6_bitCount_0f7a4_42 : decode cJ6_bitCount_0f7a4 42 = .ok (.iload_n 0, 1) := by decide +kernel
theorem dJ6_bitCount_0f7a4_43 : decode cJ6_bitCount_0f7a4 43 = .ok (.bipush 16, 2) := by decide +kernel
theorem dJ6_bitCount_0f7a4_45 : decode cJ6_bitCount_0f7a4 45 = .ok (.iushr, 1) := by decide +kernel
theorem dJ6_bitCount_0f7a4_46 : decode cJ6_bitCount_0f7a4 46 = .ok (.iadd, 1) := by decide +kernel
theorem dJ6_bitCount_0f7a4_47 : decode cJ6_bitCount_0f7a4 47 = .ok (.istore_n 0, 1) := by decide +kernel
theorem dJ6_bitCount_0f7a4_48 : decode cJ6_bitCount_0f7a4 48 = .ok (.iload_n 0, 1) := by decide +kernel
theorem dJ6_bitCount_0f7a4_49 : decode cJ6_bitCount_0f7a4 49 = .ok (.bipush 63, 2) := by decide +kernel
theorem dJ6_bitCount_0f7a4_51 : decode cJ6_bitCount_0f7a4 51 = .ok (.iand, 1) := by decide +kernel
theorem dJ6_bitCount_0f7a4_52 : decode cJ6_bitCount_0f7a4 52 = .ok (.ireturn, 1) := by decide +kernel
theorem dJ9_min_7cf53_0 : decode cJ9_min_7cf53 0 = .ok (.iload_n 0, 1) := by decide +kernel
theorem dJ9_min_7cf53_1 : decode cJ9_min_7cf53 1 = .ok (.iload_n 1, 1) := by decide +kernel
theorem dJ9_min_7cf53_2 : decode cJ9_min_7cf53 2 = .ok (.if_icmp .gt 7, 3) := by decide +kernel
theorem dJ9_min_7cf53_5 : decode cJ9_min_7cf53 5 = .ok (.iload_n 0, 1) := by decide +kernel
theorem dJ9_min_7cf53_6 : decode cJ9_min_7cf53 6 = .ok (.goto 4, 3) := by decide +kernel
theorem dJ9_min_7cf53_9 : decode cJ9_min_7cf53 9 = .ok (.iload_n 1, 1) := by decide +kernel
theorem dJ9_min_7cf53_10 : decode cJ9_min_7cf53 10 = .ok (.ireturn, 1) := by decide +kernel
