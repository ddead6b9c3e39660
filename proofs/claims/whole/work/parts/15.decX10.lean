theorem dX10_init_0 : decode cX10_init 0 = .ok (.aload_n 0, 1) := by decide +kernel
theorem dX10_init_1 : decode cX10_init 1 = .ok (.invokespecial 1, 3) := by decide +kernel
theorem dX10_init_4 : decode cX10_init 4 = .ok (.aload_n 0, 1) := by decide +kernel
theorem dX10_init_5 : decode cX10_init 5 = .ok (.sipush 1800, 3) := by decide +kernel
theorem dX10_init_8 : decode cX10_init 8 = .ok (.newarray .int, 2) := by decide +kernel
theorem dX10_init_10 : decode cX10_init 10 = .ok (.putfield 9, 3) := by decide +kernel
theorem dX10_init_13 : decode cX10_init 13 = .ok (.aload_n 0, 1) := by decide +kernel
theorem dX10_init_14 : decode cX10_init 14 = .ok (.bipush 6, 2) := by decide +kernel
theorem dX10_init_16 : decode cX10_init 16 = .ok (.newarray .int, 2) := by decide +kernel
theorem dX10_init_18 : decode cX10_init 18 = .ok (.putfield 13, 3) := by decide +kernel
theorem dX10_init_21 : decode cX10_init 21 = .ok (.aload_n 0, 1) := by decide +kernel
theorem dX10_init_22 : decode cX10_init 22 = .ok (.sipush 900, 3) := by decide +kernel
theorem dX10_init_25 : decode cX10_init 25 = .ok (.newarray .int, 2) := by decide +kernel
theorem dX10_init_27 : decode cX10_init 27 = .ok (.putfield 16, 3) := by decide +kernel
theorem dX10_init_30 : decode cX10_init 30 = .ok (.aload_n 0, 1) := by decide +kernel
theorem dX10_init_31 : decode cX10_init 31 = .ok (.sipush 900, 3) := by decide +kernel
theorem dX10_init_34 : decode cX10_init 34 = .ok (.newarray .int, 2) := by decide +kernel
theorem dX10_init_36 : decode cX10_init 36 = .ok (.putfield 19, 3) := by decide +kernel
theorem dX10_init_39 : decode cX10_init 39 = .ok (.aload_n 0, 1) := by decide +kernel
theorem dX10_init_40 : decode cX10_init 40 = .ok (.bipush 60, 2) := by decide +kernel
theorem dX10_init_42 : decode cX10_init 42 = .ok (.newarray .int, 2) := by decide +kernel
theorem dX10_init_44 : decode cX10_init 44 = .ok (.putfield 22, 3) := by decide +kernel
theorem dX10_init_47 : decode cX10_init 47 = .ok (.aload_n 0, 1) := by decide +kernel
theorem dX10_init_48 : decode cX10_init 48 = .ok (.bipush 60, 2) := by decide +kernel
theorem dX10_init_50 : decode cX10_init 50 = .ok (.newarray .int, 2) := by decide +kernel
theorem dX10_init_52 : decode cX10_init 52 = .ok (.putfield 25, 3) := by decide +kernel
theorem dX10_init_55 : decode cX10_init 55 = .ok (.aload_n 0, 1) := by decide +kernel
theorem dX10_init_56 : decode cX10_init 56 = .ok (.bipush 60, 2) := by decide +kernel
theorem dX10_init_58 : decode cX10_init 58 = .ok (.newarray .int, 2) := by decide +kernel
theorem dX10_init_60 : decode cX10_init 60 = .ok (.putfield 28, 3) := by decide +kernel
theorem dX10_init_63 : decode cX10_init 63 = .ok (.aload_n 0, 1) := by decide +kernel
theorem dX10_init_64 : decode cX10_init 64 = .ok (.bipush 60, 2) := by decide +kernel
theorem dX10_init_66 : decode cX10_init 66 = .ok (.newarray .int, 2) := by decide +kernel
theorem dX10_init_68 : decode cX10_init 68 = .ok (.putfield 31, 3) := by decide +kernel
theorem dX10_init_71 : decode cX10_init 71 = .ok (.aload_n 0, 1) := by decide +kernel
theorem dX10_init_72 : decode cX10_init 72 = .ok (.iconst 3, 1) := by decide +kernel
theorem dX10_init_73 : decode cX10_init 73 = .ok (.newarray .int, 2) := by decide +kernel
theorem dX10_init_75 : decode cX10_init 75 = .ok (.putfield 34, 3) := by decide +kernel
theorem dX10_init_78 : decode cX10_init 78 = .ok (.aload_n 0, 1) := by decide +kernel
theorem dX10_init_79 : decode cX10_init 79 = .ok (.iconst 3, 1) := by decide +kernel
theorem dX10_init_80 : decode cX10_init 80 = .ok (.putfield 37, 3) := by decide +kernel
theorem dX10_init_83 : decode cX10_init 83 = .ok (.aload_n 0, 1) := by decide +kernel
theorem dX10_init_84 : decode cX10_init 84 = .ok (.bipush 20, 2) := by decide +kernel
theorem dX10_init_86 : decode cX10_init 86 = .ok (.newarray .int, 2) := by decide +kernel
theorem dX10_init_88 : decode cX10_init 88 = .ok (.putfield 41, 3) := by decide +kernel
theorem dX10_init_91 : decode cX10_init 91 = .ok (.aload_n 0, 1) := by decide +kernel
theorem dX10_init_92 : decode cX10_init 92 = .ok (.bipush 20, 2) := by decide +kernel
theorem dX10_init_94 : decode cX10_init 94 = .ok (.newarray .int, 2) := by decide +kernel
theorem dX10_init_96 : decode cX10_init 96 = .ok (.putfield 44, 3) := by decide +kernel
theorem dX10_init_99 : decode cX10_init 99 = .ok (.aload_n 0, 1) := by decide +kernel
theorem dX10_init_100 : decode cX10_init 100 = .ok (.bipush 20, 2) := by decide +kernel
theorem dX10_init_102 : decode cX10_init 102 = .ok (.newarray .int, 2) := by decide +kernel
theorem dX10_init_104 : decode cX10_init 104 = .ok (.putfield 47, 3) := by decide +kernel
theorem dX10_init_107 : decode cX10_init 107 = .ok (.aload_n 0, 1) := by decide +kernel
theorem dX10_init_108 : decode cX10_init 108 = .ok (.bipush 20, 2) := by decide +kernel
theorem dX10_init_110 : decode cX10_init 110 = .ok (.newarray .int, 2) := by decide +kernel
theorem dX10_init_112 : decode cX10_init 112 = .ok (.putfield 50, 3) := by decide +kernel
theorem dX10_init_115 : decode cX10_init 115 = .ok (.aload_n 0, 1) := by decide +kernel
theorem dX10_init_116 : decode cX10_init 116 = .ok (.bipush 20, 2) := by decide +kernel
theorem dX10_init_118 : decode cX10_init 118 = .ok (.newarray .int, 2) := by decide +kernel
theorem dX10_init_120 : decode cX10_init 120 = .ok (.putfield 53, 3) := by decide +kernel
theorem dX10_init_123 : decode cX10_init 123 = .ok (.aload_n 0, 1) := by decide +kernel
theorem dX10_init_124 : decode cX10_init 124 = .ok (.bipush 20, 2) := by decide +kernel
theorem dX10_init_126 : decode cX10_init 126 = .ok (.newarray .long, 2) := by decide +kernel
theorem dX10_init_128 : decode cX10_init 128 = .ok (.putfield 56, 3) := by decide +kernel
theorem dX10_init_131 : decode cX10_init 131 = .ok (.aload_n 0, 1) := by decide +kernel
theorem dX10_init_132 : decode cX10_init 132 = .ok (.bipush 20, 2) := by decide +kernel
theorem dX10_init_134 : decode cX10_init 134 = .ok (.newarray .long, 2) := by decide +kernel
theorem dX10_init_136 : decode cX10_init 136 = .ok (.putfield 60, 3) := by decide +kernel
theorem dX10_init_139 : decode cX10_init 139 = .ok (.aload_n 0, 1) := by decide +kernel
theorem dX10_init_140 : decode cX10_init 140 = .ok (.bipush 20, 2) := by decide +kernel
theorem dX10_init_142 : decode cX10_init 142 = .ok (.newarray .long, 2) := by decide +kernel
theorem dX10_init_144 : decode cX10_init 144 = .ok (.putfield 63, 3) := by decide +kernel
theorem dX10_init_147 : decode cX10_init 147 = .ok (.aload_n 0, 1) := by decide +kernel
theorem dX10_init_148 : decode cX10_init 148 = .ok (.sipush 300, 3) := by decide +kernel
theorem dX10_init_151 : decode cX10_init 151 = .ok (.newarray .byte, 2) := by decide +kernel
theorem dX10_init_153 : decode cX10_init 153 = .ok (.putfield 66, 3) := by decide +kernel
theorem dX10_init_156 : decode cX10_init 156 = .ok (.aload_n 0, 1) := by decide +kernel
theorem dX10_init_157 : decode cX10_init 157 = .ok (.iconst (-1), 1) := by decide +kernel
theorem dX10_init_158 : decode cX10_init 158 = .ok (.putfield 70, 3) := by decide +kernel
theorem dX10_init_161 : decode cX10_init 161 = .ok (.aload_n 0, 1) := by decide +kernel
theorem dX10_init_162 : decode cX10_init 162 = .ok (.bipush 50, 2) := by decide +kernel
theorem dX10_init_164 : decode cX10_init 164 = .ok (.putfield 73, 3) := by decide +kernel
theorem dX10_init_167 : decode cX10_init 167 = .ok (.aload_n 0, 1) := by decide +kernel
theorem dX10_init_168 : decode cX10_init 168 = .ok (.iconst 5, 1) := by decide +kernel
theorem dX10_init_169 : decode cX10_init 169 = .ok (.putfield 76, 3) := by decide +kernel
theorem dX10_init_172 : decode cX10_init 172 = .ok (.aload_n 0, 1) := by decide +kernel
theorem dX10_init_173 : decode cX10_init 173 = .ok (.iconst 1, 1) := by decide +kernel
theorem dX10_init_174 : decode cX10_init 174 = .ok (.putfield 79, 3) := by decide +kernel
theorem dX10_init_177 : decode cX10_init 177 = .ok (.aload_n 0, 1) := by decide +kernel
theorem dX10_init_178 : decode cX10_init 178 = .ok (.iconst 2, 1) := by decide +kernel
theorem dX10_init_179 : decode cX10_init 179 = .ok (.putfield 82, 3) := by decide +kernel
theorem dX10_init_182 : decode cX10_init 182 = .ok (.aload_n 0, 1) := by decide +kernel
theorem dX10_init_183 : decode cX10_init 183 = .ok (.bipush 10, 2) := by decide +kernel
theorem dX10_init_185 : decode cX10_init 185 = .ok (.putfield 85, 3) := by decide +kernel
theorem dX10_init_188 : decode cX10_init 188 = .ok (.aload_n 0, 1) := by decide +kernel
theorem dX10_init_189 : decode cX10_init 189 = .ok (.iconst 5, 1) := by decide +kernel
theorem dX10_init_190 : decode cX10_init 190 = .ok (.putfield 88, 3) := by decide +kernel
theorem dX10_init_193 : decode cX10_init 193 = .ok (.aload_n 0, 1) := by decide +kernel
theorem dX10_init_194 : decode cX10_init 194 = .ok (.bipush 9, 2) := by decide +kernel
theorem dX10_init_196 : decode cX10_init 196 = .ok (.putfield 91, 3) := by decide +kernel
theorem dX10_init_199 : decode cX10_init 199 = .ok (.aload_n 0, 1) := by decide +kernel
theorem dX10_init_200 : decode cX10_init 200 = .ok (.bipush 9, 2) := by decide +kernel
theorem dX10_init_202 : decode cX10_init 202 = .ok (.newarray .int, 2) := by decide +kernel
theorem dX10_init_204 : decode cX10_init 204 = .ok (.putfield 94, 3) := by decide +kernel
theorem dX10_init_207 : decode cX10_init 207 = .ok (.aload_n 0, 1) := by decide +kernel
theorem dX10_init_208 : decode cX10_init 208 = .ok (.bipush 9, 2) := by decide +kernel
theorem dX10_init_210 : decode cX10_init 210 = .ok (.newarray .int, 2) := by decide +kernel
theorem dX10_init_212 : decode cX10_init 212 = .ok (.putfield 97, 3) := by decide +kernel
theorem dX10_init_215 : decode cX10_init 215 = .ok (.aload_n 0, 1) := by decide +kernel
theorem dX10_init_216 : decode cX10_init 216 = .ok (.bipush 10, 2) := by decide +kernel
theorem dX10_init_218 : decode cX10_init 218 = .ok (.newarray .int, 2) := by decide +kernel
theorem dX10_init_220 : decode cX10_init 220 = .ok (.putfield 100, 3) := by decide +kernel
theorem dX10_init_223 : decode cX10_init 223 = .ok (.aload_n 0, 1) := by decide +kernel
theorem dX10_init_224 : decode cX10_init 224 = .ok (.bipush 10, 2) := by decide +kernel
theorem dX10_init_226 : decode cX10_init 226 = .ok (.newarray .int, 2) := by decide +kernel
theorem dX10_init_228 : decode cX10_init 228 = .ok (.putfield 103, 3) := by decide +kernel
theorem dX10_init_231 : decode cX10_init 231 = .ok (.aload_n 0, 1) := by decide +kernel
theorem dX10_init_232 : decode cX10_init 232 = .ok (.sipush 900, 3) := by decide +kernel
theorem dX10_init_235 : decode cX10_init 235 = .ok (.newarray .int, 2) := by decide +kernel
theorem dX10_init_237 : decode cX10_init 237 = .ok (.putfield 106, 3) := by decide +kernel
theorem dX10_init_240 : decode cX10_init 240 = .ok (.iconst 0, 1) := by decide +kernel
theorem dX10_init_241 : decode cX10_init 241 = .ok (.istore_n 1, 1) := by decide +kernel
theorem dX10_init_242 : decode cX10_init 242 = .ok (.iload_n 1, 1) := by decide +kernel
theorem dX10_init_243 : decode cX10_init 243 = .ok (.bipush 9, 2) := by decide +kernel
theorem dX10_init_245 : decode cX10_init 245 = .ok (.if_icmp .ge 19, 3) := by decide +kernel
theorem dX10_init_248 : decode cX10_init 248 = .ok (.aload_n 0, 1) := by decide +kernel
theorem dX10_init_249 : decode cX10_init 249 = .ok (.getfield 94, 3) := by decide +kernel
theorem dX10_init_252 : decode cX10_init 252 = .ok (.iload_n 1, 1) := by decide +kernel
theorem dX10_init_253 : decode cX10_init 253 = .ok (.iload_n 1, 1) := by decide +kernel
theorem dX10_init_254 : decode cX10_init 254 = .ok (.invokestatic 109, 3) := by decide +kernel
theorem dX10_init_257 : decode cX10_init 257 = .ok (.iastore, 1) := by decide +kernel
theorem dX10_init_258 : decode cX10_init 258 = .ok (.iinc 1 1, 3) := by decide +kernel
theorem dX10_init_261 : decode cX10_init 261 = .ok (.goto (-19), 3) := by decide +kernel
theorem dX10_init_264 : decode cX10_init 264 = .ok (.iconst 0, 1) := by decide +kernel
theorem dX10_init_265 : decode cX10_init 265 = .ok (.istore_n 1, 1) := by decide +kernel
theorem dX10_init_266 : decode cX10_init 266 = .ok (.iload_n 1, 1) := by decide +kernel
theorem dX10_init_267 : decode cX10_init 267 = .ok (.sipush 900, 3) := by decide +kernel
theorem dX10_init_270 : decode cX10_init 270 = .ok (.if_icmp .ge 17, 3) := by decide +kernel
theorem dX10_init_273 : decode cX10_init 273 = .ok (.aload_n 0, 1) := by decide +kernel
theorem dX10_init_274 : decode cX10_init 274 = .ok (.getfield 106, 3) := by decide +kernel
theorem dX10_init_277 : decode cX10_init 277 = .ok (.iload_n 1, 1) := by decide +kernel
theorem dX10_init_278 : decode cX10_init 278 = .ok (.ldc 113, 2) := by decide +kernel
theorem dX10_init_280 : decode cX10_init 280 = .ok (.iastore, 1) := by decide +kernel
theorem dX10_init_281 : decode cX10_init 281 = .ok (.iinc 1 1, 3) := by decide +kernel
theorem dX10_init_284 : decode cX10_init 284 = .ok (.goto (-18), 3) := by decide +kernel
theorem dX10_init_287 : decode cX10_init 287 = .ok (.return_, 1) := by decide +kernel
theorem dX10_thrown_0 : decode cX10_thrown 0 = .ok (.aload_n 0, 1) := by decide +kernel
theorem dX10_thrown_1 : decode cX10_thrown 1 = .ok (.getfield 114, 3) := by decide +kernel
theorem dX10_thrown_4 : decode cX10_thrown 4 = .ok (.ireturn, 1) := by decide +kernel
theorem dX10_bad_0 : decode cX10_bad 0 = .ok (.iload_n 1, 1) := by decide +kernel
theorem dX10_bad_1 : decode cX10_bad 1 = .ok (.ifCond .eq 8, 3) := by decide +kernel
theorem dX10_bad_4 : decode cX10_bad 4 = .ok (.aload_n 0, 1) := by decide +kernel
theorem dX10_bad_5 : decode cX10_bad 5 = .ok (.iload_n 2, 1) := by decide +kernel
theorem dX10_bad_6 : decode cX10_bad 6 = .ok (.putfield 114, 3) := by decide +kernel
theorem dX10_bad_9 : decode cX10_bad 9 = .ok (.iload_n 1, 1) := by decide +kernel
theorem dX10_bad_10 : decode cX10_bad 10 = .ok (.ireturn, 1) := by decide +kernel
theorem dX10_isTrace_0 : decode cX10_isTrace 0 = .ok (.iload_n 1, 1) := by decide +kernel
theorem dX10_isTrace_1 : decode cX10_isTrace 1 = .ok (.ifCond .lt 12, 3) := by decide +kernel
theorem dX10_isTrace_4 : decode cX10_isTrace 4 = .ok (.iload_n 1, 1) := by decide +kernel
theorem dX10_isTrace_5 : decode cX10_isTrace 5 = .ok (.iconst 3, 1) := by decide +kernel
theorem dX10_isTrace_6 : decode cX10_isTrace 6 = .ok (.if_icmp .ge 7, 3) := by decide +kernel
theorem dX10_isTrace_9 : decode cX10_isTrace 9 = .ok (.iconst 1, 1) := by decide +kernel
theorem dX10_isTrace_10 : decode cX10_isTrace 10 = .ok (.goto 4, 3) := by decide +kernel
theorem dX10_isTrace_13 : decode cX10_isTrace 13 = .ok (.iconst 0, 1) := by decide +kernel
theorem dX10_isTrace_14 : decode cX10_isTrace 14 = .ok (.ireturn, 1) := by decide +kernel
theorem dX10_isRow_0 : decode cX10_isRow 0 = .ok (.aload_n 0, 1) := by decide +kernel
theorem dX10_isRow_1 : decode cX10_isRow 1 = .ok (.iload_n 1, 1) := by decide +kernel
theorem dX10_isRow_2 : decode cX10_isRow 2 = .ok (.ifCond .lt 16, 3) := by decide +kernel
theorem dX10_isRow_5 : decode cX10_isRow 5 = .ok (.iload_n 1, 1) := by decide +kernel
theorem dX10_isRow_6 : decode cX10_isRow 6 = .ok (.iconst 2, 1) := by decide +kernel
theorem dX10_isRow_7 : decode cX10_isRow 7 = .ok (.if_icmp .ge 11, 3) := by decide +kernel
theorem dX10_isRow_10 : decode cX10_isRow 10 = .ok (.aload_n 0, 1) := by decide +kernel
theorem dX10_isRow_11 : decode cX10_isRow 11 = .ok (.iload_n 2, 1) := by decide +kernel
theorem dX10_isRow_12 : decode cX10_isRow 12 = .ok (.invokevirtual 117, 3) := by decide +kernel
theorem dX10_isRow_15 : decode cX10_isRow 15 = .ok (.ifCond .ne 7, 3) := by decide +kernel
theorem dX10_isRow_18 : decode cX10_isRow 18 = .ok (.iconst 1, 1) := by decide +kernel
theorem dX10_isRow_19 : decode cX10_isRow 19 = .ok (.goto 4, 3) := by decide +kernel
theorem dX10_isRow_22 : decode cX10_isRow 22 = .ok (.iconst 0, 1) := by decide +kernel
theorem dX10_isRow_23 : decode cX10_isRow 23 = .ok (.putfield 114, 3) := by decide +kernel
theorem dX10_isRow_26 : decode cX10_isRow 26 = .ok (.aload_n 0, 1) := by decide +kernel
theorem dX10_isRow_27 : decode cX10_isRow 27 = .ok (.getfield 114, 3) := by decide +kernel
theorem dX10_isRow_30 : decode cX10_isRow 30 = .ok (.ifCond .ne 7, 3) := by decide +kernel
theorem dX10_isRow_33 : decode cX10_isRow 33 = .ok (.iconst 1, 1) := by decide +kernel
theorem dX10_isRow_34 : decode cX10_isRow 34 = .ok (.goto 4, 3) := by decide +kernel
theorem dX10_isRow_37 : decode cX10_isRow 37 = .ok (.iconst 0, 1) := by decide +kernel
theorem dX10_isRow_38 : decode cX10_isRow 38 = .ok (.ireturn, 1) := by decide +kernel
theorem dX10_rowOf_0 : decode cX10_rowOf 0 = .ok (.iconst 3, 1) := by decide +kernel
theorem dX10_rowOf_1 : decode cX10_rowOf 1 = .ok (.iload_n 0, 1) := by decide +kernel
theorem dX10_rowOf_2 : decode cX10_rowOf 2 = .ok (.imul, 1) := by decide +kernel
theorem dX10_rowOf_3 : decode cX10_rowOf 3 = .ok (.iload_n 1, 1) := by decide +kernel
theorem dX10_rowOf_4 : decode cX10_rowOf 4 = .ok (.iadd, 1) := by decide +kernel
theorem dX10_rowOf_5 : decode cX10_rowOf 5 = .ok (.ireturn, 1) := by decide +kernel
theorem dX10_read_0 : decode cX10_read 0 = .ok (.aload_n 0, 1) := by decide +kernel
theorem dX10_read_1 : decode cX10_read 1 = .ok (.iload_n 1, 1) := by decide +kernel
theorem dX10_read_2 : decode cX10_read 2 = .ok (.iload_n 2, 1) := by decide +kernel
theorem dX10_read_3 : decode cX10_read 3 = .ok (.invokevirtual 121, 3) := by decide +kernel
theorem dX10_read_6 : decode cX10_read 6 = .ok (.ifCond .eq 30, 3) := by decide +kernel
theorem dX10_read_9 : decode cX10_read 9 = .ok (.aload_n 0, 1) := by decide +kernel
theorem dX10_read_10 : decode cX10_read 10 = .ok (.iload_n 3, 1) := by decide +kernel
theorem dX10_read_11 : decode cX10_read 11 = .ok (.sipush (-30000), 3) := by decide +kernel
theorem dX10_read_14 : decode cX10_read 14 = .ok (.if_icmp .lt 10, 3) := by decide +kernel
theorem dX10_read_17 : decode cX10_read 17 = .ok (.iload_n 3, 1) := by decide +kernel
theorem dX10_read_18 : decode cX10_read 18 = .ok (.sipush 30000, 3) := by decide +kernel
theorem dX10_read_21 : decode cX10_read 21 = .ok (.if_icmp .le 7, 3) := by decide +kernel
theorem dX10_read_24 : decode cX10_read 24 = .ok (.iconst 1, 1) := by decide +kernel
theorem dX10_read_25 : decode cX10_read 25 = .ok (.goto 4, 3) := by decide +kernel
theorem dX10_read_28 : decode cX10_read 28 = .ok (.iconst 0, 1) := by decide +kernel
theorem dX10_read_29 : decode cX10_read 29 = .ok (.iconst 2, 1) := by decide +kernel
theorem dX10_read_30 : decode cX10_read 30 = .ok (.invokevirtual 125, 3) := by decide +kernel
theorem dX10_read_33 : decode cX10_read 33 = .ok (.ifCond .eq 5, 3) := by decide +kernel
theorem dX10_read_36 : decode cX10_read 36 = .ok (.iconst 0, 1) := by decide +kernel
theorem dX10_read_37 : decode cX10_read 37 = .ok (.ireturn, 1) := by decide +kernel
theorem dX10_read_38 : decode cX10_read 38 = .ok (.iload_n 1, 1) := by decide +kernel
theorem dX10_read_39 : decode cX10_read 39 = .ok (.iload_n 2, 1) := by decide +kernel
theorem dX10_read_40 : decode cX10_read 40 = .ok (.invokestatic 129, 3) := by decide +kernel
theorem dX10_read_43 : decode cX10_read 43 = .ok (.istore 4, 2) := by decide +kernel
theorem dX10_read_45 : decode cX10_read 45 = .ok (.aload_n 0, 1) := by decide +kernel
theorem dX10_read_46 : decode cX10_read 46 = .ok (.getfield 13, 3) := by decide +kernel
theorem dX10_read_49 : decode cX10_read 49 = .ok (.iload 4, 2) := by decide +kernel
theorem dX10_read_51 : decode cX10_read 51 = .ok (.iaload, 1) := by decide +kernel
theorem dX10_read_52 : decode cX10_read 52 = .ok (.sipush 300, 3) := by decide +kernel
theorem dX10_read_55 : decode cX10_read 55 = .ok (.if_icmp .ne 5, 3) := by decide +kernel
theorem dX10_read_58 : decode cX10_read 58 = .ok (.iconst (-1), 1) := by decide +kernel
theorem dX10_read_59 : decode cX10_read 59 = .ok (.ireturn, 1) := by decide +kernel
theorem dX10_read_60 : decode cX10_read 60 = .ok (.aload_n 0, 1) := by decide +kernel
theorem dX10_read_61 : decode cX10_read 61 = .ok (.getfield 9, 3) := by decide +kernel
theorem dX10_read_64 : decode cX10_read 64 = .ok (.sipush 300, 3) := by decide +kernel
theorem dX10_read_67 : decode cX10_read 67 = .ok (.iload 4, 2) := by decide +kernel
theorem dX10_read_69 : decode cX10_read 69 = .ok (.imul, 1) := by decide +kernel
theorem dX10_read_70 : decode cX10_read 70 = .ok (.aload_n 0, 1) := by decide +kernel
theorem dX10_read_71 : decode cX10_read 71 = .ok (.getfield 13, 3) := by decide +kernel
theorem dX10_read_74 : decode cX10_read 74 = .ok (.iload 4, 2) := by decide +kernel
theorem dX10_read_76 : decode cX10_read 76 = .ok (.iaload, 1) := by decide +kernel
theorem dX10_read_77 : decode cX10_read 77 = .ok (.iadd, 1) := by decide +kernel
theorem dX10_read_78 : decode cX10_read 78 = .ok (.iload_n 3, 1) := by decide +kernel
theorem dX10_read_79 : decode cX10_read 79 = .ok (.iastore, 1) := by decide +kernel
theorem dX10_read_80 : decode cX10_read 80 = .ok (.aload_n 0, 1) := by decide +kernel
theorem dX10_read_81 : decode cX10_read 81 = .ok (.getfield 13, 3) := by decide +kernel
theorem dX10_read_84 : decode cX10_read 84 = .ok (.iload 4, 2) := by decide +kernel
theorem dX10_read_86 : decode cX10_read 86 = .ok (.dup2, 1) := by decide +kernel
theorem dX10_read_87 : decode cX10_read 87 = .ok (.iaload, 1) := by decide +kernel
theorem dX10_read_88 : decode cX10_read 88 = .ok (.iconst 1, 1) := by decide +kernel
theorem dX10_read_89 : decode cX10_read 89 = .ok (.iadd, 1) := by decide +kernel
theorem dX10_read_90 : decode cX10_read 90 = .ok (.iastore, 1) := by decide +kernel
theorem dX10_read_91 : decode cX10_read 91 = .ok (.aload_n 0, 1) := by decide +kernel
theorem dX10_read_92 : decode cX10_read 92 = .ok (.getfield 13, 3) := by decide +kernel
theorem dX10_read_95 : decode cX10_read 95 = .ok (.iload 4, 2) := by decide +kernel
theorem dX10_read_97 : decode cX10_read 97 = .ok (.iaload, 1) := by decide +kernel
theorem dX10_read_98 : decode cX10_read 98 = .ok (.ireturn, 1) := by decide +kernel
theorem dX10_lost_0 : decode cX10_lost 0 = .ok (.aload_n 0, 1) := by decide +kernel
theorem dX10_lost_1 : decode cX10_lost 1 = .ok (.iload_n 1, 1) := by decide +kernel
theorem dX10_lost_2 : decode cX10_lost 2 = .ok (.iload_n 2, 1) := by decide +kernel
theorem dX10_lost_3 : decode cX10_lost 3 = .ok (.invokevirtual 121, 3) := by decide +kernel
theorem dX10_lost_6 : decode cX10_lost 6 = .ok (.ifCond .eq 28, 3) := by decide +kernel
theorem dX10_lost_9 : decode cX10_lost 9 = .ok (.aload_n 0, 1) := by decide +kernel
theorem dX10_lost_10 : decode cX10_lost 10 = .ok (.iload_n 3, 1) := by decide +kernel
theorem dX10_lost_11 : decode cX10_lost 11 = .ok (.iconst 1, 1) := by decide +kernel
theorem dX10_lost_12 : decode cX10_lost 12 = .ok (.if_icmp .lt 10, 3) := by decide +kernel
theorem dX10_lost_15 : decode cX10_lost 15 = .ok (.iload_n 3, 1) := by decide +kernel
theorem dX10_lost_16 : decode cX10_lost 16 = .ok (.sipush 300, 3) := by decide +kernel
theorem dX10_lost_19 : decode cX10_lost 19 = .ok (.if_icmp .le 7, 3) := by decide +kernel
theorem dX10_lost_22 : decode cX10_lost 22 = .ok (.iconst 1, 1) := by decide +kernel
theorem dX10_lost_23 : decode cX10_lost 23 = .ok (.goto 4, 3) := by decide +kernel
theorem dX10_lost_26 : decode cX10_lost 26 = .ok (.iconst 0, 1) := by decide +kernel
theorem dX10_lost_27 : decode cX10_lost 27 = .ok (.iconst 2, 1) := by decide +kernel
theorem dX10_lost_28 : decode cX10_lost 28 = .ok (.invokevirtual 125, 3) := by decide +kernel
theorem dX10_lost_31 : decode cX10_lost 31 = .ok (.ifCond .eq 5, 3) := by decide +kernel
theorem dX10_lost_34 : decode cX10_lost 34 = .ok (.iconst 0, 1) := by decide +kernel
theorem dX10_lost_35 : decode cX10_lost 35 = .ok (.ireturn, 1) := by decide +kernel
theorem dX10_lost_36 : decode cX10_lost 36 = .ok (.iload_n 1, 1) := by decide +kernel
theorem dX10_lost_37 : decode cX10_lost 37 = .ok (.iload_n 2, 1) := by decide +kernel
theorem dX10_lost_38 : decode cX10_lost 38 = .ok (.invokestatic 129, 3) := by decide +kernel
theorem dX10_lost_41 : decode cX10_lost 41 = .ok (.istore 4, 2) := by decide +kernel
theorem dX10_lost_43 : decode cX10_lost 43 = .ok (.aload_n 0, 1) := by decide +kernel
theorem dX10_lost_44 : decode cX10_lost 44 = .ok (.getfield 13, 3) := by decide +kernel
theorem dX10_lost_47 : decode cX10_lost 47 = .ok (.iload 4, 2) := by decide +kernel
theorem dX10_lost_49 : decode cX10_lost 49 = .ok (.iaload, 1) := by decide +kernel
theorem dX10_lost_50 : decode cX10_lost 50 = .ok (.iload_n 3, 1) := by decide +kernel
theorem dX10_lost_51 : decode cX10_lost 51 = .ok (.iadd, 1) := by decide +kernel
theorem dX10_lost_52 : decode cX10_lost 52 = .ok (.sipush 300, 3) := by decide +kernel
theorem dX10_lost_55 : decode cX10_lost 55 = .ok (.if_icmp .le 5, 3) := by decide +kernel
theorem dX10_lost_58 : decode cX10_lost 58 = .ok (.iconst (-1), 1) := by decide +kernel
theorem dX10_lost_59 : decode cX10_lost 59 = .ok (.ireturn, 1) := by decide +kernel
theorem dX10_lost_60 : decode cX10_lost 60 = .ok (.iconst 0, 1) := by decide +kernel
theorem dX10_lost_61 : decode cX10_lost 61 = .ok (.istore 5, 2) := by decide +kernel
theorem dX10_lost_63 : decode cX10_lost 63 = .ok (.iload 5, 2) := by decide +kernel
theorem dX10_lost_65 : decode cX10_lost 65 = .ok (.iload_n 3, 1) := by decide +kernel
theorem dX10_lost_66 : decode cX10_lost 66 = .ok (.if_icmp .ge 41, 3) := by decide +kernel
theorem dX10_lost_69 : decode cX10_lost 69 = .ok (.aload_n 0, 1) := by decide +kernel
theorem dX10_lost_70 : decode cX10_lost 70 = .ok (.getfield 9, 3) := by decide +kernel
theorem dX10_lost_73 : decode cX10_lost 73 = .ok (.sipush 300, 3) := by decide +kernel
theorem dX10_lost_76 : decode cX10_lost 76 = .ok (.iload 4, 2) := by decide +kernel
theorem dX10_lost_78 : decode cX10_lost 78 = .ok (.imul, 1) := by decide +kernel
theorem dX10_lost_79 : decode cX10_lost 79 = .ok (.aload_n 0, 1) := by decide +kernel
theorem dX10_lost_80 : decode cX10_lost 80 = .ok (.getfield 13, 3) := by decide +kernel
theorem dX10_lost_83 : decode cX10_lost 83 = .ok (.iload 4, 2) := by decide +kernel
theorem dX10_lost_85 : decode cX10_lost 85 = .ok (.iaload, 1) := by decide +kernel
theorem dX10_lost_86 : decode cX10_lost 86 = .ok (.iadd, 1) := by decide +kernel
theorem dX10_lost_87 : decode cX10_lost 87 = .ok (.ldc 113, 2) := by decide +kernel
theorem dX10_lost_89 : decode cX10_lost 89 = .ok (.iastore, 1) := by decide +kernel
theorem dX10_lost_90 : decode cX10_lost 90 = .ok (.aload_n 0, 1) := by decide +kernel
theorem dX10_lost_91 : decode cX10_lost 91 = .ok (.getfield 13, 3) := by decide +kernel
theorem dX10_lost_94 : decode cX10_lost 94 = .ok (.iload 4, 2) := by decide +kernel
theorem dX10_lost_96 : decode cX10_lost 96 = .ok (.dup2, 1) := by decide +kernel
theorem dX10_lost_97 : decode cX10_lost 97 = .ok (.iaload, 1) := by decide +kernel
theorem dX10_lost_98 : decode cX10_lost 98 = .ok (.iconst 1, 1) := by decide +kernel
theorem dX10_lost_99 : decode cX10_lost 99 = .ok (.iadd, 1) := by decide +kernel
theorem dX10_lost_100 : decode cX10_lost 100 = .ok (.iastore, 1) := by decide +kernel
theorem dX10_lost_101 : decode cX10_lost 101 = .ok (.iinc 5 1, 3) := by decide +kernel
theorem dX10_lost_104 : decode cX10_lost 104 = .ok (.goto (-41), 3) := by decide +kernel
theorem dX10_lost_107 : decode cX10_lost 107 = .ok (.aload_n 0, 1) := by decide +kernel
theorem dX10_lost_108 : decode cX10_lost 108 = .ok (.getfield 13, 3) := by decide +kernel
theorem dX10_lost_111 : decode cX10_lost 111 = .ok (.iload 4, 2) := by decide +kernel
theorem dX10_lost_113 : decode cX10_lost 113 = .ok (.iaload, 1) := by decide +kernel
theorem dX10_lost_114 : decode cX10_lost 114 = .ok (.ireturn, 1) := by decide +kernel
theorem dX10_reading_0 : decode cX10_reading 0 = .ok (.iload_n 1, 1) := by decide +kernel
theorem dX10_reading_1 : decode cX10_reading 1 = .ok (.iload_n 2, 1) := by decide +kernel
theorem dX10_reading_2 : decode cX10_reading 2 = .ok (.invokestatic 129, 3) := by decide +kernel
theorem dX10_reading_5 : decode cX10_reading 5 = .ok (.istore 4, 2) := by decide +kernel
theorem dX10_reading_7 : decode cX10_reading 7 = .ok (.iload_n 3, 1) := by decide +kernel
theorem dX10_reading_8 : decode cX10_reading 8 = .ok (.ifCond .lt 30, 3) := by decide +kernel
theorem dX10_reading_11 : decode cX10_reading 11 = .ok (.iload_n 3, 1) := by decide +kernel
theorem dX10_reading_12 : decode cX10_reading 12 = .ok (.aload_n 0, 1) := by decide +kernel
theorem dX10_reading_13 : decode cX10_reading 13 = .ok (.getfield 13, 3) := by decide +kernel
theorem dX10_reading_16 : decode cX10_reading 16 = .ok (.iload 4, 2) := by decide +kernel
theorem dX10_reading_18 : decode cX10_reading 18 = .ok (.iaload, 1) := by decide +kernel
theorem dX10_reading_19 : decode cX10_reading 19 = .ok (.if_icmp .ge 19, 3) := by decide +kernel
theorem dX10_reading_22 : decode cX10_reading 22 = .ok (.aload_n 0, 1) := by decide +kernel
theorem dX10_reading_23 : decode cX10_reading 23 = .ok (.getfield 9, 3) := by decide +kernel
theorem dX10_reading_26 : decode cX10_reading 26 = .ok (.sipush 300, 3) := by decide +kernel
theorem dX10_reading_29 : decode cX10_reading 29 = .ok (.iload 4, 2) := by decide +kernel
theorem dX10_reading_31 : decode cX10_reading 31 = .ok (.imul, 1) := by decide +kernel
theorem dX10_reading_32 : decode cX10_reading 32 = .ok (.iload_n 3, 1) := by decide +kernel
theorem dX10_reading_33 : decode cX10_reading 33 = .ok (.iadd, 1) := by decide +kernel
theorem dX10_reading_34 : decode cX10_reading 34 = .ok (.iaload, 1) := by decide +kernel
theorem dX10_reading_35 : decode cX10_reading 35 = .ok (.goto 5, 3) := by decide +kernel
theorem dX10_reading_38 : decode cX10_reading 38 = .ok (.ldc 113, 2) := by decide +kernel
theorem dX10_reading_40 : decode cX10_reading 40 = .ok (.ireturn, 1) := by decide +kernel
theorem dX10_at_0 : decode cX10_at 0 = .ok (.aload_n 0, 1) := by decide +kernel
theorem dX10_at_1 : decode cX10_at 1 = .ok (.iload_n 1, 1) := by decide +kernel
theorem dX10_at_2 : decode cX10_at 2 = .ok (.iload_n 2, 1) := by decide +kernel
theorem dX10_at_3 : decode cX10_at 3 = .ok (.invokevirtual 121, 3) := by decide +kernel
theorem dX10_at_6 : decode cX10_at 6 = .ok (.ifCond .eq 13, 3) := by decide +kernel
theorem dX10_at_9 : decode cX10_at 9 = .ok (.aload_n 0, 1) := by decide +kernel
theorem dX10_at_10 : decode cX10_at 10 = .ok (.iload_n 1, 1) := by decide +kernel
theorem dX10_at_11 : decode cX10_at 11 = .ok (.iload_n 2, 1) := by decide +kernel
theorem dX10_at_12 : decode cX10_at 12 = .ok (.iload_n 3, 1) := by decide +kernel
theorem dX10_at_13 : decode cX10_at 13 = .ok (.invokevirtual 133, 3) := by decide +kernel
theorem dX10_at_16 : decode cX10_at 16 = .ok (.goto 4, 3) := by decide +kernel
theorem dX10_at_19 : decode cX10_at 19 = .ok (.iconst 0, 1) := by decide +kernel
theorem dX10_at_20 : decode cX10_at 20 = .ok (.ireturn, 1) := by decide +kernel
theorem dX10_shift_0 : decode cX10_shift 0 = .ok (.aload_n 0, 1) := by decide +kernel
theorem dX10_shift_1 : decode cX10_shift 1 = .ok (.iload_n 1, 1) := by decide +kernel
theorem dX10_shift_2 : decode cX10_shift 2 = .ok (.iload_n 2, 1) := by decide +kernel
theorem dX10_shift_3 : decode cX10_shift 3 = .ok (.invokevirtual 121, 3) := by decide +kernel
theorem dX10_shift_6 : decode cX10_shift 6 = .ok (.ifCond .eq 34, 3) := by decide +kernel
theorem dX10_shift_9 : decode cX10_shift 9 = .ok (.aload_n 0, 1) := by decide +kernel
theorem dX10_shift_10 : decode cX10_shift 10 = .ok (.iload_n 3, 1) := by decide +kernel
theorem dX10_shift_11 : decode cX10_shift 11 = .ok (.ifCond .lt 17, 3) := by decide +kernel
theorem dX10_shift_14 : decode cX10_shift 14 = .ok (.iload 4, 2) := by decide +kernel
theorem dX10_shift_16 : decode cX10_shift 16 = .ok (.ldc 137, 2) := by decide +kernel
theorem dX10_shift_18 : decode cX10_shift 18 = .ok (.if_icmp .lt 10, 3) := by decide +kernel
theorem dX10_shift_21 : decode cX10_shift 21 = .ok (.iload 4, 2) := by decide +kernel
theorem dX10_shift_23 : decode cX10_shift 23 = .ok (.ldc 138, 2) := by decide +kernel
theorem dX10_shift_25 : decode cX10_shift 25 = .ok (.if_icmp .le 7, 3) := by decide +kernel
theorem dX10_shift_28 : decode cX10_shift 28 = .ok (.iconst 1, 1) := by decide +kernel
theorem dX10_shift_29 : decode cX10_shift 29 = .ok (.goto 4, 3) := by decide +kernel
theorem dX10_shift_32 : decode cX10_shift 32 = .ok (.iconst 0, 1) := by decide +kernel
theorem dX10_shift_33 : decode cX10_shift 33 = .ok (.iconst 2, 1) := by decide +kernel
theorem dX10_shift_34 : decode cX10_shift 34 = .ok (.invokevirtual 125, 3) := by decide +kernel
theorem dX10_shift_37 : decode cX10_shift 37 = .ok (.ifCond .eq 5, 3) := by decide +kernel
theorem dX10_shift_40 : decode cX10_shift 40 = .ok (.iconst 0, 1) := by decide +kernel
theorem dX10_shift_41 : decode cX10_shift 41 = .ok (.ireturn, 1) := by decide +kernel
theorem dX10_shift_42 : decode cX10_shift 42 = .ok (.iload_n 1, 1) := by decide +kernel
theorem dX10_shift_43 : decode cX10_shift 43 = .ok (.iload_n 2, 1) := by decide +kernel
theorem dX10_shift_44 : decode cX10_shift 44 = .ok (.invokestatic 129, 3) := by decide +kernel
theorem dX10_shift_47 : decode cX10_shift 47 = .ok (.istore 5, 2) := by decide +kernel
theorem dX10_shift_49 : decode cX10_shift 49 = .ok (.iconst 0, 1) := by decide +kernel
theorem dX10_shift_50 : decode cX10_shift 50 = .ok (.istore 6, 2) := by decide +kernel
theorem dX10_shift_52 : decode cX10_shift 52 = .ok (.iload_n 3, 1) := by decide +kernel
theorem dX10_shift_53 : decode cX10_shift 53 = .ok (.istore 7, 2) := by decide +kernel
theorem dX10_shift_55 : decode cX10_shift 55 = .ok (.iload 7, 2) := by decide +kernel
theorem dX10_shift_57 : decode cX10_shift 57 = .ok (.aload_n 0, 1) := by decide +kernel
theorem dX10_shift_58 : decode cX10_shift 58 = .ok (.getfield 13, 3) := by decide +kernel
theorem dX10_shift_61 : decode cX10_shift 61 = .ok (.iload 5, 2) := by decide +kernel
theorem dX10_shift_63 : decode cX10_shift 63 = .ok (.iaload, 1) := by decide +kernel
theorem dX10_shift_64 : decode cX10_shift 64 = .ok (.if_icmp .ge 62, 3) := by decide +kernel
theorem dX10_shift_67 : decode cX10_shift 67 = .ok (.aload_n 0, 1) := by decide +kernel
theorem dX10_shift_68 : decode cX10_shift 68 = .ok (.getfield 9, 3) := by decide +kernel
theorem dX10_shift_71 : decode cX10_shift 71 = .ok (.sipush 300, 3) := by decide +kernel
theorem dX10_shift_74 : decode cX10_shift 74 = .ok (.iload 5, 2) := by decide +kernel
theorem dX10_shift_76 : decode cX10_shift 76 = .ok (.imul, 1) := by decide +kernel
theorem dX10_shift_77 : decode cX10_shift 77 = .ok (.iload 7, 2) := by decide +kernel
theorem dX10_shift_79 : decode cX10_shift 79 = .ok (.iadd, 1) := by decide +kernel
theorem dX10_shift_80 : decode cX10_shift 80 = .ok (.iaload, 1) := by decide +kernel
theorem dX10_shift_81 : decode cX10_shift 81 = .ok (.istore 8, 2) := by decide +kernel
theorem dX10_shift_83 : decode cX10_shift 83 = .ok (.iload 8, 2) := by decide +kernel
theorem dX10_shift_85 : decode cX10_shift 85 = .ok (.ldc 113, 2) := by decide +kernel
theorem dX10_shift_87 : decode cX10_shift 87 = .ok (.if_icmp .ne 6, 3) := by decide +kernel
theorem dX10_shift_90 : decode cX10_shift 90 = .ok (.goto 30, 3) := by decide +kernel
theorem dX10_shift_93 : decode cX10_shift 93 = .ok (.iload 8, 2) := by decide +kernel
theorem dX10_shift_95 : decode cX10_shift 95 = .ok (.iload 4, 2) := by decide +kernel
theorem dX10_shift_97 : decode cX10_shift 97 = .ok (.iadd, 1) := by decide +kernel
theorem dX10_shift_98 : decode cX10_shift 98 = .ok (.sipush (-30000), 3) := by decide +kernel
theorem dX10_shift_101 : decode cX10_shift 101 = .ok (.if_icmp .lt 14, 3) := by decide +kernel
theorem dX10_shift_104 : decode cX10_shift 104 = .ok (.iload 8, 2) := by decide +kernel
theorem dX10_shift_106 : decode cX10_shift 106 = .ok (.iload 4, 2) := by decide +kernel
theorem dX10_shift_108 : decode cX10_shift 108 = .ok (.iadd, 1) := by decide +kernel
theorem dX10_shift_109 : decode cX10_shift 109 = .ok (.sipush 30000, 3) := by decide +kernel
theorem dX10_shift_112 : decode cX10_shift 112 = .ok (.if_icmp .le 5, 3) := by decide +kernel
theorem dX10_shift_115 : decode cX10_shift 115 = .ok (.iconst (-1), 1) := by decide +kernel
theorem dX10_shift_116 : decode cX10_shift 116 = .ok (.ireturn, 1) := by decide +kernel
theorem dX10_shift_117 : decode cX10_shift 117 = .ok (.iinc 6 1, 3) := by decide +kernel
theorem dX10_shift_120 : decode cX10_shift 120 = .ok (.iinc 7 1, 3) := by decide +kernel
theorem dX10_shift_123 : decode cX10_shift 123 = .ok (.goto (-68), 3) := by decide +kernel
theorem dX10_shift_126 : decode cX10_shift 126 = .ok (.iload_n 3, 1) := by decide +kernel
theorem dX10_shift_127 : decode cX10_shift 127 = .ok (.istore 7, 2) := by decide +kernel
theorem dX10_shift_129 : decode cX10_shift 129 = .ok (.iload 7, 2) := by decide +kernel
theorem dX10_shift_131 : decode cX10_shift 131 = .ok (.aload_n 0, 1) := by decide +kernel
theorem dX10_shift_132 : decode cX10_shift 132 = .ok (.getfield 13, 3) := by decide +kernel
theorem dX10_shift_135 : decode cX10_shift 135 = .ok (.iload 5, 2) := by decide +kernel
theorem dX10_shift_137 : decode cX10_shift 137 = .ok (.iaload, 1) := by decide +kernel
theorem dX10_shift_138 : decode cX10_shift 138 = .ok (.if_icmp .ge 47, 3) := by decide +kernel
theorem dX10_shift_141 : decode cX10_shift 141 = .ok (.aload_n 0, 1) := by decide +kernel
theorem dX10_shift_142 : decode cX10_shift 142 = .ok (.getfield 9, 3) := by decide +kernel
theorem dX10_shift_145 : decode cX10_shift 145 = .ok (.sipush 300, 3) := by decide +kernel
theorem dX10_shift_148 : decode cX10_shift 148 = .ok (.iload 5, 2) := by decide +kernel
theorem dX10_shift_150 : decode cX10_shift 150 = .ok (.imul, 1) := by decide +kernel
theorem dX10_shift_151 : decode cX10_shift 151 = .ok (.iload 7, 2) := by decide +kernel
theorem dX10_shift_153 : decode cX10_shift 153 = .ok (.iadd, 1) := by decide +kernel
theorem dX10_shift_154 : decode cX10_shift 154 = .ok (.iaload, 1) := by decide +kernel
theorem dX10_shift_155 : decode cX10_shift 155 = .ok (.ldc 113, 2) := by decide +kernel
theorem dX10_shift_157 : decode cX10_shift 157 = .ok (.if_icmp .eq 22, 3) := by decide +kernel
theorem dX10_shift_160 : decode cX10_shift 160 = .ok (.aload_n 0, 1) := by decide +kernel
theorem dX10_shift_161 : decode cX10_shift 161 = .ok (.getfield 9, 3) := by decide +kernel
theorem dX10_shift_164 : decode cX10_shift 164 = .ok (.sipush 300, 3) := by decide +kernel
theorem dX10_shift_167 : decode cX10_shift 167 = .ok (.iload 5, 2) := by decide +kernel
theorem dX10_shift_169 : decode cX10_shift 169 = .ok (.imul, 1) := by decide +kernel
theorem dX10_shift_170 : decode cX10_shift 170 = .ok (.iload 7, 2) := by decide +kernel
theorem dX10_shift_172 : decode cX10_shift 172 = .ok (.iadd, 1) := by decide +kernel
theorem dX10_shift_173 : decode cX10_shift 173 = .ok (.dup2, 1) := by decide +kernel
theorem dX10_shift_174 : decode cX10_shift 174 = .ok (.iaload, 1) := by decide +kernel
theorem dX10_shift_175 : decode cX10_shift 175 = .ok (.iload 4, 2) := by decide +kernel
theorem dX10_shift_177 : decode cX10_shift 177 = .ok (.iadd, 1) := by decide +kernel
theorem dX10_shift_178 : decode cX10_shift 178 = .ok (.iastore, 1) := by decide +kernel
theorem dX10_shift_179 : decode cX10_shift 179 = .ok (.iinc 7 1, 3) := by decide +kernel
theorem dX10_shift_182 : decode cX10_shift 182 = .ok (.goto (-53), 3) := by decide +kernel
theorem dX10_shift_185 : decode cX10_shift 185 = .ok (.iload 6, 2) := by decide +kernel
theorem dX10_shift_187 : decode cX10_shift 187 = .ok (.ireturn, 1) := by decide +kernel
theorem dX10_apart_0 : decode cX10_apart 0 = .ok (.iload_n 0, 1) := by decide +kernel
theorem dX10_apart_1 : decode cX10_apart 1 = .ok (.iload_n 1, 1) := by decide +kernel
theorem dX10_apart_2 : decode cX10_apart 2 = .ok (.if_icmp .ge 9, 3) := by decide +kernel
theorem dX10_apart_5 : decode cX10_apart 5 = .ok (.iload_n 1, 1) := by decide +kernel
theorem dX10_apart_6 : decode cX10_apart 6 = .ok (.iload_n 0, 1) := by decide +kernel
theorem dX10_apart_7 : decode cX10_apart 7 = .ok (.isub, 1) := by decide +kernel
theorem dX10_apart_8 : decode cX10_apart 8 = .ok (.goto 6, 3) := by decide +kernel
theorem dX10_apart_11 : decode cX10_apart 11 = .ok (.iload_n 0, 1) := by decide +kernel
theorem dX10_apart_12 : decode cX10_apart 12 = .ok (.iload_n 1, 1) := by decide +kernel
theorem dX10_apart_13 : decode cX10_apart 13 = .ok (.isub, 1) := by decide +kernel
theorem dX10_apart_14 : decode cX10_apart 14 = .ok (.ireturn, 1) := by decide +kernel
theorem dX10_leap_0 : decode cX10_leap 0 = .ok (.aload_n 0, 1) := by decide +kernel
theorem dX10_leap_1 : decode cX10_leap 1 = .ok (.iload_n 1, 1) := by decide +kernel
theorem dX10_leap_2 : decode cX10_leap 2 = .ok (.iload_n 2, 1) := by decide +kernel
theorem dX10_leap_3 : decode cX10_leap 3 = .ok (.iload_n 3, 1) := by decide +kernel
theorem dX10_leap_4 : decode cX10_leap 4 = .ok (.iconst 1, 1) := by decide +kernel
theorem dX10_leap_5 : decode cX10_leap 5 = .ok (.isub, 1) := by decide +kernel
theorem dX10_leap_6 : decode cX10_leap 6 = .ok (.invokevirtual 133, 3) := by decide +kernel
theorem dX10_leap_9 : decode cX10_leap 9 = .ok (.istore 4, 2) := by decide +kernel
theorem dX10_leap_11 : decode cX10_leap 11 = .ok (.aload_n 0, 1) := by decide +kernel
theorem dX10_leap_12 : decode cX10_leap 12 = .ok (.iload_n 1, 1) := by decide +kernel
theorem dX10_leap_13 : decode cX10_leap 13 = .ok (.iload_n 2, 1) := by decide +kernel
theorem dX10_leap_14 : decode cX10_leap 14 = .ok (.iload_n 3, 1) := by decide +kernel
theorem dX10_leap_15 : decode cX10_leap 15 = .ok (.invokevirtual 133, 3) := by decide +kernel
theorem dX10_leap_18 : decode cX10_leap 18 = .ok (.istore 5, 2) := by decide +kernel
theorem dX10_leap_20 : decode cX10_leap 20 = .ok (.iload 4, 2) := by decide +kernel
theorem dX10_leap_22 : decode cX10_leap 22 = .ok (.ldc 113, 2) := by decide +kernel
theorem dX10_leap_24 : decode cX10_leap 24 = .ok (.if_icmp .eq 10, 3) := by decide +kernel
theorem dX10_leap_27 : decode cX10_leap 27 = .ok (.iload 5, 2) := by decide +kernel
theorem dX10_leap_29 : decode cX10_leap 29 = .ok (.ldc 113, 2) := by decide +kernel
theorem dX10_leap_31 : decode cX10_leap 31 = .ok (.if_icmp .ne 7, 3) := by decide +kernel
theorem dX10_leap_34 : decode cX10_leap 34 = .ok (.iconst (-1), 1) := by decide +kernel
theorem dX10_leap_35 : decode cX10_leap 35 = .ok (.goto 10, 3) := by decide +kernel
theorem dX10_leap_38 : decode cX10_leap 38 = .ok (.iload 4, 2) := by decide +kernel
theorem dX10_leap_40 : decode cX10_leap 40 = .ok (.iload 5, 2) := by decide +kernel
theorem dX10_leap_42 : decode cX10_leap 42 = .ok (.invokestatic 139, 3) := by decide +kernel
theorem dX10_leap_45 : decode cX10_leap 45 = .ok (.ireturn, 1) := by decide +kernel
theorem dX10_jump_0 : decode cX10_jump 0 = .ok (.aload_n 0, 1) := by decide +kernel
theorem dX10_jump_1 : decode cX10_jump 1 = .ok (.iload_n 1, 1) := by decide +kernel
theorem dX10_jump_2 : decode cX10_jump 2 = .ok (.iload_n 2, 1) := by decide +kernel
theorem dX10_jump_3 : decode cX10_jump 3 = .ok (.invokevirtual 121, 3) := by decide +kernel
theorem dX10_jump_6 : decode cX10_jump 6 = .ok (.ifCond .ne 5, 3) := by decide +kernel
theorem dX10_jump_9 : decode cX10_jump 9 = .ok (.iconst 0, 1) := by decide +kernel
theorem dX10_jump_10 : decode cX10_jump 10 = .ok (.ireturn, 1) := by decide +kernel
theorem dX10_jump_11 : decode cX10_jump 11 = .ok (.iload_n 3, 1) := by decide +kernel
theorem dX10_jump_12 : decode cX10_jump 12 = .ok (.istore 4, 2) := by decide +kernel
theorem dX10_jump_14 : decode cX10_jump 14 = .ok (.iconst 1, 1) := by decide +kernel
theorem dX10_jump_15 : decode cX10_jump 15 = .ok (.istore 5, 2) := by decide +kernel
theorem dX10_jump_17 : decode cX10_jump 17 = .ok (.iload 5, 2) := by decide +kernel
theorem dX10_jump_19 : decode cX10_jump 19 = .ok (.sipush 300, 3) := by decide +kernel
theorem dX10_jump_22 : decode cX10_jump 22 = .ok (.if_icmp .ge 72, 3) := by decide +kernel
theorem dX10_jump_25 : decode cX10_jump 25 = .ok (.iload_n 3, 1) := by decide +kernel
theorem dX10_jump_26 : decode cX10_jump 26 = .ok (.ifCond .lt 68, 3) := by decide +kernel
theorem dX10_jump_29 : decode cX10_jump 29 = .ok (.aload_n 0, 1) := by decide +kernel
theorem dX10_jump_30 : decode cX10_jump 30 = .ok (.iload_n 1, 1) := by decide +kernel
theorem dX10_jump_31 : decode cX10_jump 31 = .ok (.iload_n 2, 1) := by decide +kernel
theorem dX10_jump_32 : decode cX10_jump 32 = .ok (.iload 5, 2) := by decide +kernel
theorem dX10_jump_34 : decode cX10_jump 34 = .ok (.invokevirtual 142, 3) := by decide +kernel
theorem dX10_jump_37 : decode cX10_jump 37 = .ok (.istore 6, 2) := by decide +kernel
theorem dX10_jump_39 : decode cX10_jump 39 = .ok (.aload_n 0, 1) := by decide +kernel
theorem dX10_jump_40 : decode cX10_jump 40 = .ok (.iconst 1, 1) := by decide +kernel
theorem dX10_jump_41 : decode cX10_jump 41 = .ok (.iload_n 1, 1) := by decide +kernel
theorem dX10_jump_42 : decode cX10_jump 42 = .ok (.isub, 1) := by decide +kernel
theorem dX10_jump_43 : decode cX10_jump 43 = .ok (.iload_n 2, 1) := by decide +kernel
theorem dX10_jump_44 : decode cX10_jump 44 = .ok (.iload 5, 2) := by decide +kernel
theorem dX10_jump_46 : decode cX10_jump 46 = .ok (.invokevirtual 142, 3) := by decide +kernel
theorem dX10_jump_49 : decode cX10_jump 49 = .ok (.istore 7, 2) := by decide +kernel
theorem dX10_jump_51 : decode cX10_jump 51 = .ok (.iload 6, 2) := by decide +kernel
theorem dX10_jump_53 : decode cX10_jump 53 = .ok (.aload_n 0, 1) := by decide +kernel
theorem dX10_jump_54 : decode cX10_jump 54 = .ok (.getfield 73, 3) := by decide +kernel
theorem dX10_jump_57 : decode cX10_jump 57 = .ok (.if_icmp .le 31, 3) := by decide +kernel
theorem dX10_jump_60 : decode cX10_jump 60 = .ok (.iload 7, 2) := by decide +kernel
theorem dX10_jump_62 : decode cX10_jump 62 = .ok (.ifCond .lt 26, 3) := by decide +kernel
theorem dX10_jump_65 : decode cX10_jump 65 = .ok (.iload 7, 2) := by decide +kernel
theorem dX10_jump_67 : decode cX10_jump 67 = .ok (.aload_n 0, 1) := by decide +kernel
theorem dX10_jump_68 : decode cX10_jump 68 = .ok (.getfield 73, 3) := by decide +kernel
theorem dX10_jump_71 : decode cX10_jump 71 = .ok (.if_icmp .le 6, 3) := by decide +kernel
theorem dX10_jump_74 : decode cX10_jump 74 = .ok (.goto 14, 3) := by decide +kernel
theorem dX10_jump_77 : decode cX10_jump 77 = .ok (.iload 4, 2) := by decide +kernel
theorem dX10_jump_79 : decode cX10_jump 79 = .ok (.ifCond .ne 6, 3) := by decide +kernel
theorem dX10_jump_82 : decode cX10_jump 82 = .ok (.iload 5, 2) := by decide +kernel
theorem dX10_jump_84 : decode cX10_jump 84 = .ok (.ireturn, 1) := by decide +kernel
theorem dX10_jump_85 : decode cX10_jump 85 = .ok (.iinc 4 (-1), 3) := by decide +kernel
theorem dX10_jump_88 : decode cX10_jump 88 = .ok (.iinc 5 1, 3) := by decide +kernel
theorem dX10_jump_91 : decode cX10_jump 91 = .ok (.goto (-74), 3) := by decide +kernel
theorem dX10_jump_94 : decode cX10_jump 94 = .ok (.iconst (-1), 1) := by decide +kernel
theorem dX10_jump_95 : decode cX10_jump 95 = .ok (.ireturn, 1) := by decide +kernel
theorem dX10_joins_0 : decode cX10_joins 0 = .ok (.ldc 113, 2) := by decide +kernel
theorem dX10_joins_2 : decode cX10_joins 2 = .ok (.istore_n 2, 1) := by decide +kernel
theorem dX10_joins_3 : decode cX10_joins 3 = .ok (.iconst 0, 1) := by decide +kernel
theorem dX10_joins_4 : decode cX10_joins 4 = .ok (.istore_n 3, 1) := by decide +kernel
theorem dX10_joins_5 : decode cX10_joins 5 = .ok (.iload_n 3, 1) := by decide +kernel
theorem dX10_joins_6 : decode cX10_joins 6 = .ok (.sipush 300, 3) := by decide +kernel
theorem dX10_joins_9 : decode cX10_joins 9 = .ok (.if_icmp .ge 125, 3) := by decide +kernel
theorem dX10_joins_12 : decode cX10_joins 12 = .ok (.aload_n 0, 1) := by decide +kernel
theorem dX10_joins_13 : decode cX10_joins 13 = .ok (.iconst 0, 1) := by decide +kernel
theorem dX10_joins_14 : decode cX10_joins 14 = .ok (.iload_n 1, 1) := by decide +kernel
theorem dX10_joins_15 : decode cX10_joins 15 = .ok (.iload_n 3, 1) := by decide +kernel
theorem dX10_joins_16 : decode cX10_joins 16 = .ok (.invokevirtual 133, 3) := by decide +kernel
theorem dX10_joins_19 : decode cX10_joins 19 = .ok (.istore 4, 2) := by decide +kernel
theorem dX10_joins_21 : decode cX10_joins 21 = .ok (.aload_n 0, 1) := by decide +kernel
theorem dX10_joins_22 : decode cX10_joins 22 = .ok (.iconst 1, 1) := by decide +kernel
theorem dX10_joins_23 : decode cX10_joins 23 = .ok (.iload_n 1, 1) := by decide +kernel
theorem dX10_joins_24 : decode cX10_joins 24 = .ok (.iload_n 3, 1) := by decide +kernel
theorem dX10_joins_25 : decode cX10_joins 25 = .ok (.invokevirtual 133, 3) := by decide +kernel
theorem dX10_joins_28 : decode cX10_joins 28 = .ok (.istore 5, 2) := by decide +kernel
theorem dX10_joins_30 : decode cX10_joins 30 = .ok (.iload 4, 2) := by decide +kernel
theorem dX10_joins_32 : decode cX10_joins 32 = .ok (.ldc 113, 2) := by decide +kernel
theorem dX10_joins_34 : decode cX10_joins 34 = .ok (.if_icmp .ne 8, 3) := by decide +kernel
theorem dX10_joins_37 : decode cX10_joins 37 = .ok (.iload 5, 2) := by decide +kernel
theorem dX10_joins_39 : decode cX10_joins 39 = .ok (.goto 5, 3) := by decide +kernel
theorem dX10_joins_42 : decode cX10_joins 42 = .ok (.iload 4, 2) := by decide +kernel
theorem dX10_joins_44 : decode cX10_joins 44 = .ok (.istore 6, 2) := by decide +kernel
theorem dX10_joins_46 : decode cX10_joins 46 = .ok (.iload 4, 2) := by decide +kernel
theorem dX10_joins_48 : decode cX10_joins 48 = .ok (.ldc 113, 2) := by decide +kernel
theorem dX10_joins_50 : decode cX10_joins 50 = .ok (.if_icmp .eq 61, 3) := by decide +kernel
theorem dX10_joins_53 : decode cX10_joins 53 = .ok (.iload 5, 2) := by decide +kernel
theorem dX10_joins_55 : decode cX10_joins 55 = .ok (.ldc 113, 2) := by decide +kernel
theorem dX10_joins_57 : decode cX10_joins 57 = .ok (.if_icmp .eq 54, 3) := by decide +kernel
theorem dX10_joins_60 : decode cX10_joins 60 = .ok (.iload 4, 2) := by decide +kernel
theorem dX10_joins_62 : decode cX10_joins 62 = .ok (.iload 5, 2) := by decide +kernel
theorem dX10_joins_64 : decode cX10_joins 64 = .ok (.invokestatic 139, 3) := by decide +kernel
theorem dX10_joins_67 : decode cX10_joins 67 = .ok (.aload_n 0, 1) := by decide +kernel
theorem dX10_joins_68 : decode cX10_joins 68 = .ok (.getfield 76, 3) := by decide +kernel
theorem dX10_joins_71 : decode cX10_joins 71 = .ok (.if_icmp .gt 15, 3) := by decide +kernel
theorem dX10_joins_74 : decode cX10_joins 74 = .ok (.iload 4, 2) := by decide +kernel
theorem dX10_joins_76 : decode cX10_joins 76 = .ok (.iload 5, 2) := by decide +kernel
theorem dX10_joins_78 : decode cX10_joins 78 = .ok (.iadd, 1) := by decide +kernel
theorem dX10_joins_79 : decode cX10_joins 79 = .ok (.iconst 1, 1) := by decide +kernel
theorem dX10_joins_80 : decode cX10_joins 80 = .ok (.ishr, 1) := by decide +kernel
theorem dX10_joins_81 : decode cX10_joins 81 = .ok (.istore 6, 2) := by decide +kernel
theorem dX10_joins_83 : decode cX10_joins 83 = .ok (.goto 28, 3) := by decide +kernel
theorem dX10_joins_86 : decode cX10_joins 86 = .ok (.iload_n 2, 1) := by decide +kernel
theorem dX10_joins_87 : decode cX10_joins 87 = .ok (.ldc 113, 2) := by decide +kernel
theorem dX10_joins_89 : decode cX10_joins 89 = .ok (.if_icmp .eq 22, 3) := by decide +kernel
theorem dX10_joins_92 : decode cX10_joins 92 = .ok (.iload 5, 2) := by decide +kernel
theorem dX10_joins_94 : decode cX10_joins 94 = .ok (.iload_n 2, 1) := by decide +kernel
theorem dX10_joins_95 : decode cX10_joins 95 = .ok (.invokestatic 139, 3) := by decide +kernel
theorem dX10_joins_98 : decode cX10_joins 98 = .ok (.iload 4, 2) := by decide +kernel
theorem dX10_joins_100 : decode cX10_joins 100 = .ok (.iload_n 2, 1) := by decide +kernel
theorem dX10_joins_101 : decode cX10_joins 101 = .ok (.invokestatic 139, 3) := by decide +kernel
theorem dX10_joins_104 : decode cX10_joins 104 = .ok (.if_icmp .ge 7, 3) := by decide +kernel
theorem dX10_joins_107 : decode cX10_joins 107 = .ok (.iload 5, 2) := by decide +kernel
theorem dX10_joins_109 : decode cX10_joins 109 = .ok (.istore 6, 2) := by decide +kernel
theorem dX10_joins_111 : decode cX10_joins 111 = .ok (.aload_n 0, 1) := by decide +kernel
theorem dX10_joins_112 : decode cX10_joins 112 = .ok (.getfield 16, 3) := by decide +kernel
theorem dX10_joins_115 : decode cX10_joins 115 = .ok (.sipush 300, 3) := by decide +kernel
theorem dX10_joins_118 : decode cX10_joins 118 = .ok (.iload_n 1, 1) := by decide +kernel
theorem dX10_joins_119 : decode cX10_joins 119 = .ok (.imul, 1) := by decide +kernel
theorem dX10_joins_120 : decode cX10_joins 120 = .ok (.iload_n 3, 1) := by decide +kernel
theorem dX10_joins_121 : decode cX10_joins 121 = .ok (.iadd, 1) := by decide +kernel
theorem dX10_joins_122 : decode cX10_joins 122 = .ok (.iload 6, 2) := by decide +kernel
theorem dX10_joins_124 : decode cX10_joins 124 = .ok (.iastore, 1) := by decide +kernel
theorem dX10_joins_125 : decode cX10_joins 125 = .ok (.iload 6, 2) := by decide +kernel
theorem dX10_joins_127 : decode cX10_joins 127 = .ok (.istore_n 2, 1) := by decide +kernel
theorem dX10_joins_128 : decode cX10_joins 128 = .ok (.iinc 3 1, 3) := by decide +kernel
theorem dX10_joins_131 : decode cX10_joins 131 = .ok (.goto (-126), 3) := by decide +kernel
theorem dX10_joins_134 : decode cX10_joins 134 = .ok (.return_, 1) := by decide +kernel
theorem dX10_joinedAt_0 : decode cX10_joinedAt 0 = .ok (.iload_n 2, 1) := by decide +kernel
theorem dX10_joinedAt_1 : decode cX10_joinedAt 1 = .ok (.ifCond .lt 25, 3) := by decide +kernel
theorem dX10_joinedAt_4 : decode cX10_joinedAt 4 = .ok (.iload_n 2, 1) := by decide +kernel
theorem dX10_joinedAt_5 : decode cX10_joinedAt 5 = .ok (.sipush 300, 3) := by decide +kernel
theorem dX10_joinedAt_8 : decode cX10_joinedAt 8 = .ok (.if_icmp .ge 18, 3) := by decide +kernel
theorem dX10_joinedAt_11 : decode cX10_joinedAt 11 = .ok (.aload_n 0, 1) := by decide +kernel
theorem dX10_joinedAt_12 : decode cX10_joinedAt 12 = .ok (.getfield 16, 3) := by decide +kernel
theorem dX10_joinedAt_15 : decode cX10_joinedAt 15 = .ok (.sipush 300, 3) := by decide +kernel
theorem dX10_joinedAt_18 : decode cX10_joinedAt 18 = .ok (.iload_n 1, 1) := by decide +kernel
theorem dX10_joinedAt_19 : decode cX10_joinedAt 19 = .ok (.imul, 1) := by decide +kernel
theorem dX10_joinedAt_20 : decode cX10_joinedAt 20 = .ok (.iload_n 2, 1) := by decide +kernel
theorem dX10_joinedAt_21 : decode cX10_joinedAt 21 = .ok (.iadd, 1) := by decide +kernel
theorem dX10_joinedAt_22 : decode cX10_joinedAt 22 = .ok (.iaload, 1) := by decide +kernel
theorem dX10_joinedAt_23 : decode cX10_joinedAt 23 = .ok (.goto 5, 3) := by decide +kernel
theorem dX10_joinedAt_26 : decode cX10_joinedAt 26 = .ok (.ldc 113, 2) := by decide +kernel
theorem dX10_joinedAt_28 : decode cX10_joinedAt 28 = .ok (.ireturn, 1) := by decide +kernel
theorem dX10_joined_0 : decode cX10_joined 0 = .ok (.aload_n 0, 1) := by decide +kernel
theorem dX10_joined_1 : decode cX10_joined 1 = .ok (.iconst 0, 1) := by decide +kernel
theorem dX10_joined_2 : decode cX10_joined 2 = .ok (.putfield 114, 3) := by decide +kernel
theorem dX10_joined_5 : decode cX10_joined 5 = .ok (.aload_n 0, 1) := by decide +kernel
theorem dX10_joined_6 : decode cX10_joined 6 = .ok (.aload_n 0, 1) := by decide +kernel
theorem dX10_joined_7 : decode cX10_joined 7 = .ok (.iload_n 1, 1) := by decide +kernel
theorem dX10_joined_8 : decode cX10_joined 8 = .ok (.invokevirtual 117, 3) := by decide +kernel
theorem dX10_joined_11 : decode cX10_joined 11 = .ok (.ifCond .ne 7, 3) := by decide +kernel
theorem dX10_joined_14 : decode cX10_joined 14 = .ok (.iconst 1, 1) := by decide +kernel
theorem dX10_joined_15 : decode cX10_joined 15 = .ok (.goto 4, 3) := by decide +kernel
theorem dX10_joined_18 : decode cX10_joined 18 = .ok (.iconst 0, 1) := by decide +kernel
theorem dX10_joined_19 : decode cX10_joined 19 = .ok (.iconst 1, 1) := by decide +kernel
theorem dX10_joined_20 : decode cX10_joined 20 = .ok (.invokevirtual 125, 3) := by decide +kernel
theorem dX10_joined_23 : decode cX10_joined 23 = .ok (.ifCond .eq 5, 3) := by decide +kernel
theorem dX10_joined_26 : decode cX10_joined 26 = .ok (.iconst 0, 1) := by decide +kernel
theorem dX10_joined_27 : decode cX10_joined 27 = .ok (.ireturn, 1) := by decide +kernel
theorem dX10_joined_28 : decode cX10_joined 28 = .ok (.aload_n 0, 1) := by decide +kernel
theorem dX10_joined_29 : decode cX10_joined 29 = .ok (.iload_n 1, 1) := by decide +kernel
theorem dX10_joined_30 : decode cX10_joined 30 = .ok (.invokevirtual 145, 3) := by decide +kernel
theorem dX10_joined_33 : decode cX10_joined 33 = .ok (.aload_n 0, 1) := by decide +kernel
theorem dX10_joined_34 : decode cX10_joined 34 = .ok (.iload_n 1, 1) := by decide +kernel
theorem dX10_joined_35 : decode cX10_joined 35 = .ok (.iload_n 2, 1) := by decide +kernel
theorem dX10_joined_36 : decode cX10_joined 36 = .ok (.invokevirtual 149, 3) := by decide +kernel
theorem dX10_joined_39 : decode cX10_joined 39 = .ok (.ireturn, 1) := by decide +kernel
theorem dX10_end_0 : decode cX10_end 0 = .ok (.aload_n 0, 1) := by decide +kernel
theorem dX10_end_1 : decode cX10_end 1 = .ok (.iconst 0, 1) := by decide +kernel
theorem dX10_end_2 : decode cX10_end 2 = .ok (.putfield 114, 3) := by decide +kernel
theorem dX10_end_5 : decode cX10_end 5 = .ok (.aload_n 0, 1) := by decide +kernel
theorem dX10_end_6 : decode cX10_end 6 = .ok (.iload_n 1, 1) := by decide +kernel
theorem dX10_end_7 : decode cX10_end 7 = .ok (.ifCond .lt 10, 3) := by decide +kernel
theorem dX10_end_10 : decode cX10_end 10 = .ok (.iload_n 1, 1) := by decide +kernel
theorem dX10_end_11 : decode cX10_end 11 = .ok (.sipush 1000, 3) := by decide +kernel
theorem dX10_end_14 : decode cX10_end 14 = .ok (.if_icmp .le 7, 3) := by decide +kernel
theorem dX10_end_17 : decode cX10_end 17 = .ok (.iconst 1, 1) := by decide +kernel
theorem dX10_end_18 : decode cX10_end 18 = .ok (.goto 4, 3) := by decide +kernel
theorem dX10_end_21 : decode cX10_end 21 = .ok (.iconst 0, 1) := by decide +kernel
theorem dX10_end_22 : decode cX10_end 22 = .ok (.iconst 1, 1) := by decide +kernel
theorem dX10_end_23 : decode cX10_end 23 = .ok (.invokevirtual 125, 3) := by decide +kernel
theorem dX10_end_26 : decode cX10_end 26 = .ok (.ifCond .eq 5, 3) := by decide +kernel
theorem dX10_end_29 : decode cX10_end 29 = .ok (.iconst 0, 1) := by decide +kernel
theorem dX10_end_30 : decode cX10_end 30 = .ok (.ireturn, 1) := by decide +kernel
theorem dX10_end_31 : decode cX10_end 31 = .ok (.aload_n 0, 1) := by decide +kernel
theorem dX10_end_32 : decode cX10_end 32 = .ok (.getfield 37, 3) := by decide +kernel
theorem dX10_end_35 : decode cX10_end 35 = .ok (.istore_n 2, 1) := by decide +kernel
theorem dX10_end_36 : decode cX10_end 36 = .ok (.aload_n 0, 1) := by decide +kernel
theorem dX10_end_37 : decode cX10_end 37 = .ok (.iload_n 1, 1) := by decide +kernel
theorem dX10_end_38 : decode cX10_end 38 = .ok (.putfield 37, 3) := by decide +kernel
theorem dX10_end_41 : decode cX10_end 41 = .ok (.iload_n 2, 1) := by decide +kernel
theorem dX10_end_42 : decode cX10_end 42 = .ok (.ireturn, 1) := by decide +kernel
theorem dX10_isPosition_0 : decode cX10_isPosition 0 = .ok (.iload_n 0, 1) := by decide +kernel
theorem dX10_isPosition_1 : decode cX10_isPosition 1 = .ok (.ldc 152, 2) := by decide +kernel
theorem dX10_isPosition_3 : decode cX10_isPosition 3 = .ok (.if_icmp .lt 13, 3) := by decide +kernel
theorem dX10_isPosition_6 : decode cX10_isPosition 6 = .ok (.iload_n 0, 1) := by decide +kernel
theorem dX10_isPosition_7 : decode cX10_isPosition 7 = .ok (.ldc 153, 2) := by decide +kernel
theorem dX10_isPosition_9 : decode cX10_isPosition 9 = .ok (.if_icmp .gt 7, 3) := by decide +kernel
theorem dX10_isPosition_12 : decode cX10_isPosition 12 = .ok (.iconst 1, 1) := by decide +kernel
theorem dX10_isPosition_13 : decode cX10_isPosition 13 = .ok (.goto 4, 3) := by decide +kernel
theorem dX10_isPosition_16 : decode cX10_isPosition 16 = .ok (.iconst 0, 1) := by decide +kernel
theorem dX10_isPosition_17 : decode cX10_isPosition 17 = .ok (.ireturn, 1) := by decide +kernel
theorem dX10_measure_0 : decode cX10_measure 0 = .ok (.aload_n 0, 1) := by decide +kernel
theorem dX10_measure_1 : decode cX10_measure 1 = .ok (.iconst 0, 1) := by decide +kernel
theorem dX10_measure_2 : decode cX10_measure 2 = .ok (.putfield 114, 3) := by decide +kernel
theorem dX10_measure_5 : decode cX10_measure 5 = .ok (.aload_n 0, 1) := by decide +kernel
theorem dX10_measure_6 : decode cX10_measure 6 = .ok (.aload_n 0, 1) := by decide +kernel
theorem dX10_measure_7 : decode cX10_measure 7 = .ok (.iload_n 1, 1) := by decide +kernel
theorem dX10_measure_8 : decode cX10_measure 8 = .ok (.invokevirtual 117, 3) := by decide +kernel
theorem dX10_measure_11 : decode cX10_measure 11 = .ok (.ifCond .ne 7, 3) := by decide +kernel
theorem dX10_measure_14 : decode cX10_measure 14 = .ok (.iconst 1, 1) := by decide +kernel
theorem dX10_measure_15 : decode cX10_measure 15 = .ok (.goto 4, 3) := by decide +kernel
theorem dX10_measure_18 : decode cX10_measure 18 = .ok (.iconst 0, 1) := by decide +kernel
theorem dX10_measure_19 : decode cX10_measure 19 = .ok (.iconst 1, 1) := by decide +kernel
theorem dX10_measure_20 : decode cX10_measure 20 = .ok (.invokevirtual 125, 3) := by decide +kernel
theorem dX10_measure_23 : decode cX10_measure 23 = .ok (.ifCond .ne 58, 3) := by decide +kernel
theorem dX10_measure_26 : decode cX10_measure 26 = .ok (.aload_n 0, 1) := by decide +kernel
theorem dX10_measure_27 : decode cX10_measure 27 = .ok (.iload_n 3, 1) := by decide +kernel
theorem dX10_measure_28 : decode cX10_measure 28 = .ok (.invokestatic 154, 3) := by decide +kernel
theorem dX10_measure_31 : decode cX10_measure 31 = .ok (.ifCond .eq 38, 3) := by decide +kernel
theorem dX10_measure_34 : decode cX10_measure 34 = .ok (.iload 4, 2) := by decide +kernel
theorem dX10_measure_36 : decode cX10_measure 36 = .ok (.invokestatic 154, 3) := by decide +kernel
theorem dX10_measure_39 : decode cX10_measure 39 = .ok (.ifCond .eq 30, 3) := by decide +kernel
theorem dX10_measure_42 : decode cX10_measure 42 = .ok (.iload 5, 2) := by decide +kernel
theorem dX10_measure_44 : decode cX10_measure 44 = .ok (.invokestatic 154, 3) := by decide +kernel
theorem dX10_measure_47 : decode cX10_measure 47 = .ok (.ifCond .eq 22, 3) := by decide +kernel
theorem dX10_measure_50 : decode cX10_measure 50 = .ok (.iload 6, 2) := by decide +kernel
theorem dX10_measure_52 : decode cX10_measure 52 = .ok (.invokestatic 154, 3) := by decide +kernel
theorem dX10_measure_55 : decode cX10_measure 55 = .ok (.ifCond .eq 14, 3) := by decide +kernel
theorem dX10_measure_58 : decode cX10_measure 58 = .ok (.iload_n 2, 1) := by decide +kernel
theorem dX10_measure_59 : decode cX10_measure 59 = .ok (.ifCond .lt 10, 3) := by decide +kernel
theorem dX10_measure_62 : decode cX10_measure 62 = .ok (.iload_n 2, 1) := by decide +kernel
theorem dX10_measure_63 : decode cX10_measure 63 = .ok (.sipush 300, 3) := by decide +kernel
theorem dX10_measure_66 : decode cX10_measure 66 = .ok (.if_icmp .lt 7, 3) := by decide +kernel
theorem dX10_measure_69 : decode cX10_measure 69 = .ok (.iconst 1, 1) := by decide +kernel
theorem dX10_measure_70 : decode cX10_measure 70 = .ok (.goto 4, 3) := by decide +kernel
theorem dX10_measure_73 : decode cX10_measure 73 = .ok (.iconst 0, 1) := by decide +kernel
theorem dX10_measure_74 : decode cX10_measure 74 = .ok (.iconst 2, 1) := by decide +kernel
theorem dX10_measure_75 : decode cX10_measure 75 = .ok (.invokevirtual 125, 3) := by decide +kernel
theorem dX10_measure_78 : decode cX10_measure 78 = .ok (.ifCond .eq 5, 3) := by decide +kernel
theorem dX10_measure_81 : decode cX10_measure 81 = .ok (.iconst 0, 1) := by decide +kernel
theorem dX10_measure_82 : decode cX10_measure 82 = .ok (.ireturn, 1) := by decide +kernel
theorem dX10_measure_83 : decode cX10_measure 83 = .ok (.aload_n 0, 1) := by decide +kernel
theorem dX10_measure_84 : decode cX10_measure 84 = .ok (.getfield 34, 3) := by decide +kernel
theorem dX10_measure_87 : decode cX10_measure 87 = .ok (.iload_n 1, 1) := by decide +kernel
theorem dX10_measure_88 : decode cX10_measure 88 = .ok (.iaload, 1) := by decide +kernel
theorem dX10_measure_89 : decode cX10_measure 89 = .ok (.istore 7, 2) := by decide +kernel
theorem dX10_measure_91 : decode cX10_measure 91 = .ok (.iload 7, 2) := by decide +kernel
theorem dX10_measure_93 : decode cX10_measure 93 = .ok (.bipush 20, 2) := by decide +kernel
theorem dX10_measure_95 : decode cX10_measure 95 = .ok (.if_icmp .ne 5, 3) := by decide +kernel
theorem dX10_measure_98 : decode cX10_measure 98 = .ok (.iconst (-1), 1) := by decide +kernel
theorem dX10_measure_99 : decode cX10_measure 99 = .ok (.ireturn, 1) := by decide +kernel
theorem dX10_measure_100 : decode cX10_measure 100 = .ok (.iload 7, 2) := by decide +kernel
theorem dX10_measure_102 : decode cX10_measure 102 = .ok (.ifCond .le 24, 3) := by decide +kernel
theorem dX10_measure_105 : decode cX10_measure 105 = .ok (.aload_n 0, 1) := by decide +kernel
theorem dX10_measure_106 : decode cX10_measure 106 = .ok (.getfield 22, 3) := by decide +kernel
theorem dX10_measure_109 : decode cX10_measure 109 = .ok (.bipush 20, 2) := by decide +kernel
theorem dX10_measure_111 : decode cX10_measure 111 = .ok (.iload_n 1, 1) := by decide +kernel
theorem dX10_measure_112 : decode cX10_measure 112 = .ok (.imul, 1) := by decide +kernel
theorem dX10_measure_113 : decode cX10_measure 113 = .ok (.iload 7, 2) := by decide +kernel
theorem dX10_measure_115 : decode cX10_measure 115 = .ok (.iadd, 1) := by decide +kernel
theorem dX10_measure_116 : decode cX10_measure 116 = .ok (.iconst 1, 1) := by decide +kernel
theorem dX10_measure_117 : decode cX10_measure 117 = .ok (.isub, 1) := by decide +kernel
theorem dX10_measure_118 : decode cX10_measure 118 = .ok (.iaload, 1) := by decide +kernel
theorem dX10_measure_119 : decode cX10_measure 119 = .ok (.iload_n 2, 1) := by decide +kernel
theorem dX10_measure_120 : decode cX10_measure 120 = .ok (.if_icmp .lt 6, 3) := by decide +kernel
theorem dX10_measure_123 : decode cX10_measure 123 = .ok (.bipush (-2), 2) := by decide +kernel
theorem dX10_measure_125 : decode cX10_measure 125 = .ok (.ireturn, 1) := by decide +kernel
theorem dX10_measure_126 : decode cX10_measure 126 = .ok (.bipush 20, 2) := by decide +kernel
theorem dX10_measure_128 : decode cX10_measure 128 = .ok (.iload_n 1, 1) := by decide +kernel
theorem dX10_measure_129 : decode cX10_measure 129 = .ok (.imul, 1) := by decide +kernel
theorem dX10_measure_130 : decode cX10_measure 130 = .ok (.iload 7, 2) := by decide +kernel
theorem dX10_measure_132 : decode cX10_measure 132 = .ok (.iadd, 1) := by decide +kernel
theorem dX10_measure_133 : decode cX10_measure 133 = .ok (.istore 8, 2) := by decide +kernel
theorem dX10_measure_135 : decode cX10_measure 135 = .ok (.aload_n 0, 1) := by decide +kernel
theorem dX10_measure_136 : decode cX10_measure 136 = .ok (.getfield 22, 3) := by decide +kernel
theorem dX10_measure_139 : decode cX10_measure 139 = .ok (.iload 8, 2) := by decide +kernel
theorem dX10_measure_141 : decode cX10_measure 141 = .ok (.iload_n 2, 1) := by decide +kernel
theorem dX10_measure_142 : decode cX10_measure 142 = .ok (.iastore, 1) := by decide +kernel
theorem dX10_measure_143 : decode cX10_measure 143 = .ok (.aload_n 0, 1) := by decide +kernel
theorem dX10_measure_144 : decode cX10_measure 144 = .ok (.getfield 25, 3) := by decide +kernel
theorem dX10_measure_147 : decode cX10_measure 147 = .ok (.iload 8, 2) := by decide +kernel
theorem dX10_measure_149 : decode cX10_measure 149 = .ok (.iload_n 3, 1) := by decide +kernel
theorem dX10_measure_150 : decode cX10_measure 150 = .ok (.iload 4, 2) := by decide +kernel
theorem dX10_measure_152 : decode cX10_measure 152 = .ok (.iadd, 1) := by decide +kernel
theorem dX10_measure_153 : decode cX10_measure 153 = .ok (.iload 5, 2) := by decide +kernel
theorem dX10_measure_155 : decode cX10_measure 155 = .ok (.iadd, 1) := by decide +kernel
theorem dX10_measure_156 : decode cX10_measure 156 = .ok (.iload 6, 2) := by decide +kernel
theorem dX10_measure_158 : decode cX10_measure 158 = .ok (.iadd, 1) := by decide +kernel
theorem dX10_measure_159 : decode cX10_measure 159 = .ok (.iconst 2, 1) := by decide +kernel
theorem dX10_measure_160 : decode cX10_measure 160 = .ok (.ishr, 1) := by decide +kernel
theorem dX10_measure_161 : decode cX10_measure 161 = .ok (.iastore, 1) := by decide +kernel
theorem dX10_measure_162 : decode cX10_measure 162 = .ok (.aload_n 0, 1) := by decide +kernel
theorem dX10_measure_163 : decode cX10_measure 163 = .ok (.getfield 28, 3) := by decide +kernel
theorem dX10_measure_166 : decode cX10_measure 166 = .ok (.iload 8, 2) := by decide +kernel
theorem dX10_measure_168 : decode cX10_measure 168 = .ok (.iload_n 3, 1) := by decide +kernel
theorem dX10_measure_169 : decode cX10_measure 169 = .ok (.iload 4, 2) := by decide +kernel
theorem dX10_measure_171 : decode cX10_measure 171 = .ok (.iadd, 1) := by decide +kernel
theorem dX10_measure_172 : decode cX10_measure 172 = .ok (.iload 5, 2) := by decide +kernel
theorem dX10_measure_174 : decode cX10_measure 174 = .ok (.iload 6, 2) := by decide +kernel
theorem dX10_measure_176 : decode cX10_measure 176 = .ok (.iadd, 1) := by decide +kernel
theorem dX10_measure_177 : decode cX10_measure 177 = .ok (.invokestatic 139, 3) := by decide +kernel
theorem dX10_measure_180 : decode cX10_measure 180 = .ok (.iastore, 1) := by decide +kernel
theorem dX10_measure_181 : decode cX10_measure 181 = .ok (.aload_n 0, 1) := by decide +kernel
theorem dX10_measure_182 : decode cX10_measure 182 = .ok (.getfield 31, 3) := by decide +kernel
theorem dX10_measure_185 : decode cX10_measure 185 = .ok (.iload 8, 2) := by decide +kernel
theorem dX10_measure_187 : decode cX10_measure 187 = .ok (.aload_n 0, 1) := by decide +kernel
theorem dX10_measure_188 : decode cX10_measure 188 = .ok (.getfield 37, 3) := by decide +kernel
theorem dX10_measure_191 : decode cX10_measure 191 = .ok (.iastore, 1) := by decide +kernel
theorem dX10_measure_192 : decode cX10_measure 192 = .ok (.aload_n 0, 1) := by decide +kernel
theorem dX10_measure_193 : decode cX10_measure 193 = .ok (.getfield 34, 3) := by decide +kernel
theorem dX10_measure_196 : decode cX10_measure 196 = .ok (.iload_n 1, 1) := by decide +kernel
theorem dX10_measure_197 : decode cX10_measure 197 = .ok (.dup2, 1) := by decide +kernel
theorem dX10_measure_198 : decode cX10_measure 198 = .ok (.iaload, 1) := by decide +kernel
theorem dX10_measure_199 : decode cX10_measure 199 = .ok (.iconst 1, 1) := by decide +kernel
theorem dX10_measure_200 : decode cX10_measure 200 = .ok (.iadd, 1) := by decide +kernel
theorem dX10_measure_201 : decode cX10_measure 201 = .ok (.iastore, 1) := by decide +kernel
theorem dX10_measure_202 : decode cX10_measure 202 = .ok (.iload 7, 2) := by decide +kernel
theorem dX10_measure_204 : decode cX10_measure 204 = .ok (.ireturn, 1) := by decide +kernel
theorem dX10_told_0 : decode cX10_told 0 = .ok (.aload_n 0, 1) := by decide +kernel
theorem dX10_told_1 : decode cX10_told 1 = .ok (.iconst 0, 1) := by decide +kernel
theorem dX10_told_2 : decode cX10_told 2 = .ok (.putfield 114, 3) := by decide +kernel
theorem dX10_told_5 : decode cX10_told 5 = .ok (.aload_n 0, 1) := by decide +kernel
theorem dX10_told_6 : decode cX10_told 6 = .ok (.aload_n 0, 1) := by decide +kernel
theorem dX10_told_7 : decode cX10_told 7 = .ok (.iload_n 1, 1) := by decide +kernel
theorem dX10_told_8 : decode cX10_told 8 = .ok (.invokevirtual 117, 3) := by decide +kernel
theorem dX10_told_11 : decode cX10_told 11 = .ok (.ifCond .ne 7, 3) := by decide +kernel
theorem dX10_told_14 : decode cX10_told 14 = .ok (.iconst 1, 1) := by decide +kernel
theorem dX10_told_15 : decode cX10_told 15 = .ok (.goto 4, 3) := by decide +kernel
theorem dX10_told_18 : decode cX10_told 18 = .ok (.iconst 0, 1) := by decide +kernel
theorem dX10_told_19 : decode cX10_told 19 = .ok (.iconst 1, 1) := by decide +kernel
theorem dX10_told_20 : decode cX10_told 20 = .ok (.invokevirtual 125, 3) := by decide +kernel
theorem dX10_told_23 : decode cX10_told 23 = .ok (.ifCond .ne 25, 3) := by decide +kernel
theorem dX10_told_26 : decode cX10_told 26 = .ok (.aload_n 0, 1) := by decide +kernel
theorem dX10_told_27 : decode cX10_told 27 = .ok (.iload_n 3, 1) := by decide +kernel
theorem dX10_told_28 : decode cX10_told 28 = .ok (.ifCond .lt 8, 3) := by decide +kernel
theorem dX10_told_31 : decode cX10_told 31 = .ok (.iload_n 3, 1) := by decide +kernel
theorem dX10_told_32 : decode cX10_told 32 = .ok (.iconst 4, 1) := by decide +kernel
theorem dX10_told_33 : decode cX10_told 33 = .ok (.if_icmp .le 7, 3) := by decide +kernel
theorem dX10_told_36 : decode cX10_told 36 = .ok (.iconst 1, 1) := by decide +kernel
theorem dX10_told_37 : decode cX10_told 37 = .ok (.goto 4, 3) := by decide +kernel
theorem dX10_told_40 : decode cX10_told 40 = .ok (.iconst 0, 1) := by decide +kernel
theorem dX10_told_41 : decode cX10_told 41 = .ok (.iconst 2, 1) := by decide +kernel
theorem dX10_told_42 : decode cX10_told 42 = .ok (.invokevirtual 125, 3) := by decide +kernel
theorem dX10_told_45 : decode cX10_told 45 = .ok (.ifCond .eq 5, 3) := by decide +kernel
theorem dX10_told_48 : decode cX10_told 48 = .ok (.iconst 0, 1) := by decide +kernel
theorem dX10_told_49 : decode cX10_told 49 = .ok (.ireturn, 1) := by decide +kernel
theorem dX10_told_50 : decode cX10_told 50 = .ok (.iload_n 2, 1) := by decide +kernel
theorem dX10_told_51 : decode cX10_told 51 = .ok (.ifCond .lt 13, 3) := by decide +kernel
theorem dX10_told_54 : decode cX10_told 54 = .ok (.iload_n 2, 1) := by decide +kernel
theorem dX10_told_55 : decode cX10_told 55 = .ok (.aload_n 0, 1) := by decide +kernel
theorem dX10_told_56 : decode cX10_told 56 = .ok (.getfield 34, 3) := by decide +kernel
theorem dX10_told_59 : decode cX10_told 59 = .ok (.iload_n 1, 1) := by decide +kernel
theorem dX10_told_60 : decode cX10_told 60 = .ok (.iaload, 1) := by decide +kernel
theorem dX10_told_61 : decode cX10_told 61 = .ok (.if_icmp .lt 6, 3) := by decide +kernel
theorem dX10_told_64 : decode cX10_told 64 = .ok (.ldc 113, 2) := by decide +kernel
theorem dX10_told_66 : decode cX10_told 66 = .ok (.ireturn, 1) := by decide +kernel
theorem dX10_told_67 : decode cX10_told 67 = .ok (.bipush 20, 2) := by decide +kernel
theorem dX10_told_69 : decode cX10_told 69 = .ok (.iload_n 1, 1) := by decide +kernel
theorem dX10_told_70 : decode cX10_told 70 = .ok (.imul, 1) := by decide +kernel
theorem dX10_told_71 : decode cX10_told 71 = .ok (.iload_n 2, 1) := by decide +kernel
theorem dX10_told_72 : decode cX10_told 72 = .ok (.iadd, 1) := by decide +kernel
theorem dX10_told_73 : decode cX10_told 73 = .ok (.istore 4, 2) := by decide +kernel
theorem dX10_told_75 : decode cX10_told 75 = .ok (.iload_n 3, 1) := by decide +kernel
theorem dX10_told_76 : decode cX10_told 76 = .ok (.iconst 4, 1) := by decide +kernel
theorem dX10_told_77 : decode cX10_told 77 = .ok (.if_icmp .ge 55, 3) := by decide +kernel
theorem dX10_told_80 : decode cX10_told 80 = .ok (.iload_n 3, 1) := by decide +kernel
theorem dX10_told_81 : decode cX10_told 81 = .ok (.ifCond .ne 13, 3) := by decide +kernel
theorem dX10_told_84 : decode cX10_told 84 = .ok (.aload_n 0, 1) := by decide +kernel
theorem dX10_told_85 : decode cX10_told 85 = .ok (.getfield 22, 3) := by decide +kernel
theorem dX10_told_88 : decode cX10_told 88 = .ok (.iload 4, 2) := by decide +kernel
theorem dX10_told_90 : decode cX10_told 90 = .ok (.iaload, 1) := by decide +kernel
theorem dX10_told_91 : decode cX10_told 91 = .ok (.goto 40, 3) := by decide +kernel
theorem dX10_told_94 : decode cX10_told 94 = .ok (.iload_n 3, 1) := by decide +kernel
theorem dX10_told_95 : decode cX10_told 95 = .ok (.iconst 1, 1) := by decide +kernel
theorem dX10_told_96 : decode cX10_told 96 = .ok (.if_icmp .ne 13, 3) := by decide +kernel
theorem dX10_told_99 : decode cX10_told 99 = .ok (.aload_n 0, 1) := by decide +kernel
theorem dX10_told_100 : decode cX10_told 100 = .ok (.getfield 25, 3) := by decide +kernel
theorem dX10_told_103 : decode cX10_told 103 = .ok (.iload 4, 2) := by decide +kernel
theorem dX10_told_105 : decode cX10_told 105 = .ok (.iaload, 1) := by decide +kernel
theorem dX10_told_106 : decode cX10_told 106 = .ok (.goto 25, 3) := by decide +kernel
theorem dX10_told_109 : decode cX10_told 109 = .ok (.iload_n 3, 1) := by decide +kernel
theorem dX10_told_110 : decode cX10_told 110 = .ok (.iconst 2, 1) := by decide +kernel
theorem dX10_told_111 : decode cX10_told 111 = .ok (.if_icmp .ne 13, 3) := by decide +kernel
theorem dX10_told_114 : decode cX10_told 114 = .ok (.aload_n 0, 1) := by decide +kernel
theorem dX10_told_115 : decode cX10_told 115 = .ok (.getfield 28, 3) := by decide +kernel
theorem dX10_told_118 : decode cX10_told 118 = .ok (.iload 4, 2) := by decide +kernel
theorem dX10_told_120 : decode cX10_told 120 = .ok (.iaload, 1) := by decide +kernel
theorem dX10_told_121 : decode cX10_told 121 = .ok (.goto 10, 3) := by decide +kernel
theorem dX10_told_124 : decode cX10_told 124 = .ok (.aload_n 0, 1) := by decide +kernel
theorem dX10_told_125 : decode cX10_told 125 = .ok (.getfield 31, 3) := by decide +kernel
theorem dX10_told_128 : decode cX10_told 128 = .ok (.iload 4, 2) := by decide +kernel
theorem dX10_told_130 : decode cX10_told 130 = .ok (.iaload, 1) := by decide +kernel
theorem dX10_told_131 : decode cX10_told 131 = .ok (.ireturn, 1) := by decide +kernel
theorem dX10_told_132 : decode cX10_told 132 = .ok (.aload_n 0, 1) := by decide +kernel
theorem dX10_told_133 : decode cX10_told 133 = .ok (.iload_n 1, 1) := by decide +kernel
theorem dX10_told_134 : decode cX10_told 134 = .ok (.invokevirtual 145, 3) := by decide +kernel
theorem dX10_told_137 : decode cX10_told 137 = .ok (.aload_n 0, 1) := by decide +kernel
theorem dX10_told_138 : decode cX10_told 138 = .ok (.iload_n 1, 1) := by decide +kernel
theorem dX10_told_139 : decode cX10_told 139 = .ok (.aload_n 0, 1) := by decide +kernel
theorem dX10_told_140 : decode cX10_told 140 = .ok (.getfield 22, 3) := by decide +kernel
theorem dX10_told_143 : decode cX10_told 143 = .ok (.iload 4, 2) := by decide +kernel
theorem dX10_told_145 : decode cX10_told 145 = .ok (.iaload, 1) := by decide +kernel
theorem dX10_told_146 : decode cX10_told 146 = .ok (.invokevirtual 149, 3) := by decide +kernel
theorem dX10_told_149 : decode cX10_told 149 = .ok (.ldc 113, 2) := by decide +kernel
theorem dX10_told_151 : decode cX10_told 151 = .ok (.if_icmp .ne 8, 3) := by decide +kernel
theorem dX10_told_154 : decode cX10_told 154 = .ok (.ldc 113, 2) := by decide +kernel
theorem dX10_told_156 : decode cX10_told 156 = .ok (.goto 23, 3) := by decide +kernel
theorem dX10_told_159 : decode cX10_told 159 = .ok (.aload_n 0, 1) := by decide +kernel
theorem dX10_told_160 : decode cX10_told 160 = .ok (.getfield 25, 3) := by decide +kernel
theorem dX10_told_163 : decode cX10_told 163 = .ok (.iload 4, 2) := by decide +kernel
theorem dX10_told_165 : decode cX10_told 165 = .ok (.iaload, 1) := by decide +kernel
theorem dX10_told_166 : decode cX10_told 166 = .ok (.aload_n 0, 1) := by decide +kernel
theorem dX10_told_167 : decode cX10_told 167 = .ok (.iload_n 1, 1) := by decide +kernel
theorem dX10_told_168 : decode cX10_told 168 = .ok (.aload_n 0, 1) := by decide +kernel
theorem dX10_told_169 : decode cX10_told 169 = .ok (.getfield 22, 3) := by decide +kernel
theorem dX10_told_172 : decode cX10_told 172 = .ok (.iload 4, 2) := by decide +kernel
theorem dX10_told_174 : decode cX10_told 174 = .ok (.iaload, 1) := by decide +kernel
theorem dX10_told_175 : decode cX10_told 175 = .ok (.invokevirtual 149, 3) := by decide +kernel
theorem dX10_told_178 : decode cX10_told 178 = .ok (.isub, 1) := by decide +kernel
theorem dX10_told_179 : decode cX10_told 179 = .ok (.ireturn, 1) := by decide +kernel
theorem dX10_slopes_0 : decode cX10_slopes 0 = .ok (.aload_n 0, 1) := by decide +kernel
theorem dX10_slopes_1 : decode cX10_slopes 1 = .ok (.ldc2_w 157, 3) := by decide +kernel
theorem dX10_slopes_4 : decode cX10_slopes 4 = .ok (.putfield 159, 3) := by decide +kernel
theorem dX10_slopes_7 : decode cX10_slopes 7 = .ok (.aload_n 0, 1) := by decide +kernel
theorem dX10_slopes_8 : decode cX10_slopes 8 = .ok (.lconst 0, 1) := by decide +kernel
theorem dX10_slopes_9 : decode cX10_slopes 9 = .ok (.putfield 163, 3) := by decide +kernel
theorem dX10_slopes_12 : decode cX10_slopes 12 = .ok (.aload_n 0, 1) := by decide +kernel
theorem dX10_slopes_13 : decode cX10_slopes 13 = .ok (.lconst 1, 1) := by decide +kernel
theorem dX10_slopes_14 : decode cX10_slopes 14 = .ok (.putfield 166, 3) := by decide +kernel
theorem dX10_slopes_17 : decode cX10_slopes 17 = .ok (.aload_n 0, 1) := by decide +kernel
theorem dX10_slopes_18 : decode cX10_slopes 18 = .ok (.lconst 0, 1) := by decide +kernel
theorem dX10_slopes_19 : decode cX10_slopes 19 = .ok (.putfield 169, 3) := by decide +kernel
theorem dX10_slopes_22 : decode cX10_slopes 22 = .ok (.iload_n 1, 1) := by decide +kernel
theorem dX10_slopes_23 : decode cX10_slopes 23 = .ok (.istore_n 3, 1) := by decide +kernel
theorem dX10_slopes_24 : decode cX10_slopes 24 = .ok (.iload_n 3, 1) := by decide +kernel
theorem dX10_slopes_25 : decode cX10_slopes 25 = .ok (.iload_n 2, 1) := by decide +kernel
theorem dX10_slopes_26 : decode cX10_slopes 26 = .ok (.if_icmp .ge 167, 3) := by decide +kernel
theorem dX10_slopes_29 : decode cX10_slopes 29 = .ok (.iload_n 3, 1) := by decide +kernel
theorem dX10_slopes_30 : decode cX10_slopes 30 = .ok (.iconst 1, 1) := by decide +kernel
theorem dX10_slopes_31 : decode cX10_slopes 31 = .ok (.iadd, 1) := by decide +kernel
theorem dX10_slopes_32 : decode cX10_slopes 32 = .ok (.istore 4, 2) := by decide +kernel
theorem dX10_slopes_34 : decode cX10_slopes 34 = .ok (.iload 4, 2) := by decide +kernel
theorem dX10_slopes_36 : decode cX10_slopes 36 = .ok (.iload_n 2, 1) := by decide +kernel
theorem dX10_slopes_37 : decode cX10_slopes 37 = .ok (.if_icmp .ge 150, 3) := by decide +kernel
theorem dX10_slopes_40 : decode cX10_slopes 40 = .ok (.aload_n 0, 1) := by decide +kernel
theorem dX10_slopes_41 : decode cX10_slopes 41 = .ok (.getfield 41, 3) := by decide +kernel
theorem dX10_slopes_44 : decode cX10_slopes 44 = .ok (.iload 4, 2) := by decide +kernel
theorem dX10_slopes_46 : decode cX10_slopes 46 = .ok (.iaload, 1) := by decide +kernel
theorem dX10_slopes_47 : decode cX10_slopes 47 = .ok (.aload_n 0, 1) := by decide +kernel
theorem dX10_slopes_48 : decode cX10_slopes 48 = .ok (.getfield 41, 3) := by decide +kernel
theorem dX10_slopes_51 : decode cX10_slopes 51 = .ok (.iload_n 3, 1) := by decide +kernel
theorem dX10_slopes_52 : decode cX10_slopes 52 = .ok (.iaload, 1) := by decide +kernel
theorem dX10_slopes_53 : decode cX10_slopes 53 = .ok (.isub, 1) := by decide +kernel
theorem dX10_slopes_54 : decode cX10_slopes 54 = .ok (.i2l, 1) := by decide +kernel
theorem dX10_slopes_55 : decode cX10_slopes 55 = .ok (.lstore 5, 2) := by decide +kernel
theorem dX10_slopes_57 : decode cX10_slopes 57 = .ok (.aload_n 0, 1) := by decide +kernel
theorem dX10_slopes_58 : decode cX10_slopes 58 = .ok (.getfield 44, 3) := by decide +kernel
theorem dX10_slopes_61 : decode cX10_slopes 61 = .ok (.iload 4, 2) := by decide +kernel
theorem dX10_slopes_63 : decode cX10_slopes 63 = .ok (.iaload, 1) := by decide +kernel
theorem dX10_slopes_64 : decode cX10_slopes 64 = .ok (.aload_n 0, 1) := by decide +kernel
theorem dX10_slopes_65 : decode cX10_slopes 65 = .ok (.getfield 44, 3) := by decide +kernel
theorem dX10_slopes_68 : decode cX10_slopes 68 = .ok (.iload_n 3, 1) := by decide +kernel
theorem dX10_slopes_69 : decode cX10_slopes 69 = .ok (.iaload, 1) := by decide +kernel
theorem dX10_slopes_70 : decode cX10_slopes 70 = .ok (.isub, 1) := by decide +kernel
theorem dX10_slopes_71 : decode cX10_slopes 71 = .ok (.i2l, 1) := by decide +kernel
theorem dX10_slopes_72 : decode cX10_slopes 72 = .ok (.lstore 7, 2) := by decide +kernel
theorem dX10_slopes_74 : decode cX10_slopes 74 = .ok (.aload_n 0, 1) := by decide +kernel
theorem dX10_slopes_75 : decode cX10_slopes 75 = .ok (.getfield 47, 3) := by decide +kernel
theorem dX10_slopes_78 : decode cX10_slopes 78 = .ok (.iload_n 3, 1) := by decide +kernel
theorem dX10_slopes_79 : decode cX10_slopes 79 = .ok (.iaload, 1) := by decide +kernel
theorem dX10_slopes_80 : decode cX10_slopes 80 = .ok (.aload_n 0, 1) := by decide +kernel
theorem dX10_slopes_81 : decode cX10_slopes 81 = .ok (.getfield 47, 3) := by decide +kernel
theorem dX10_slopes_84 : decode cX10_slopes 84 = .ok (.iload 4, 2) := by decide +kernel
theorem dX10_slopes_86 : decode cX10_slopes 86 = .ok (.iaload, 1) := by decide +kernel
theorem dX10_slopes_87 : decode cX10_slopes 87 = .ok (.iadd, 1) := by decide +kernel
theorem dX10_slopes_88 : decode cX10_slopes 88 = .ok (.i2l, 1) := by decide +kernel
theorem dX10_slopes_89 : decode cX10_slopes 89 = .ok (.lstore 9, 2) := by decide +kernel
theorem dX10_slopes_91 : decode cX10_slopes 91 = .ok (.aload_n 0, 1) := by decide +kernel
theorem dX10_slopes_92 : decode cX10_slopes 92 = .ok (.getfield 163, 3) := by decide +kernel
theorem dX10_slopes_95 : decode cX10_slopes 95 = .ok (.lconst 0, 1) := by decide +kernel
theorem dX10_slopes_96 : decode cX10_slopes 96 = .ok (.lcmp, 1) := by decide +kernel
theorem dX10_slopes_97 : decode cX10_slopes 97 = .ok (.ifCond .eq 24, 3) := by decide +kernel
theorem dX10_slopes_100 : decode cX10_slopes 100 = .ok (.lload 7, 2) := by decide +kernel
theorem dX10_slopes_102 : decode cX10_slopes 102 = .ok (.lload 9, 2) := by decide +kernel
theorem dX10_slopes_104 : decode cX10_slopes 104 = .ok (.lsub, 1) := by decide +kernel
theorem dX10_slopes_105 : decode cX10_slopes 105 = .ok (.aload_n 0, 1) := by decide +kernel
theorem dX10_slopes_106 : decode cX10_slopes 106 = .ok (.getfield 163, 3) := by decide +kernel
theorem dX10_slopes_109 : decode cX10_slopes 109 = .ok (.lmul, 1) := by decide +kernel
theorem dX10_slopes_110 : decode cX10_slopes 110 = .ok (.aload_n 0, 1) := by decide +kernel
theorem dX10_slopes_111 : decode cX10_slopes 111 = .ok (.getfield 159, 3) := by decide +kernel
theorem dX10_slopes_114 : decode cX10_slopes 114 = .ok (.lload 5, 2) := by decide +kernel
theorem dX10_slopes_116 : decode cX10_slopes 116 = .ok (.lmul, 1) := by decide +kernel
theorem dX10_slopes_117 : decode cX10_slopes 117 = .ok (.lcmp, 1) := by decide +kernel
theorem dX10_slopes_118 : decode cX10_slopes 118 = .ok (.ifCond .le 18, 3) := by decide +kernel
theorem dX10_slopes_121 : decode cX10_slopes 121 = .ok (.aload_n 0, 1) := by decide +kernel
theorem dX10_slopes_122 : decode cX10_slopes 122 = .ok (.lload 7, 2) := by decide +kernel
theorem dX10_slopes_124 : decode cX10_slopes 124 = .ok (.lload 9, 2) := by decide +kernel
theorem dX10_slopes_126 : decode cX10_slopes 126 = .ok (.lsub, 1) := by decide +kernel
theorem dX10_slopes_127 : decode cX10_slopes 127 = .ok (.putfield 159, 3) := by decide +kernel
theorem dX10_slopes_130 : decode cX10_slopes 130 = .ok (.aload_n 0, 1) := by decide +kernel
theorem dX10_slopes_131 : decode cX10_slopes 131 = .ok (.lload 5, 2) := by decide +kernel
theorem dX10_slopes_133 : decode cX10_slopes 133 = .ok (.putfield 163, 3) := by decide +kernel
theorem dX10_slopes_136 : decode cX10_slopes 136 = .ok (.aload_n 0, 1) := by decide +kernel
theorem dX10_slopes_137 : decode cX10_slopes 137 = .ok (.getfield 169, 3) := by decide +kernel
theorem dX10_slopes_140 : decode cX10_slopes 140 = .ok (.lconst 0, 1) := by decide +kernel
theorem dX10_slopes_141 : decode cX10_slopes 141 = .ok (.lcmp, 1) := by decide +kernel
theorem dX10_slopes_142 : decode cX10_slopes 142 = .ok (.ifCond .eq 24, 3) := by decide +kernel
theorem dX10_slopes_145 : decode cX10_slopes 145 = .ok (.lload 7, 2) := by decide +kernel
theorem dX10_slopes_147 : decode cX10_slopes 147 = .ok (.lload 9, 2) := by decide +kernel
theorem dX10_slopes_149 : decode cX10_slopes 149 = .ok (.ladd, 1) := by decide +kernel
theorem dX10_slopes_150 : decode cX10_slopes 150 = .ok (.aload_n 0, 1) := by decide +kernel
theorem dX10_slopes_151 : decode cX10_slopes 151 = .ok (.getfield 169, 3) := by decide +kernel
theorem dX10_slopes_154 : decode cX10_slopes 154 = .ok (.lmul, 1) := by decide +kernel
theorem dX10_slopes_155 : decode cX10_slopes 155 = .ok (.aload_n 0, 1) := by decide +kernel
theorem dX10_slopes_156 : decode cX10_slopes 156 = .ok (.getfield 166, 3) := by decide +kernel
theorem dX10_slopes_159 : decode cX10_slopes 159 = .ok (.lload 5, 2) := by decide +kernel
theorem dX10_slopes_161 : decode cX10_slopes 161 = .ok (.lmul, 1) := by decide +kernel
theorem dX10_slopes_162 : decode cX10_slopes 162 = .ok (.lcmp, 1) := by decide +kernel
theorem dX10_slopes_163 : decode cX10_slopes 163 = .ok (.ifCond .ge 18, 3) := by decide +kernel
theorem dX10_slopes_166 : decode cX10_slopes 166 = .ok (.aload_n 0, 1) := by decide +kernel
theorem dX10_slopes_167 : decode cX10_slopes 167 = .ok (.lload 7, 2) := by decide +kernel
theorem dX10_slopes_169 : decode cX10_slopes 169 = .ok (.lload 9, 2) := by decide +kernel
theorem dX10_slopes_171 : decode cX10_slopes 171 = .ok (.ladd, 1) := by decide +kernel
theorem dX10_slopes_172 : decode cX10_slopes 172 = .ok (.putfield 166, 3) := by decide +kernel
theorem dX10_slopes_175 : decode cX10_slopes 175 = .ok (.aload_n 0, 1) := by decide +kernel
theorem dX10_slopes_176 : decode cX10_slopes 176 = .ok (.lload 5, 2) := by decide +kernel
theorem dX10_slopes_178 : decode cX10_slopes 178 = .ok (.putfield 169, 3) := by decide +kernel
theorem dX10_slopes_181 : decode cX10_slopes 181 = .ok (.iinc 4 1, 3) := by decide +kernel
theorem dX10_slopes_184 : decode cX10_slopes 184 = .ok (.goto (-150), 3) := by decide +kernel
theorem dX10_slopes_187 : decode cX10_slopes 187 = .ok (.iinc 3 1, 3) := by decide +kernel
theorem dX10_slopes_190 : decode cX10_slopes 190 = .ok (.goto (-166), 3) := by decide +kernel
theorem dX10_slopes_193 : decode cX10_slopes 193 = .ok (.return_, 1) := by decide +kernel
theorem dX10_canBe_0 : decode cX10_canBe 0 = .ok (.aload_n 0, 1) := by decide +kernel
theorem dX10_canBe_1 : decode cX10_canBe 1 = .ok (.iload_n 1, 1) := by decide +kernel
theorem dX10_canBe_2 : decode cX10_canBe 2 = .ok (.iload_n 2, 1) := by decide +kernel
theorem dX10_canBe_3 : decode cX10_canBe 3 = .ok (.invokevirtual 172, 3) := by decide +kernel
theorem dX10_canBe_6 : decode cX10_canBe 6 = .ok (.aload_n 0, 1) := by decide +kernel
theorem dX10_canBe_7 : decode cX10_canBe 7 = .ok (.getfield 163, 3) := by decide +kernel
theorem dX10_canBe_10 : decode cX10_canBe 10 = .ok (.lconst 0, 1) := by decide +kernel
theorem dX10_canBe_11 : decode cX10_canBe 11 = .ok (.lcmp, 1) := by decide +kernel
theorem dX10_canBe_12 : decode cX10_canBe 12 = .ok (.ifCond .eq 25, 3) := by decide +kernel
theorem dX10_canBe_15 : decode cX10_canBe 15 = .ok (.aload_n 0, 1) := by decide +kernel
theorem dX10_canBe_16 : decode cX10_canBe 16 = .ok (.getfield 159, 3) := by decide +kernel
theorem dX10_canBe_19 : decode cX10_canBe 19 = .ok (.aload_n 0, 1) := by decide +kernel
theorem dX10_canBe_20 : decode cX10_canBe 20 = .ok (.getfield 169, 3) := by decide +kernel
theorem dX10_canBe_23 : decode cX10_canBe 23 = .ok (.lmul, 1) := by decide +kernel
theorem dX10_canBe_24 : decode cX10_canBe 24 = .ok (.aload_n 0, 1) := by decide +kernel
theorem dX10_canBe_25 : decode cX10_canBe 25 = .ok (.getfield 166, 3) := by decide +kernel
theorem dX10_canBe_28 : decode cX10_canBe 28 = .ok (.aload_n 0, 1) := by decide +kernel
theorem dX10_canBe_29 : decode cX10_canBe 29 = .ok (.getfield 163, 3) := by decide +kernel
theorem dX10_canBe_32 : decode cX10_canBe 32 = .ok (.lmul, 1) := by decide +kernel
theorem dX10_canBe_33 : decode cX10_canBe 33 = .ok (.lcmp, 1) := by decide +kernel
theorem dX10_canBe_34 : decode cX10_canBe 34 = .ok (.ifCond .gt 7, 3) := by decide +kernel
theorem dX10_canBe_37 : decode cX10_canBe 37 = .ok (.iconst 1, 1) := by decide +kernel
theorem dX10_canBe_38 : decode cX10_canBe 38 = .ok (.goto 4, 3) := by decide +kernel
theorem dX10_canBe_41 : decode cX10_canBe 41 = .ok (.iconst 0, 1) := by decide +kernel
theorem dX10_canBe_42 : decode cX10_canBe 42 = .ok (.ireturn, 1) := by decide +kernel
theorem dX10_common_0 : decode cX10_common 0 = .ok (.lload_n 0, 1) := by decide +kernel
theorem dX10_common_1 : decode cX10_common 1 = .ok (.lconst 0, 1) := by decide +kernel
theorem dX10_common_2 : decode cX10_common 2 = .ok (.lcmp, 1) := by decide +kernel
theorem dX10_common_3 : decode cX10_common 3 = .ok (.ifCond .ge 8, 3) := by decide +kernel
theorem dX10_common_6 : decode cX10_common 6 = .ok (.lload_n 0, 1) := by decide +kernel
theorem dX10_common_7 : decode cX10_common 7 = .ok (.lneg, 1) := by decide +kernel
theorem dX10_common_8 : decode cX10_common 8 = .ok (.goto 4, 3) := by decide +kernel
theorem dX10_common_11 : decode cX10_common 11 = .ok (.lload_n 0, 1) := by decide +kernel
theorem dX10_common_12 : decode cX10_common 12 = .ok (.lstore 4, 2) := by decide +kernel
theorem dX10_common_14 : decode cX10_common 14 = .ok (.lload_n 2, 1) := by decide +kernel
theorem dX10_common_15 : decode cX10_common 15 = .ok (.lstore 6, 2) := by decide +kernel
theorem dX10_common_17 : decode cX10_common 17 = .ok (.lload 6, 2) := by decide +kernel
theorem dX10_common_19 : decode cX10_common 19 = .ok (.lconst 0, 1) := by decide +kernel
theorem dX10_common_20 : decode cX10_common 20 = .ok (.lcmp, 1) := by decide +kernel
theorem dX10_common_21 : decode cX10_common 21 = .ok (.ifCond .eq 21, 3) := by decide +kernel
theorem dX10_common_24 : decode cX10_common 24 = .ok (.lload 4, 2) := by decide +kernel
theorem dX10_common_26 : decode cX10_common 26 = .ok (.lload 6, 2) := by decide +kernel
theorem dX10_common_28 : decode cX10_common 28 = .ok (.lrem, 1) := by decide +kernel
theorem dX10_common_29 : decode cX10_common 29 = .ok (.lstore 8, 2) := by decide +kernel
theorem dX10_common_31 : decode cX10_common 31 = .ok (.lload 6, 2) := by decide +kernel
theorem dX10_common_33 : decode cX10_common 33 = .ok (.lstore 4, 2) := by decide +kernel
theorem dX10_common_35 : decode cX10_common 35 = .ok (.lload 8, 2) := by decide +kernel
theorem dX10_common_37 : decode cX10_common 37 = .ok (.lstore 6, 2) := by decide +kernel
theorem dX10_common_39 : decode cX10_common 39 = .ok (.goto (-22), 3) := by decide +kernel
theorem dX10_common_42 : decode cX10_common 42 = .ok (.lload 4, 2) := by decide +kernel
theorem dX10_common_44 : decode cX10_common 44 = .ok (.lreturn, 1) := by decide +kernel
theorem dX10_line_0 : decode cX10_line 0 = .ok (.aload_n 0, 1) := by decide +kernel
theorem dX10_line_1 : decode cX10_line 1 = .ok (.getfield 50, 3) := by decide +kernel
theorem dX10_line_4 : decode cX10_line 4 = .ok (.iload_n 1, 1) := by decide +kernel
theorem dX10_line_5 : decode cX10_line 5 = .ok (.iaload, 1) := by decide +kernel
theorem dX10_line_6 : decode cX10_line 6 = .ok (.istore_n 2, 1) := by decide +kernel
theorem dX10_line_7 : decode cX10_line 7 = .ok (.iload_n 2, 1) := by decide +kernel
theorem dX10_line_8 : decode cX10_line 8 = .ok (.aload_n 0, 1) := by decide +kernel
theorem dX10_line_9 : decode cX10_line 9 = .ok (.getfield 53, 3) := by decide +kernel
theorem dX10_line_12 : decode cX10_line 12 = .ok (.iload_n 1, 1) := by decide +kernel
theorem dX10_line_13 : decode cX10_line 13 = .ok (.iaload, 1) := by decide +kernel
theorem dX10_line_14 : decode cX10_line 14 = .ok (.iadd, 1) := by decide +kernel
theorem dX10_line_15 : decode cX10_line 15 = .ok (.istore_n 3, 1) := by decide +kernel
theorem dX10_line_16 : decode cX10_line 16 = .ok (.aload_n 0, 1) := by decide +kernel
theorem dX10_line_17 : decode cX10_line 17 = .ok (.iload_n 2, 1) := by decide +kernel
theorem dX10_line_18 : decode cX10_line 18 = .ok (.iload_n 3, 1) := by decide +kernel
theorem dX10_line_19 : decode cX10_line 19 = .ok (.invokevirtual 172, 3) := by decide +kernel
theorem dX10_line_22 : decode cX10_line 22 = .ok (.lconst 0, 1) := by decide +kernel
theorem dX10_line_23 : decode cX10_line 23 = .ok (.lstore 4, 2) := by decide +kernel
theorem dX10_line_25 : decode cX10_line 25 = .ok (.lconst 1, 1) := by decide +kernel
theorem dX10_line_26 : decode cX10_line 26 = .ok (.lstore 6, 2) := by decide +kernel
theorem dX10_line_28 : decode cX10_line 28 = .ok (.aload_n 0, 1) := by decide +kernel
theorem dX10_line_29 : decode cX10_line 29 = .ok (.getfield 163, 3) := by decide +kernel
theorem dX10_line_32 : decode cX10_line 32 = .ok (.lconst 0, 1) := by decide +kernel
theorem dX10_line_33 : decode cX10_line 33 = .ok (.lcmp, 1) := by decide +kernel
theorem dX10_line_34 : decode cX10_line 34 = .ok (.ifCond .le 27, 3) := by decide +kernel
theorem dX10_line_37 : decode cX10_line 37 = .ok (.aload_n 0, 1) := by decide +kernel
theorem dX10_line_38 : decode cX10_line 38 = .ok (.getfield 159, 3) := by decide +kernel
theorem dX10_line_41 : decode cX10_line 41 = .ok (.lconst 0, 1) := by decide +kernel
theorem dX10_line_42 : decode cX10_line 42 = .ok (.lcmp, 1) := by decide +kernel
theorem dX10_line_43 : decode cX10_line 43 = .ok (.ifCond .le 18, 3) := by decide +kernel
theorem dX10_line_46 : decode cX10_line 46 = .ok (.aload_n 0, 1) := by decide +kernel
theorem dX10_line_47 : decode cX10_line 47 = .ok (.getfield 159, 3) := by decide +kernel
theorem dX10_line_50 : decode cX10_line 50 = .ok (.lstore 4, 2) := by decide +kernel
theorem dX10_line_52 : decode cX10_line 52 = .ok (.aload_n 0, 1) := by decide +kernel
theorem dX10_line_53 : decode cX10_line 53 = .ok (.getfield 163, 3) := by decide +kernel
theorem dX10_line_56 : decode cX10_line 56 = .ok (.lstore 6, 2) := by decide +kernel
theorem dX10_line_58 : decode cX10_line 58 = .ok (.goto 33, 3) := by decide +kernel
theorem dX10_line_61 : decode cX10_line 61 = .ok (.aload_n 0, 1) := by decide +kernel
theorem dX10_line_62 : decode cX10_line 62 = .ok (.getfield 169, 3) := by decide +kernel
theorem dX10_line_65 : decode cX10_line 65 = .ok (.lconst 0, 1) := by decide +kernel
theorem dX10_line_66 : decode cX10_line 66 = .ok (.lcmp, 1) := by decide +kernel
theorem dX10_line_67 : decode cX10_line 67 = .ok (.ifCond .le 24, 3) := by decide +kernel
theorem dX10_line_70 : decode cX10_line 70 = .ok (.aload_n 0, 1) := by decide +kernel
theorem dX10_line_71 : decode cX10_line 71 = .ok (.getfield 166, 3) := by decide +kernel
theorem dX10_line_74 : decode cX10_line 74 = .ok (.lconst 0, 1) := by decide +kernel
theorem dX10_line_75 : decode cX10_line 75 = .ok (.lcmp, 1) := by decide +kernel
theorem dX10_line_76 : decode cX10_line 76 = .ok (.ifCond .ge 15, 3) := by decide +kernel
theorem dX10_line_79 : decode cX10_line 79 = .ok (.aload_n 0, 1) := by decide +kernel
theorem dX10_line_80 : decode cX10_line 80 = .ok (.getfield 166, 3) := by decide +kernel
theorem dX10_line_83 : decode cX10_line 83 = .ok (.lstore 4, 2) := by decide +kernel
theorem dX10_line_85 : decode cX10_line 85 = .ok (.aload_n 0, 1) := by decide +kernel
theorem dX10_line_86 : decode cX10_line 86 = .ok (.getfield 169, 3) := by decide +kernel
theorem dX10_line_89 : decode cX10_line 89 = .ok (.lstore 6, 2) := by decide +kernel
theorem dX10_line_91 : decode cX10_line 91 = .ok (.lload 4, 2) := by decide +kernel
theorem dX10_line_93 : decode cX10_line 93 = .ok (.lload 6, 2) := by decide +kernel
theorem dX10_line_95 : decode cX10_line 95 = .ok (.invokestatic 176, 3) := by decide +kernel
theorem dX10_line_98 : decode cX10_line 98 = .ok (.lstore 8, 2) := by decide +kernel
theorem dX10_line_100 : decode cX10_line 100 = .ok (.aload_n 0, 1) := by decide +kernel
theorem dX10_line_101 : decode cX10_line 101 = .ok (.getfield 56, 3) := by decide +kernel
theorem dX10_line_104 : decode cX10_line 104 = .ok (.iload_n 1, 1) := by decide +kernel
theorem dX10_line_105 : decode cX10_line 105 = .ok (.lload 4, 2) := by decide +kernel
theorem dX10_line_107 : decode cX10_line 107 = .ok (.lload 8, 2) := by decide +kernel
theorem dX10_line_109 : decode cX10_line 109 = .ok (.ldiv, 1) := by decide +kernel
theorem dX10_line_110 : decode cX10_line 110 = .ok (.lastore, 1) := by decide +kernel
theorem dX10_line_111 : decode cX10_line 111 = .ok (.aload_n 0, 1) := by decide +kernel
theorem dX10_line_112 : decode cX10_line 112 = .ok (.getfield 60, 3) := by decide +kernel
theorem dX10_line_115 : decode cX10_line 115 = .ok (.iload_n 1, 1) := by decide +kernel
theorem dX10_line_116 : decode cX10_line 116 = .ok (.lload 6, 2) := by decide +kernel
theorem dX10_line_118 : decode cX10_line 118 = .ok (.lload 8, 2) := by decide +kernel
theorem dX10_line_120 : decode cX10_line 120 = .ok (.ldiv, 1) := by decide +kernel
theorem dX10_line_121 : decode cX10_line 121 = .ok (.lastore, 1) := by decide +kernel
theorem dX10_line_122 : decode cX10_line 122 = .ok (.lconst 0, 1) := by decide +kernel
theorem dX10_line_123 : decode cX10_line 123 = .ok (.lstore 10, 2) := by decide +kernel
theorem dX10_line_125 : decode cX10_line 125 = .ok (.lconst 0, 1) := by decide +kernel
theorem dX10_line_126 : decode cX10_line 126 = .ok (.lstore 12, 2) := by decide +kernel
theorem dX10_line_128 : decode cX10_line 128 = .ok (.iload_n 2, 1) := by decide +kernel
theorem dX10_line_129 : decode cX10_line 129 = .ok (.istore 14, 2) := by decide +kernel
theorem dX10_line_131 : decode cX10_line 131 = .ok (.iload 14, 2) := by decide +kernel
theorem dX10_line_133 : decode cX10_line 133 = .ok (.iload_n 3, 1) := by decide +kernel
theorem dX10_line_134 : decode cX10_line 134 = .ok (.if_icmp .ge 137, 3) := by decide +kernel
theorem dX10_line_137 : decode cX10_line 137 = .ok (.aload_n 0, 1) := by decide +kernel
theorem dX10_line_138 : decode cX10_line 138 = .ok (.getfield 44, 3) := by decide +kernel
theorem dX10_line_141 : decode cX10_line 141 = .ok (.iload 14, 2) := by decide +kernel
theorem dX10_line_143 : decode cX10_line 143 = .ok (.iaload, 1) := by decide +kernel
theorem dX10_line_144 : decode cX10_line 144 = .ok (.aload_n 0, 1) := by decide +kernel
theorem dX10_line_145 : decode cX10_line 145 = .ok (.getfield 47, 3) := by decide +kernel
theorem dX10_line_148 : decode cX10_line 148 = .ok (.iload 14, 2) := by decide +kernel
theorem dX10_line_150 : decode cX10_line 150 = .ok (.iaload, 1) := by decide +kernel
theorem dX10_line_151 : decode cX10_line 151 = .ok (.isub, 1) := by decide +kernel
theorem dX10_line_152 : decode cX10_line 152 = .ok (.i2l, 1) := by decide +kernel
theorem dX10_line_153 : decode cX10_line 153 = .ok (.aload_n 0, 1) := by decide +kernel
theorem dX10_line_154 : decode cX10_line 154 = .ok (.getfield 60, 3) := by decide +kernel
theorem dX10_line_157 : decode cX10_line 157 = .ok (.iload_n 1, 1) := by decide +kernel
theorem dX10_line_158 : decode cX10_line 158 = .ok (.laload, 1) := by decide +kernel
theorem dX10_line_159 : decode cX10_line 159 = .ok (.lmul, 1) := by decide +kernel
theorem dX10_line_160 : decode cX10_line 160 = .ok (.aload_n 0, 1) := by decide +kernel
theorem dX10_line_161 : decode cX10_line 161 = .ok (.getfield 56, 3) := by decide +kernel
theorem dX10_line_164 : decode cX10_line 164 = .ok (.iload_n 1, 1) := by decide +kernel
theorem dX10_line_165 : decode cX10_line 165 = .ok (.laload, 1) := by decide +kernel
theorem dX10_line_166 : decode cX10_line 166 = .ok (.aload_n 0, 1) := by decide +kernel
theorem dX10_line_167 : decode cX10_line 167 = .ok (.getfield 41, 3) := by decide +kernel
theorem dX10_line_170 : decode cX10_line 170 = .ok (.iload 14, 2) := by decide +kernel
theorem dX10_line_172 : decode cX10_line 172 = .ok (.iaload, 1) := by decide +kernel
theorem dX10_line_173 : decode cX10_line 173 = .ok (.i2l, 1) := by decide +kernel
theorem dX10_line_174 : decode cX10_line 174 = .ok (.lmul, 1) := by decide +kernel
theorem dX10_line_175 : decode cX10_line 175 = .ok (.lsub, 1) := by decide +kernel
theorem dX10_line_176 : decode cX10_line 176 = .ok (.lstore 15, 2) := by decide +kernel
theorem dX10_line_178 : decode cX10_line 178 = .ok (.aload_n 0, 1) := by decide +kernel
theorem dX10_line_179 : decode cX10_line 179 = .ok (.getfield 44, 3) := by decide +kernel
theorem dX10_line_182 : decode cX10_line 182 = .ok (.iload 14, 2) := by decide +kernel
theorem dX10_line_184 : decode cX10_line 184 = .ok (.iaload, 1) := by decide +kernel
theorem dX10_line_185 : decode cX10_line 185 = .ok (.aload_n 0, 1) := by decide +kernel
theorem dX10_line_186 : decode cX10_line 186 = .ok (.getfield 47, 3) := by decide +kernel
theorem dX10_line_189 : decode cX10_line 189 = .ok (.iload 14, 2) := by decide +kernel
theorem dX10_line_191 : decode cX10_line 191 = .ok (.iaload, 1) := by decide +kernel
theorem dX10_line_192 : decode cX10_line 192 = .ok (.iadd, 1) := by decide +kernel
theorem dX10_line_193 : decode cX10_line 193 = .ok (.i2l, 1) := by decide +kernel
theorem dX10_line_194 : decode cX10_line 194 = .ok (.aload_n 0, 1) := by decide +kernel
theorem dX10_line_195 : decode cX10_line 195 = .ok (.getfield 60, 3) := by decide +kernel
theorem dX10_line_198 : decode cX10_line 198 = .ok (.iload_n 1, 1) := by decide +kernel
theorem dX10_line_199 : decode cX10_line 199 = .ok (.laload, 1) := by decide +kernel
theorem dX10_line_200 : decode cX10_line 200 = .ok (.lmul, 1) := by decide +kernel
theorem dX10_line_201 : decode cX10_line 201 = .ok (.aload_n 0, 1) := by decide +kernel
theorem dX10_line_202 : decode cX10_line 202 = .ok (.getfield 56, 3) := by decide +kernel
theorem dX10_line_205 : decode cX10_line 205 = .ok (.iload_n 1, 1) := by decide +kernel
theorem dX10_line_206 : decode cX10_line 206 = .ok (.laload, 1) := by decide +kernel
theorem dX10_line_207 : decode cX10_line 207 = .ok (.aload_n 0, 1) := by decide +kernel
theorem dX10_line_208 : decode cX10_line 208 = .ok (.getfield 41, 3) := by decide +kernel
theorem dX10_line_211 : decode cX10_line 211 = .ok (.iload 14, 2) := by decide +kernel
theorem dX10_line_213 : decode cX10_line 213 = .ok (.iaload, 1) := by decide +kernel
theorem dX10_line_214 : decode cX10_line 214 = .ok (.i2l, 1) := by decide +kernel
theorem dX10_line_215 : decode cX10_line 215 = .ok (.lmul, 1) := by decide +kernel
theorem dX10_line_216 : decode cX10_line 216 = .ok (.lsub, 1) := by decide +kernel
theorem dX10_line_217 : decode cX10_line 217 = .ok (.lstore 17, 2) := by decide +kernel
theorem dX10_line_219 : decode cX10_line 219 = .ok (.iload 14, 2) := by decide +kernel
theorem dX10_line_221 : decode cX10_line 221 = .ok (.iload_n 2, 1) := by decide +kernel
theorem dX10_line_222 : decode cX10_line 222 = .ok (.if_icmp .eq 11, 3) := by decide +kernel
theorem dX10_line_225 : decode cX10_line 225 = .ok (.lload 15, 2) := by decide +kernel
theorem dX10_line_227 : decode cX10_line 227 = .ok (.lload 12, 2) := by decide +kernel
theorem dX10_line_229 : decode cX10_line 229 = .ok (.lcmp, 1) := by decide +kernel
theorem dX10_line_230 : decode cX10_line 230 = .ok (.ifCond .le 8, 3) := by decide +kernel
theorem dX10_line_233 : decode cX10_line 233 = .ok (.lload 15, 2) := by decide +kernel
theorem dX10_line_235 : decode cX10_line 235 = .ok (.goto 5, 3) := by decide +kernel
theorem dX10_line_238 : decode cX10_line 238 = .ok (.lload 12, 2) := by decide +kernel
theorem dX10_line_240 : decode cX10_line 240 = .ok (.lstore 12, 2) := by decide +kernel
theorem dX10_line_242 : decode cX10_line 242 = .ok (.iload 14, 2) := by decide +kernel
theorem dX10_line_244 : decode cX10_line 244 = .ok (.iload_n 2, 1) := by decide +kernel
theorem dX10_line_245 : decode cX10_line 245 = .ok (.if_icmp .eq 11, 3) := by decide +kernel
theorem dX10_line_248 : decode cX10_line 248 = .ok (.lload 17, 2) := by decide +kernel
theorem dX10_line_250 : decode cX10_line 250 = .ok (.lload 10, 2) := by decide +kernel
theorem dX10_line_252 : decode cX10_line 252 = .ok (.lcmp, 1) := by decide +kernel
theorem dX10_line_253 : decode cX10_line 253 = .ok (.ifCond .ge 8, 3) := by decide +kernel
theorem dX10_line_256 : decode cX10_line 256 = .ok (.lload 17, 2) := by decide +kernel
theorem dX10_line_258 : decode cX10_line 258 = .ok (.goto 5, 3) := by decide +kernel
theorem dX10_line_261 : decode cX10_line 261 = .ok (.lload 10, 2) := by decide +kernel
theorem dX10_line_263 : decode cX10_line 263 = .ok (.lstore 10, 2) := by decide +kernel
theorem dX10_line_265 : decode cX10_line 265 = .ok (.iinc 14 1, 3) := by decide +kernel
theorem dX10_line_268 : decode cX10_line 268 = .ok (.goto (-137), 3) := by decide +kernel
theorem dX10_line_271 : decode cX10_line 271 = .ok (.aload_n 0, 1) := by decide +kernel
theorem dX10_line_272 : decode cX10_line 272 = .ok (.getfield 63, 3) := by decide +kernel
theorem dX10_line_275 : decode cX10_line 275 = .ok (.iload_n 1, 1) := by decide +kernel
theorem dX10_line_276 : decode cX10_line 276 = .ok (.lload 10, 2) := by decide +kernel
theorem dX10_line_278 : decode cX10_line 278 = .ok (.lload 12, 2) := by decide +kernel
theorem dX10_line_280 : decode cX10_line 280 = .ok (.ladd, 1) := by decide +kernel
theorem dX10_line_281 : decode cX10_line 281 = .ok (.lastore, 1) := by decide +kernel
theorem dX10_line_282 : decode cX10_line 282 = .ok (.return_, 1) := by decide +kernel
theorem dX10_works_0 : decode cX10_works 0 = .ok (.aload_n 0, 1) := by decide +kernel
theorem dX10_works_1 : decode cX10_works 1 = .ok (.iload_n 1, 1) := by decide +kernel
theorem dX10_works_2 : decode cX10_works 2 = .ok (.invokevirtual 145, 3) := by decide +kernel
theorem dX10_works_5 : decode cX10_works 5 = .ok (.aload_n 0, 1) := by decide +kernel
theorem dX10_works_6 : decode cX10_works 6 = .ok (.iconst 0, 1) := by decide +kernel
theorem dX10_works_7 : decode cX10_works 7 = .ok (.putfield 180, 3) := by decide +kernel
theorem dX10_works_10 : decode cX10_works 10 = .ok (.iconst 0, 1) := by decide +kernel
theorem dX10_works_11 : decode cX10_works 11 = .ok (.istore_n 2, 1) := by decide +kernel
theorem dX10_works_12 : decode cX10_works 12 = .ok (.iload_n 2, 1) := by decide +kernel
theorem dX10_works_13 : decode cX10_works 13 = .ok (.aload_n 0, 1) := by decide +kernel
theorem dX10_works_14 : decode cX10_works 14 = .ok (.getfield 34, 3) := by decide +kernel
theorem dX10_works_17 : decode cX10_works 17 = .ok (.iload_n 1, 1) := by decide +kernel
theorem dX10_works_18 : decode cX10_works 18 = .ok (.iaload, 1) := by decide +kernel
theorem dX10_works_19 : decode cX10_works 19 = .ok (.if_icmp .ge 97, 3) := by decide +kernel
theorem dX10_works_22 : decode cX10_works 22 = .ok (.bipush 20, 2) := by decide +kernel
theorem dX10_works_24 : decode cX10_works 24 = .ok (.iload_n 1, 1) := by decide +kernel
theorem dX10_works_25 : decode cX10_works 25 = .ok (.imul, 1) := by decide +kernel
theorem dX10_works_26 : decode cX10_works 26 = .ok (.iload_n 2, 1) := by decide +kernel
theorem dX10_works_27 : decode cX10_works 27 = .ok (.iadd, 1) := by decide +kernel
theorem dX10_works_28 : decode cX10_works 28 = .ok (.istore_n 3, 1) := by decide +kernel
theorem dX10_works_29 : decode cX10_works 29 = .ok (.aload_n 0, 1) := by decide +kernel
theorem dX10_works_30 : decode cX10_works 30 = .ok (.iload_n 1, 1) := by decide +kernel
theorem dX10_works_31 : decode cX10_works 31 = .ok (.aload_n 0, 1) := by decide +kernel
theorem dX10_works_32 : decode cX10_works 32 = .ok (.getfield 22, 3) := by decide +kernel
theorem dX10_works_35 : decode cX10_works 35 = .ok (.iload_n 3, 1) := by decide +kernel
theorem dX10_works_36 : decode cX10_works 36 = .ok (.iaload, 1) := by decide +kernel
theorem dX10_works_37 : decode cX10_works 37 = .ok (.invokevirtual 149, 3) := by decide +kernel
theorem dX10_works_40 : decode cX10_works 40 = .ok (.istore 4, 2) := by decide +kernel
theorem dX10_works_42 : decode cX10_works 42 = .ok (.iload 4, 2) := by decide +kernel
theorem dX10_works_44 : decode cX10_works 44 = .ok (.ldc 113, 2) := by decide +kernel
theorem dX10_works_46 : decode cX10_works 46 = .ok (.if_icmp .ne 6, 3) := by decide +kernel
theorem dX10_works_49 : decode cX10_works 49 = .ok (.goto 61, 3) := by decide +kernel
theorem dX10_works_52 : decode cX10_works 52 = .ok (.aload_n 0, 1) := by decide +kernel
theorem dX10_works_53 : decode cX10_works 53 = .ok (.getfield 41, 3) := by decide +kernel
theorem dX10_works_56 : decode cX10_works 56 = .ok (.aload_n 0, 1) := by decide +kernel
theorem dX10_works_57 : decode cX10_works 57 = .ok (.getfield 180, 3) := by decide +kernel
theorem dX10_works_60 : decode cX10_works 60 = .ok (.aload_n 0, 1) := by decide +kernel
theorem dX10_works_61 : decode cX10_works 61 = .ok (.getfield 22, 3) := by decide +kernel
theorem dX10_works_64 : decode cX10_works 64 = .ok (.iload_n 3, 1) := by decide +kernel
theorem dX10_works_65 : decode cX10_works 65 = .ok (.iaload, 1) := by decide +kernel
theorem dX10_works_66 : decode cX10_works 66 = .ok (.iastore, 1) := by decide +kernel
theorem dX10_works_67 : decode cX10_works 67 = .ok (.aload_n 0, 1) := by decide +kernel
theorem dX10_works_68 : decode cX10_works 68 = .ok (.getfield 44, 3) := by decide +kernel
theorem dX10_works_71 : decode cX10_works 71 = .ok (.aload_n 0, 1) := by decide +kernel
theorem dX10_works_72 : decode cX10_works 72 = .ok (.getfield 180, 3) := by decide +kernel
theorem dX10_works_75 : decode cX10_works 75 = .ok (.aload_n 0, 1) := by decide +kernel
theorem dX10_works_76 : decode cX10_works 76 = .ok (.getfield 25, 3) := by decide +kernel
theorem dX10_works_79 : decode cX10_works 79 = .ok (.iload_n 3, 1) := by decide +kernel
theorem dX10_works_80 : decode cX10_works 80 = .ok (.iaload, 1) := by decide +kernel
theorem dX10_works_81 : decode cX10_works 81 = .ok (.iload 4, 2) := by decide +kernel
theorem dX10_works_83 : decode cX10_works 83 = .ok (.isub, 1) := by decide +kernel
theorem dX10_works_84 : decode cX10_works 84 = .ok (.iastore, 1) := by decide +kernel
theorem dX10_works_85 : decode cX10_works 85 = .ok (.aload_n 0, 1) := by decide +kernel
theorem dX10_works_86 : decode cX10_works 86 = .ok (.getfield 47, 3) := by decide +kernel
theorem dX10_works_89 : decode cX10_works 89 = .ok (.aload_n 0, 1) := by decide +kernel
theorem dX10_works_90 : decode cX10_works 90 = .ok (.getfield 180, 3) := by decide +kernel
theorem dX10_works_93 : decode cX10_works 93 = .ok (.aload_n 0, 1) := by decide +kernel
theorem dX10_works_94 : decode cX10_works 94 = .ok (.getfield 31, 3) := by decide +kernel
theorem dX10_works_97 : decode cX10_works 97 = .ok (.iload_n 3, 1) := by decide +kernel
theorem dX10_works_98 : decode cX10_works 98 = .ok (.iaload, 1) := by decide +kernel
theorem dX10_works_99 : decode cX10_works 99 = .ok (.iastore, 1) := by decide +kernel
theorem dX10_works_100 : decode cX10_works 100 = .ok (.aload_n 0, 1) := by decide +kernel
theorem dX10_works_101 : decode cX10_works 101 = .ok (.dup, 1) := by decide +kernel
theorem dX10_works_102 : decode cX10_works 102 = .ok (.getfield 180, 3) := by decide +kernel
theorem dX10_works_105 : decode cX10_works 105 = .ok (.iconst 1, 1) := by decide +kernel
theorem dX10_works_106 : decode cX10_works 106 = .ok (.iadd, 1) := by decide +kernel
theorem dX10_works_107 : decode cX10_works 107 = .ok (.putfield 180, 3) := by decide +kernel
theorem dX10_works_110 : decode cX10_works 110 = .ok (.iinc 2 1, 3) := by decide +kernel
theorem dX10_works_113 : decode cX10_works 113 = .ok (.goto (-101), 3) := by decide +kernel
theorem dX10_works_116 : decode cX10_works 116 = .ok (.aload_n 0, 1) := by decide +kernel
theorem dX10_works_117 : decode cX10_works 117 = .ok (.iconst 0, 1) := by decide +kernel
theorem dX10_works_118 : decode cX10_works 118 = .ok (.putfield 183, 3) := by decide +kernel
theorem dX10_works_121 : decode cX10_works 121 = .ok (.iconst 0, 1) := by decide +kernel
theorem dX10_works_122 : decode cX10_works 122 = .ok (.istore_n 2, 1) := by decide +kernel
theorem dX10_works_123 : decode cX10_works 123 = .ok (.iload_n 2, 1) := by decide +kernel
theorem dX10_works_124 : decode cX10_works 124 = .ok (.aload_n 0, 1) := by decide +kernel
theorem dX10_works_125 : decode cX10_works 125 = .ok (.getfield 180, 3) := by decide +kernel
theorem dX10_works_128 : decode cX10_works 128 = .ok (.if_icmp .ge 77, 3) := by decide +kernel
theorem dX10_works_131 : decode cX10_works 131 = .ok (.iload_n 2, 1) := by decide +kernel
theorem dX10_works_132 : decode cX10_works 132 = .ok (.iconst 1, 1) := by decide +kernel
theorem dX10_works_133 : decode cX10_works 133 = .ok (.iadd, 1) := by decide +kernel
theorem dX10_works_134 : decode cX10_works 134 = .ok (.istore_n 3, 1) := by decide +kernel
theorem dX10_works_135 : decode cX10_works 135 = .ok (.iload_n 3, 1) := by decide +kernel
theorem dX10_works_136 : decode cX10_works 136 = .ok (.aload_n 0, 1) := by decide +kernel
theorem dX10_works_137 : decode cX10_works 137 = .ok (.getfield 180, 3) := by decide +kernel
theorem dX10_works_140 : decode cX10_works 140 = .ok (.if_icmp .ge 20, 3) := by decide +kernel
theorem dX10_works_143 : decode cX10_works 143 = .ok (.aload_n 0, 1) := by decide +kernel
theorem dX10_works_144 : decode cX10_works 144 = .ok (.iload_n 2, 1) := by decide +kernel
theorem dX10_works_145 : decode cX10_works 145 = .ok (.iload_n 3, 1) := by decide +kernel
theorem dX10_works_146 : decode cX10_works 146 = .ok (.iconst 1, 1) := by decide +kernel
theorem dX10_works_147 : decode cX10_works 147 = .ok (.iadd, 1) := by decide +kernel
theorem dX10_works_148 : decode cX10_works 148 = .ok (.invokevirtual 186, 3) := by decide +kernel
theorem dX10_works_151 : decode cX10_works 151 = .ok (.ifCond .eq 9, 3) := by decide +kernel
theorem dX10_works_154 : decode cX10_works 154 = .ok (.iinc 3 1, 3) := by decide +kernel
theorem dX10_works_157 : decode cX10_works 157 = .ok (.goto (-22), 3) := by decide +kernel
theorem dX10_works_160 : decode cX10_works 160 = .ok (.aload_n 0, 1) := by decide +kernel
theorem dX10_works_161 : decode cX10_works 161 = .ok (.getfield 50, 3) := by decide +kernel
theorem dX10_works_164 : decode cX10_works 164 = .ok (.aload_n 0, 1) := by decide +kernel
theorem dX10_works_165 : decode cX10_works 165 = .ok (.getfield 183, 3) := by decide +kernel
theorem dX10_works_168 : decode cX10_works 168 = .ok (.iload_n 2, 1) := by decide +kernel
theorem dX10_works_169 : decode cX10_works 169 = .ok (.iastore, 1) := by decide +kernel
theorem dX10_works_170 : decode cX10_works 170 = .ok (.aload_n 0, 1) := by decide +kernel
theorem dX10_works_171 : decode cX10_works 171 = .ok (.getfield 53, 3) := by decide +kernel
theorem dX10_works_174 : decode cX10_works 174 = .ok (.aload_n 0, 1) := by decide +kernel
theorem dX10_works_175 : decode cX10_works 175 = .ok (.getfield 183, 3) := by decide +kernel
theorem dX10_works_178 : decode cX10_works 178 = .ok (.iload_n 3, 1) := by decide +kernel
theorem dX10_works_179 : decode cX10_works 179 = .ok (.iload_n 2, 1) := by decide +kernel
theorem dX10_works_180 : decode cX10_works 180 = .ok (.isub, 1) := by decide +kernel
theorem dX10_works_181 : decode cX10_works 181 = .ok (.iastore, 1) := by decide +kernel
theorem dX10_works_182 : decode cX10_works 182 = .ok (.aload_n 0, 1) := by decide +kernel
theorem dX10_works_183 : decode cX10_works 183 = .ok (.aload_n 0, 1) := by decide +kernel
theorem dX10_works_184 : decode cX10_works 184 = .ok (.getfield 183, 3) := by decide +kernel
theorem dX10_works_187 : decode cX10_works 187 = .ok (.invokevirtual 189, 3) := by decide +kernel
theorem dX10_works_190 : decode cX10_works 190 = .ok (.aload_n 0, 1) := by decide +kernel
theorem dX10_works_191 : decode cX10_works 191 = .ok (.dup, 1) := by decide +kernel
theorem dX10_works_192 : decode cX10_works 192 = .ok (.getfield 183, 3) := by decide +kernel
theorem dX10_works_195 : decode cX10_works 195 = .ok (.iconst 1, 1) := by decide +kernel
theorem dX10_works_196 : decode cX10_works 196 = .ok (.iadd, 1) := by decide +kernel
theorem dX10_works_197 : decode cX10_works 197 = .ok (.putfield 183, 3) := by decide +kernel
theorem dX10_works_200 : decode cX10_works 200 = .ok (.iload_n 3, 1) := by decide +kernel
theorem dX10_works_201 : decode cX10_works 201 = .ok (.istore_n 2, 1) := by decide +kernel
theorem dX10_works_202 : decode cX10_works 202 = .ok (.goto (-79), 3) := by decide +kernel
theorem dX10_works_205 : decode cX10_works 205 = .ok (.return_, 1) := by decide +kernel
theorem dX10_floor_0 : decode cX10_floor 0 = .ok (.lload_n 1, 1) := by decide +kernel
theorem dX10_floor_1 : decode cX10_floor 1 = .ok (.lload_n 3, 1) := by decide +kernel
theorem dX10_floor_2 : decode cX10_floor 2 = .ok (.ldiv, 1) := by decide +kernel
theorem dX10_floor_3 : decode cX10_floor 3 = .ok (.lstore 5, 2) := by decide +kernel
theorem dX10_floor_5 : decode cX10_floor 5 = .ok (.lload_n 1, 1) := by decide +kernel
theorem dX10_floor_6 : decode cX10_floor 6 = .ok (.lload_n 3, 1) := by decide +kernel
theorem dX10_floor_7 : decode cX10_floor 7 = .ok (.lrem, 1) := by decide +kernel
theorem dX10_floor_8 : decode cX10_floor 8 = .ok (.lconst 0, 1) := by decide +kernel
theorem dX10_floor_9 : decode cX10_floor 9 = .ok (.lcmp, 1) := by decide +kernel
theorem dX10_floor_10 : decode cX10_floor 10 = .ok (.ifCond .ge 10, 3) := by decide +kernel
theorem dX10_floor_13 : decode cX10_floor 13 = .ok (.lload 5, 2) := by decide +kernel
theorem dX10_floor_15 : decode cX10_floor 15 = .ok (.lconst 1, 1) := by decide +kernel
theorem dX10_floor_16 : decode cX10_floor 16 = .ok (.lsub, 1) := by decide +kernel
theorem dX10_floor_17 : decode cX10_floor 17 = .ok (.goto 5, 3) := by decide +kernel
theorem dX10_floor_20 : decode cX10_floor 20 = .ok (.lload 5, 2) := by decide +kernel
theorem dX10_floor_22 : decode cX10_floor 22 = .ok (.lreturn, 1) := by decide +kernel
theorem dX10_base_0 : decode cX10_base 0 = .ok (.iconst 0, 1) := by decide +kernel
theorem dX10_base_1 : decode cX10_base 1 = .ok (.istore_n 2, 1) := by decide +kernel
theorem dX10_base_2 : decode cX10_base 2 = .ok (.iconst 1, 1) := by decide +kernel
theorem dX10_base_3 : decode cX10_base 3 = .ok (.istore_n 3, 1) := by decide +kernel
theorem dX10_base_4 : decode cX10_base 4 = .ok (.iload_n 3, 1) := by decide +kernel
theorem dX10_base_5 : decode cX10_base 5 = .ok (.aload_n 0, 1) := by decide +kernel
theorem dX10_base_6 : decode cX10_base 6 = .ok (.getfield 183, 3) := by decide +kernel
theorem dX10_base_9 : decode cX10_base 9 = .ok (.if_icmp .ge 26, 3) := by decide +kernel
theorem dX10_base_12 : decode cX10_base 12 = .ok (.aload_n 0, 1) := by decide +kernel
theorem dX10_base_13 : decode cX10_base 13 = .ok (.getfield 41, 3) := by decide +kernel
theorem dX10_base_16 : decode cX10_base 16 = .ok (.aload_n 0, 1) := by decide +kernel
theorem dX10_base_17 : decode cX10_base 17 = .ok (.getfield 50, 3) := by decide +kernel
theorem dX10_base_20 : decode cX10_base 20 = .ok (.iload_n 3, 1) := by decide +kernel
theorem dX10_base_21 : decode cX10_base 21 = .ok (.iaload, 1) := by decide +kernel
theorem dX10_base_22 : decode cX10_base 22 = .ok (.iaload, 1) := by decide +kernel
theorem dX10_base_23 : decode cX10_base 23 = .ok (.iload_n 1, 1) := by decide +kernel
theorem dX10_base_24 : decode cX10_base 24 = .ok (.if_icmp .gt 5, 3) := by decide +kernel
theorem dX10_base_27 : decode cX10_base 27 = .ok (.iload_n 3, 1) := by decide +kernel
theorem dX10_base_28 : decode cX10_base 28 = .ok (.istore_n 2, 1) := by decide +kernel
theorem dX10_base_29 : decode cX10_base 29 = .ok (.iinc 3 1, 3) := by decide +kernel
theorem dX10_base_32 : decode cX10_base 32 = .ok (.goto (-28), 3) := by decide +kernel
theorem dX10_base_35 : decode cX10_base 35 = .ok (.aload_n 0, 1) := by decide +kernel
theorem dX10_base_36 : decode cX10_base 36 = .ok (.ldc2_w 192, 3) := by decide +kernel
theorem dX10_base_39 : decode cX10_base 39 = .ok (.aload_n 0, 1) := by decide +kernel
theorem dX10_base_40 : decode cX10_base 40 = .ok (.getfield 56, 3) := by decide +kernel
theorem dX10_base_43 : decode cX10_base 43 = .ok (.iload_n 2, 1) := by decide +kernel
theorem dX10_base_44 : decode cX10_base 44 = .ok (.laload, 1) := by decide +kernel
theorem dX10_base_45 : decode cX10_base 45 = .ok (.lmul, 1) := by decide +kernel
theorem dX10_base_46 : decode cX10_base 46 = .ok (.iload_n 1, 1) := by decide +kernel
theorem dX10_base_47 : decode cX10_base 47 = .ok (.i2l, 1) := by decide +kernel
theorem dX10_base_48 : decode cX10_base 48 = .ok (.lmul, 1) := by decide +kernel
theorem dX10_base_49 : decode cX10_base 49 = .ok (.aload_n 0, 1) := by decide +kernel
theorem dX10_base_50 : decode cX10_base 50 = .ok (.getfield 63, 3) := by decide +kernel
theorem dX10_base_53 : decode cX10_base 53 = .ok (.iload_n 2, 1) := by decide +kernel
theorem dX10_base_54 : decode cX10_base 54 = .ok (.laload, 1) := by decide +kernel
theorem dX10_base_55 : decode cX10_base 55 = .ok (.ladd, 1) := by decide +kernel
theorem dX10_base_56 : decode cX10_base 56 = .ok (.ldc2_w 192, 3) := by decide +kernel
theorem dX10_base_59 : decode cX10_base 59 = .ok (.aload_n 0, 1) := by decide +kernel
theorem dX10_base_60 : decode cX10_base 60 = .ok (.getfield 60, 3) := by decide +kernel
theorem dX10_base_63 : decode cX10_base 63 = .ok (.iload_n 2, 1) := by decide +kernel
theorem dX10_base_64 : decode cX10_base 64 = .ok (.laload, 1) := by decide +kernel
theorem dX10_base_65 : decode cX10_base 65 = .ok (.lmul, 1) := by decide +kernel
theorem dX10_base_66 : decode cX10_base 66 = .ok (.invokevirtual 194, 3) := by decide +kernel
theorem dX10_base_69 : decode cX10_base 69 = .ok (.lreturn, 1) := by decide +kernel
theorem dX10_pieces_0 : decode cX10_pieces 0 = .ok (.aload_n 0, 1) := by decide +kernel
theorem dX10_pieces_1 : decode cX10_pieces 1 = .ok (.iconst 0, 1) := by decide +kernel
theorem dX10_pieces_2 : decode cX10_pieces 2 = .ok (.putfield 114, 3) := by decide +kernel
theorem dX10_pieces_5 : decode cX10_pieces 5 = .ok (.aload_n 0, 1) := by decide +kernel
theorem dX10_pieces_6 : decode cX10_pieces 6 = .ok (.aload_n 0, 1) := by decide +kernel
theorem dX10_pieces_7 : decode cX10_pieces 7 = .ok (.iload_n 1, 1) := by decide +kernel
theorem dX10_pieces_8 : decode cX10_pieces 8 = .ok (.invokevirtual 117, 3) := by decide +kernel
theorem dX10_pieces_11 : decode cX10_pieces 11 = .ok (.ifCond .ne 7, 3) := by decide +kernel
theorem dX10_pieces_14 : decode cX10_pieces 14 = .ok (.iconst 1, 1) := by decide +kernel
theorem dX10_pieces_15 : decode cX10_pieces 15 = .ok (.goto 4, 3) := by decide +kernel
theorem dX10_pieces_18 : decode cX10_pieces 18 = .ok (.iconst 0, 1) := by decide +kernel
theorem dX10_pieces_19 : decode cX10_pieces 19 = .ok (.iconst 1, 1) := by decide +kernel
theorem dX10_pieces_20 : decode cX10_pieces 20 = .ok (.invokevirtual 125, 3) := by decide +kernel
theorem dX10_pieces_23 : decode cX10_pieces 23 = .ok (.ifCond .eq 5, 3) := by decide +kernel
theorem dX10_pieces_26 : decode cX10_pieces 26 = .ok (.iconst 0, 1) := by decide +kernel
theorem dX10_pieces_27 : decode cX10_pieces 27 = .ok (.ireturn, 1) := by decide +kernel
theorem dX10_pieces_28 : decode cX10_pieces 28 = .ok (.aload_n 0, 1) := by decide +kernel
theorem dX10_pieces_29 : decode cX10_pieces 29 = .ok (.iload_n 1, 1) := by decide +kernel
theorem dX10_pieces_30 : decode cX10_pieces 30 = .ok (.invokevirtual 197, 3) := by decide +kernel
theorem dX10_pieces_33 : decode cX10_pieces 33 = .ok (.aload_n 0, 1) := by decide +kernel
theorem dX10_pieces_34 : decode cX10_pieces 34 = .ok (.getfield 183, 3) := by decide +kernel
theorem dX10_pieces_37 : decode cX10_pieces 37 = .ok (.ireturn, 1) := by decide +kernel
theorem dX10_piece_0 : decode cX10_piece 0 = .ok (.aload_n 0, 1) := by decide +kernel
theorem dX10_piece_1 : decode cX10_piece 1 = .ok (.iconst 0, 1) := by decide +kernel
theorem dX10_piece_2 : decode cX10_piece 2 = .ok (.putfield 114, 3) := by decide +kernel
theorem dX10_piece_5 : decode cX10_piece 5 = .ok (.aload_n 0, 1) := by decide +kernel
theorem dX10_piece_6 : decode cX10_piece 6 = .ok (.aload_n 0, 1) := by decide +kernel
theorem dX10_piece_7 : decode cX10_piece 7 = .ok (.iload_n 1, 1) := by decide +kernel
theorem dX10_piece_8 : decode cX10_piece 8 = .ok (.invokevirtual 117, 3) := by decide +kernel
theorem dX10_piece_11 : decode cX10_piece 11 = .ok (.ifCond .ne 7, 3) := by decide +kernel
theorem dX10_piece_14 : decode cX10_piece 14 = .ok (.iconst 1, 1) := by decide +kernel
theorem dX10_piece_15 : decode cX10_piece 15 = .ok (.goto 4, 3) := by decide +kernel
theorem dX10_piece_18 : decode cX10_piece 18 = .ok (.iconst 0, 1) := by decide +kernel
theorem dX10_piece_19 : decode cX10_piece 19 = .ok (.iconst 1, 1) := by decide +kernel
theorem dX10_piece_20 : decode cX10_piece 20 = .ok (.invokevirtual 125, 3) := by decide +kernel
theorem dX10_piece_23 : decode cX10_piece 23 = .ok (.ifCond .ne 25, 3) := by decide +kernel
theorem dX10_piece_26 : decode cX10_piece 26 = .ok (.aload_n 0, 1) := by decide +kernel
theorem dX10_piece_27 : decode cX10_piece 27 = .ok (.iload_n 3, 1) := by decide +kernel
theorem dX10_piece_28 : decode cX10_piece 28 = .ok (.ifCond .lt 8, 3) := by decide +kernel
theorem dX10_piece_31 : decode cX10_piece 31 = .ok (.iload_n 3, 1) := by decide +kernel
theorem dX10_piece_32 : decode cX10_piece 32 = .ok (.iconst 3, 1) := by decide +kernel
theorem dX10_piece_33 : decode cX10_piece 33 = .ok (.if_icmp .le 7, 3) := by decide +kernel
theorem dX10_piece_36 : decode cX10_piece 36 = .ok (.iconst 1, 1) := by decide +kernel
theorem dX10_piece_37 : decode cX10_piece 37 = .ok (.goto 4, 3) := by decide +kernel
theorem dX10_piece_40 : decode cX10_piece 40 = .ok (.iconst 0, 1) := by decide +kernel
theorem dX10_piece_41 : decode cX10_piece 41 = .ok (.iconst 2, 1) := by decide +kernel
theorem dX10_piece_42 : decode cX10_piece 42 = .ok (.invokevirtual 125, 3) := by decide +kernel
theorem dX10_piece_45 : decode cX10_piece 45 = .ok (.ifCond .eq 5, 3) := by decide +kernel
theorem dX10_piece_48 : decode cX10_piece 48 = .ok (.iconst 0, 1) := by decide +kernel
theorem dX10_piece_49 : decode cX10_piece 49 = .ok (.ireturn, 1) := by decide +kernel
theorem dX10_piece_50 : decode cX10_piece 50 = .ok (.aload_n 0, 1) := by decide +kernel
theorem dX10_piece_51 : decode cX10_piece 51 = .ok (.iload_n 1, 1) := by decide +kernel
theorem dX10_piece_52 : decode cX10_piece 52 = .ok (.invokevirtual 197, 3) := by decide +kernel
theorem dX10_piece_55 : decode cX10_piece 55 = .ok (.iload_n 2, 1) := by decide +kernel
theorem dX10_piece_56 : decode cX10_piece 56 = .ok (.ifCond .lt 11, 3) := by decide +kernel
theorem dX10_piece_59 : decode cX10_piece 59 = .ok (.iload_n 2, 1) := by decide +kernel
theorem dX10_piece_60 : decode cX10_piece 60 = .ok (.aload_n 0, 1) := by decide +kernel
theorem dX10_piece_61 : decode cX10_piece 61 = .ok (.getfield 183, 3) := by decide +kernel
theorem dX10_piece_64 : decode cX10_piece 64 = .ok (.if_icmp .lt 6, 3) := by decide +kernel
theorem dX10_piece_67 : decode cX10_piece 67 = .ok (.ldc 113, 2) := by decide +kernel
theorem dX10_piece_69 : decode cX10_piece 69 = .ok (.ireturn, 1) := by decide +kernel
theorem dX10_piece_70 : decode cX10_piece 70 = .ok (.iload_n 3, 1) := by decide +kernel
theorem dX10_piece_71 : decode cX10_piece 71 = .ok (.ifCond .ne 17, 3) := by decide +kernel
theorem dX10_piece_74 : decode cX10_piece 74 = .ok (.aload_n 0, 1) := by decide +kernel
theorem dX10_piece_75 : decode cX10_piece 75 = .ok (.getfield 41, 3) := by decide +kernel
theorem dX10_piece_78 : decode cX10_piece 78 = .ok (.aload_n 0, 1) := by decide +kernel
theorem dX10_piece_79 : decode cX10_piece 79 = .ok (.getfield 50, 3) := by decide +kernel
theorem dX10_piece_82 : decode cX10_piece 82 = .ok (.iload_n 2, 1) := by decide +kernel
theorem dX10_piece_83 : decode cX10_piece 83 = .ok (.iaload, 1) := by decide +kernel
theorem dX10_piece_84 : decode cX10_piece 84 = .ok (.iaload, 1) := by decide +kernel
theorem dX10_piece_85 : decode cX10_piece 85 = .ok (.goto 39, 3) := by decide +kernel
theorem dX10_piece_88 : decode cX10_piece 88 = .ok (.iload_n 3, 1) := by decide +kernel
theorem dX10_piece_89 : decode cX10_piece 89 = .ok (.iconst 1, 1) := by decide +kernel
theorem dX10_piece_90 : decode cX10_piece 90 = .ok (.if_icmp .ne 12, 3) := by decide +kernel
theorem dX10_piece_93 : decode cX10_piece 93 = .ok (.aload_n 0, 1) := by decide +kernel
theorem dX10_piece_94 : decode cX10_piece 94 = .ok (.getfield 53, 3) := by decide +kernel
theorem dX10_piece_97 : decode cX10_piece 97 = .ok (.iload_n 2, 1) := by decide +kernel
theorem dX10_piece_98 : decode cX10_piece 98 = .ok (.iaload, 1) := by decide +kernel
theorem dX10_piece_99 : decode cX10_piece 99 = .ok (.goto 25, 3) := by decide +kernel
theorem dX10_piece_102 : decode cX10_piece 102 = .ok (.iload_n 3, 1) := by decide +kernel
theorem dX10_piece_103 : decode cX10_piece 103 = .ok (.iconst 2, 1) := by decide +kernel
theorem dX10_piece_104 : decode cX10_piece 104 = .ok (.if_icmp .ne 13, 3) := by decide +kernel
theorem dX10_piece_107 : decode cX10_piece 107 = .ok (.aload_n 0, 1) := by decide +kernel
theorem dX10_piece_108 : decode cX10_piece 108 = .ok (.getfield 56, 3) := by decide +kernel
theorem dX10_piece_111 : decode cX10_piece 111 = .ok (.iload_n 2, 1) := by decide +kernel
theorem dX10_piece_112 : decode cX10_piece 112 = .ok (.laload, 1) := by decide +kernel
theorem dX10_piece_113 : decode cX10_piece 113 = .ok (.l2i, 1) := by decide +kernel
theorem dX10_piece_114 : decode cX10_piece 114 = .ok (.goto 10, 3) := by decide +kernel
theorem dX10_piece_117 : decode cX10_piece 117 = .ok (.aload_n 0, 1) := by decide +kernel
theorem dX10_piece_118 : decode cX10_piece 118 = .ok (.getfield 60, 3) := by decide +kernel
theorem dX10_piece_121 : decode cX10_piece 121 = .ok (.iload_n 2, 1) := by decide +kernel
theorem dX10_piece_122 : decode cX10_piece 122 = .ok (.laload, 1) := by decide +kernel
theorem dX10_piece_123 : decode cX10_piece 123 = .ok (.l2i, 1) := by decide +kernel
theorem dX10_piece_124 : decode cX10_piece 124 = .ok (.ireturn, 1) := by decide +kernel
theorem dX10_baseline_0 : decode cX10_baseline 0 = .ok (.aload_n 0, 1) := by decide +kernel
theorem dX10_baseline_1 : decode cX10_baseline 1 = .ok (.iconst 0, 1) := by decide +kernel
theorem dX10_baseline_2 : decode cX10_baseline 2 = .ok (.putfield 114, 3) := by decide +kernel
theorem dX10_baseline_5 : decode cX10_baseline 5 = .ok (.aload_n 0, 1) := by decide +kernel
theorem dX10_baseline_6 : decode cX10_baseline 6 = .ok (.aload_n 0, 1) := by decide +kernel
theorem dX10_baseline_7 : decode cX10_baseline 7 = .ok (.iload_n 1, 1) := by decide +kernel
theorem dX10_baseline_8 : decode cX10_baseline 8 = .ok (.invokevirtual 117, 3) := by decide +kernel
theorem dX10_baseline_11 : decode cX10_baseline 11 = .ok (.ifCond .ne 7, 3) := by decide +kernel
theorem dX10_baseline_14 : decode cX10_baseline 14 = .ok (.iconst 1, 1) := by decide +kernel
theorem dX10_baseline_15 : decode cX10_baseline 15 = .ok (.goto 4, 3) := by decide +kernel
theorem dX10_baseline_18 : decode cX10_baseline 18 = .ok (.iconst 0, 1) := by decide +kernel
theorem dX10_baseline_19 : decode cX10_baseline 19 = .ok (.iconst 1, 1) := by decide +kernel
theorem dX10_baseline_20 : decode cX10_baseline 20 = .ok (.invokevirtual 125, 3) := by decide +kernel
theorem dX10_baseline_23 : decode cX10_baseline 23 = .ok (.ifCond .eq 5, 3) := by decide +kernel
theorem dX10_baseline_26 : decode cX10_baseline 26 = .ok (.iconst 0, 1) := by decide +kernel
theorem dX10_baseline_27 : decode cX10_baseline 27 = .ok (.ireturn, 1) := by decide +kernel
theorem dX10_baseline_28 : decode cX10_baseline 28 = .ok (.aload_n 0, 1) := by decide +kernel
theorem dX10_baseline_29 : decode cX10_baseline 29 = .ok (.iload_n 1, 1) := by decide +kernel
theorem dX10_baseline_30 : decode cX10_baseline 30 = .ok (.invokevirtual 197, 3) := by decide +kernel
theorem dX10_baseline_33 : decode cX10_baseline 33 = .ok (.aload_n 0, 1) := by decide +kernel
theorem dX10_baseline_34 : decode cX10_baseline 34 = .ok (.getfield 183, 3) := by decide +kernel
theorem dX10_baseline_37 : decode cX10_baseline 37 = .ok (.ifCond .eq 14, 3) := by decide +kernel
theorem dX10_baseline_40 : decode cX10_baseline 40 = .ok (.iload_n 2, 1) := by decide +kernel
theorem dX10_baseline_41 : decode cX10_baseline 41 = .ok (.ifCond .lt 10, 3) := by decide +kernel
theorem dX10_baseline_44 : decode cX10_baseline 44 = .ok (.iload_n 2, 1) := by decide +kernel
theorem dX10_baseline_45 : decode cX10_baseline 45 = .ok (.sipush 300, 3) := by decide +kernel
theorem dX10_baseline_48 : decode cX10_baseline 48 = .ok (.if_icmp .lt 8, 3) := by decide +kernel
theorem dX10_baseline_51 : decode cX10_baseline 51 = .ok (.ldc 113, 2) := by decide +kernel
theorem dX10_baseline_53 : decode cX10_baseline 53 = .ok (.goto 9, 3) := by decide +kernel
theorem dX10_baseline_56 : decode cX10_baseline 56 = .ok (.aload_n 0, 1) := by decide +kernel
theorem dX10_baseline_57 : decode cX10_baseline 57 = .ok (.iload_n 2, 1) := by decide +kernel
theorem dX10_baseline_58 : decode cX10_baseline 58 = .ok (.invokevirtual 200, 3) := by decide +kernel
theorem dX10_baseline_61 : decode cX10_baseline 61 = .ok (.l2i, 1) := by decide +kernel
theorem dX10_baseline_62 : decode cX10_baseline 62 = .ok (.ireturn, 1) := by decide +kernel
theorem dX10_finishes_0 : decode cX10_finishes 0 = .ok (.aload_n 0, 1) := by decide +kernel
theorem dX10_finishes_1 : decode cX10_finishes 1 = .ok (.iload_n 1, 1) := by decide +kernel
theorem dX10_finishes_2 : decode cX10_finishes 2 = .ok (.invokevirtual 197, 3) := by decide +kernel
theorem dX10_finishes_5 : decode cX10_finishes 5 = .ok (.iconst 0, 1) := by decide +kernel
theorem dX10_finishes_6 : decode cX10_finishes 6 = .ok (.istore_n 2, 1) := by decide +kernel
theorem dX10_finishes_7 : decode cX10_finishes 7 = .ok (.iload_n 2, 1) := by decide +kernel
theorem dX10_finishes_8 : decode cX10_finishes 8 = .ok (.sipush 300, 3) := by decide +kernel
theorem dX10_finishes_11 : decode cX10_finishes 11 = .ok (.if_icmp .ge 54, 3) := by decide +kernel
theorem dX10_finishes_14 : decode cX10_finishes 14 = .ok (.aload_n 0, 1) := by decide +kernel
theorem dX10_finishes_15 : decode cX10_finishes 15 = .ok (.iload_n 1, 1) := by decide +kernel
theorem dX10_finishes_16 : decode cX10_finishes 16 = .ok (.iload_n 2, 1) := by decide +kernel
theorem dX10_finishes_17 : decode cX10_finishes 17 = .ok (.invokevirtual 149, 3) := by decide +kernel
theorem dX10_finishes_20 : decode cX10_finishes 20 = .ok (.istore_n 3, 1) := by decide +kernel
theorem dX10_finishes_21 : decode cX10_finishes 21 = .ok (.aload_n 0, 1) := by decide +kernel
theorem dX10_finishes_22 : decode cX10_finishes 22 = .ok (.getfield 19, 3) := by decide +kernel
theorem dX10_finishes_25 : decode cX10_finishes 25 = .ok (.sipush 300, 3) := by decide +kernel
theorem dX10_finishes_28 : decode cX10_finishes 28 = .ok (.iload_n 1, 1) := by decide +kernel
theorem dX10_finishes_29 : decode cX10_finishes 29 = .ok (.imul, 1) := by decide +kernel
theorem dX10_finishes_30 : decode cX10_finishes 30 = .ok (.iload_n 2, 1) := by decide +kernel
theorem dX10_finishes_31 : decode cX10_finishes 31 = .ok (.iadd, 1) := by decide +kernel
theorem dX10_finishes_32 : decode cX10_finishes 32 = .ok (.iload_n 3, 1) := by decide +kernel
theorem dX10_finishes_33 : decode cX10_finishes 33 = .ok (.ldc 113, 2) := by decide +kernel
theorem dX10_finishes_35 : decode cX10_finishes 35 = .ok (.if_icmp .eq 10, 3) := by decide +kernel
theorem dX10_finishes_38 : decode cX10_finishes 38 = .ok (.aload_n 0, 1) := by decide +kernel
theorem dX10_finishes_39 : decode cX10_finishes 39 = .ok (.getfield 183, 3) := by decide +kernel
theorem dX10_finishes_42 : decode cX10_finishes 42 = .ok (.ifCond .ne 8, 3) := by decide +kernel
theorem dX10_finishes_45 : decode cX10_finishes 45 = .ok (.ldc 113, 2) := by decide +kernel
theorem dX10_finishes_47 : decode cX10_finishes 47 = .ok (.goto 11, 3) := by decide +kernel
theorem dX10_finishes_50 : decode cX10_finishes 50 = .ok (.iload_n 3, 1) := by decide +kernel
theorem dX10_finishes_51 : decode cX10_finishes 51 = .ok (.aload_n 0, 1) := by decide +kernel
theorem dX10_finishes_52 : decode cX10_finishes 52 = .ok (.iload_n 2, 1) := by decide +kernel
theorem dX10_finishes_53 : decode cX10_finishes 53 = .ok (.invokevirtual 200, 3) := by decide +kernel
theorem dX10_finishes_56 : decode cX10_finishes 56 = .ok (.l2i, 1) := by decide +kernel
theorem dX10_finishes_57 : decode cX10_finishes 57 = .ok (.iadd, 1) := by decide +kernel
theorem dX10_finishes_58 : decode cX10_finishes 58 = .ok (.iastore, 1) := by decide +kernel
theorem dX10_finishes_59 : decode cX10_finishes 59 = .ok (.iinc 2 1, 3) := by decide +kernel
theorem dX10_finishes_62 : decode cX10_finishes 62 = .ok (.goto (-55), 3) := by decide +kernel
theorem dX10_finishes_65 : decode cX10_finishes 65 = .ok (.return_, 1) := by decide +kernel
theorem dX10_value_0 : decode cX10_value 0 = .ok (.aload_n 0, 1) := by decide +kernel
theorem dX10_value_1 : decode cX10_value 1 = .ok (.iconst 0, 1) := by decide +kernel
theorem dX10_value_2 : decode cX10_value 2 = .ok (.putfield 114, 3) := by decide +kernel
theorem dX10_value_5 : decode cX10_value 5 = .ok (.aload_n 0, 1) := by decide +kernel
theorem dX10_value_6 : decode cX10_value 6 = .ok (.aload_n 0, 1) := by decide +kernel
theorem dX10_value_7 : decode cX10_value 7 = .ok (.iload_n 1, 1) := by decide +kernel
theorem dX10_value_8 : decode cX10_value 8 = .ok (.invokevirtual 117, 3) := by decide +kernel
theorem dX10_value_11 : decode cX10_value 11 = .ok (.ifCond .ne 7, 3) := by decide +kernel
theorem dX10_value_14 : decode cX10_value 14 = .ok (.iconst 1, 1) := by decide +kernel
theorem dX10_value_15 : decode cX10_value 15 = .ok (.goto 4, 3) := by decide +kernel
theorem dX10_value_18 : decode cX10_value 18 = .ok (.iconst 0, 1) := by decide +kernel
theorem dX10_value_19 : decode cX10_value 19 = .ok (.iconst 1, 1) := by decide +kernel
theorem dX10_value_20 : decode cX10_value 20 = .ok (.invokevirtual 125, 3) := by decide +kernel
theorem dX10_value_23 : decode cX10_value 23 = .ok (.ifCond .eq 5, 3) := by decide +kernel
theorem dX10_value_26 : decode cX10_value 26 = .ok (.iconst 0, 1) := by decide +kernel
theorem dX10_value_27 : decode cX10_value 27 = .ok (.ireturn, 1) := by decide +kernel
theorem dX10_value_28 : decode cX10_value 28 = .ok (.aload_n 0, 1) := by decide +kernel
theorem dX10_value_29 : decode cX10_value 29 = .ok (.iload_n 1, 1) := by decide +kernel
theorem dX10_value_30 : decode cX10_value 30 = .ok (.invokevirtual 204, 3) := by decide +kernel
theorem dX10_value_33 : decode cX10_value 33 = .ok (.iload_n 2, 1) := by decide +kernel
theorem dX10_value_34 : decode cX10_value 34 = .ok (.ifCond .lt 25, 3) := by decide +kernel
theorem dX10_value_37 : decode cX10_value 37 = .ok (.iload_n 2, 1) := by decide +kernel
theorem dX10_value_38 : decode cX10_value 38 = .ok (.sipush 300, 3) := by decide +kernel
theorem dX10_value_41 : decode cX10_value 41 = .ok (.if_icmp .ge 18, 3) := by decide +kernel
theorem dX10_value_44 : decode cX10_value 44 = .ok (.aload_n 0, 1) := by decide +kernel
theorem dX10_value_45 : decode cX10_value 45 = .ok (.getfield 19, 3) := by decide +kernel
theorem dX10_value_48 : decode cX10_value 48 = .ok (.sipush 300, 3) := by decide +kernel
theorem dX10_value_51 : decode cX10_value 51 = .ok (.iload_n 1, 1) := by decide +kernel
theorem dX10_value_52 : decode cX10_value 52 = .ok (.imul, 1) := by decide +kernel
theorem dX10_value_53 : decode cX10_value 53 = .ok (.iload_n 2, 1) := by decide +kernel
theorem dX10_value_54 : decode cX10_value 54 = .ok (.iadd, 1) := by decide +kernel
theorem dX10_value_55 : decode cX10_value 55 = .ok (.iaload, 1) := by decide +kernel
theorem dX10_value_56 : decode cX10_value 56 = .ok (.goto 5, 3) := by decide +kernel
theorem dX10_value_59 : decode cX10_value 59 = .ok (.ldc 113, 2) := by decide +kernel
theorem dX10_value_61 : decode cX10_value 61 = .ok (.ireturn, 1) := by decide +kernel
theorem dX10_firstIndex_0 : decode cX10_firstIndex 0 = .ok (.iload_n 0, 1) := by decide +kernel
theorem dX10_firstIndex_1 : decode cX10_firstIndex 1 = .ok (.tableswitch 72 0 7 #[47, 49, 52, 55, 58, 61, 64, 68], 47) := by decide +kernel
theorem dX10_firstIndex_48 : decode cX10_firstIndex 48 = .ok (.iconst 5, 1) := by decide +kernel
theorem dX10_firstIndex_49 : decode cX10_firstIndex 49 = .ok (.ireturn, 1) := by decide +kernel
theorem dX10_firstIndex_50 : decode cX10_firstIndex 50 = .ok (.bipush 10, 2) := by decide +kernel
theorem dX10_firstIndex_52 : decode cX10_firstIndex 52 = .ok (.ireturn, 1) := by decide +kernel
theorem dX10_firstIndex_53 : decode cX10_firstIndex 53 = .ok (.bipush 20, 2) := by decide +kernel
theorem dX10_firstIndex_55 : decode cX10_firstIndex 55 = .ok (.ireturn, 1) := by decide +kernel
theorem dX10_firstIndex_56 : decode cX10_firstIndex 56 = .ok (.bipush 40, 2) := by decide +kernel
theorem dX10_firstIndex_58 : decode cX10_firstIndex 58 = .ok (.ireturn, 1) := by decide +kernel
theorem dX10_firstIndex_59 : decode cX10_firstIndex 59 = .ok (.bipush 70, 2) := by decide +kernel
theorem dX10_firstIndex_61 : decode cX10_firstIndex 61 = .ok (.ireturn, 1) := by decide +kernel
theorem dX10_firstIndex_62 : decode cX10_firstIndex 62 = .ok (.bipush 120, 2) := by decide +kernel
theorem dX10_firstIndex_64 : decode cX10_firstIndex 64 = .ok (.ireturn, 1) := by decide +kernel
theorem dX10_firstIndex_65 : decode cX10_firstIndex 65 = .ok (.sipush 200, 3) := by decide +kernel
theorem dX10_firstIndex_68 : decode cX10_firstIndex 68 = .ok (.ireturn, 1) := by decide +kernel
theorem dX10_firstIndex_69 : decode cX10_firstIndex 69 = .ok (.sipush 330, 3) := by decide +kernel
theorem dX10_firstIndex_72 : decode cX10_firstIndex 72 = .ok (.ireturn, 1) := by decide +kernel
theorem dX10_firstIndex_73 : decode cX10_firstIndex 73 = .ok (.sipush 500, 3) := by decide +kernel
theorem dX10_firstIndex_76 : decode cX10_firstIndex 76 = .ok (.ireturn, 1) := by decide +kernel
theorem dX10_feed_0 : decode cX10_feed 0 = .ok (.aload_n 0, 1) := by decide +kernel
theorem dX10_feed_1 : decode cX10_feed 1 = .ok (.iconst 0, 1) := by decide +kernel
theorem dX10_feed_2 : decode cX10_feed 2 = .ok (.putfield 114, 3) := by decide +kernel
theorem dX10_feed_5 : decode cX10_feed 5 = .ok (.aload_n 0, 1) := by decide +kernel
theorem dX10_feed_6 : decode cX10_feed 6 = .ok (.getfield 207, 3) := by decide +kernel
theorem dX10_feed_9 : decode cX10_feed 9 = .ok (.bipush 20, 2) := by decide +kernel
theorem dX10_feed_11 : decode cX10_feed 11 = .ok (.iadd, 1) := by decide +kernel
theorem dX10_feed_12 : decode cX10_feed 12 = .ok (.sipush 300, 3) := by decide +kernel
theorem dX10_feed_15 : decode cX10_feed 15 = .ok (.if_icmp .le 5, 3) := by decide +kernel
theorem dX10_feed_18 : decode cX10_feed 18 = .ok (.iconst (-1), 1) := by decide +kernel
theorem dX10_feed_19 : decode cX10_feed 19 = .ok (.ireturn, 1) := by decide +kernel
theorem dX10_feed_20 : decode cX10_feed 20 = .ok (.iconst 0, 1) := by decide +kernel
theorem dX10_feed_21 : decode cX10_feed 21 = .ok (.istore 6, 2) := by decide +kernel
theorem dX10_feed_23 : decode cX10_feed 23 = .ok (.iload 6, 2) := by decide +kernel
theorem dX10_feed_25 : decode cX10_feed 25 = .ok (.iconst 5, 1) := by decide +kernel
theorem dX10_feed_26 : decode cX10_feed 26 = .ok (.if_icmp .ge 93, 3) := by decide +kernel
theorem dX10_feed_29 : decode cX10_feed 29 = .ok (.iload 6, 2) := by decide +kernel
theorem dX10_feed_31 : decode cX10_feed 31 = .ok (.ifCond .ne 7, 3) := by decide +kernel
theorem dX10_feed_34 : decode cX10_feed 34 = .ok (.iload_n 1, 1) := by decide +kernel
theorem dX10_feed_35 : decode cX10_feed 35 = .ok (.goto 36, 3) := by decide +kernel
theorem dX10_feed_38 : decode cX10_feed 38 = .ok (.iload 6, 2) := by decide +kernel
theorem dX10_feed_40 : decode cX10_feed 40 = .ok (.iconst 1, 1) := by decide +kernel
theorem dX10_feed_41 : decode cX10_feed 41 = .ok (.if_icmp .ne 7, 3) := by decide +kernel
theorem dX10_feed_44 : decode cX10_feed 44 = .ok (.iload_n 2, 1) := by decide +kernel
theorem dX10_feed_45 : decode cX10_feed 45 = .ok (.goto 26, 3) := by decide +kernel
theorem dX10_feed_48 : decode cX10_feed 48 = .ok (.iload 6, 2) := by decide +kernel
theorem dX10_feed_50 : decode cX10_feed 50 = .ok (.iconst 2, 1) := by decide +kernel
theorem dX10_feed_51 : decode cX10_feed 51 = .ok (.if_icmp .ne 7, 3) := by decide +kernel
theorem dX10_feed_54 : decode cX10_feed 54 = .ok (.iload_n 3, 1) := by decide +kernel
theorem dX10_feed_55 : decode cX10_feed 55 = .ok (.goto 16, 3) := by decide +kernel
theorem dX10_feed_58 : decode cX10_feed 58 = .ok (.iload 6, 2) := by decide +kernel
theorem dX10_feed_60 : decode cX10_feed 60 = .ok (.iconst 3, 1) := by decide +kernel
theorem dX10_feed_61 : decode cX10_feed 61 = .ok (.if_icmp .ne 8, 3) := by decide +kernel
theorem dX10_feed_64 : decode cX10_feed 64 = .ok (.iload 4, 2) := by decide +kernel
theorem dX10_feed_66 : decode cX10_feed 66 = .ok (.goto 5, 3) := by decide +kernel
theorem dX10_feed_69 : decode cX10_feed 69 = .ok (.iload 5, 2) := by decide +kernel
theorem dX10_feed_71 : decode cX10_feed 71 = .ok (.istore 7, 2) := by decide +kernel
theorem dX10_feed_73 : decode cX10_feed 73 = .ok (.bipush 24, 2) := by decide +kernel
theorem dX10_feed_75 : decode cX10_feed 75 = .ok (.istore 8, 2) := by decide +kernel
theorem dX10_feed_77 : decode cX10_feed 77 = .ok (.iload 8, 2) := by decide +kernel
theorem dX10_feed_79 : decode cX10_feed 79 = .ok (.ifCond .lt 34, 3) := by decide +kernel
theorem dX10_feed_82 : decode cX10_feed 82 = .ok (.aload_n 0, 1) := by decide +kernel
theorem dX10_feed_83 : decode cX10_feed 83 = .ok (.getfield 66, 3) := by decide +kernel
theorem dX10_feed_86 : decode cX10_feed 86 = .ok (.aload_n 0, 1) := by decide +kernel
theorem dX10_feed_87 : decode cX10_feed 87 = .ok (.getfield 207, 3) := by decide +kernel
theorem dX10_feed_90 : decode cX10_feed 90 = .ok (.iload 7, 2) := by decide +kernel
theorem dX10_feed_92 : decode cX10_feed 92 = .ok (.iload 8, 2) := by decide +kernel
theorem dX10_feed_94 : decode cX10_feed 94 = .ok (.ishr, 1) := by decide +kernel
theorem dX10_feed_95 : decode cX10_feed 95 = .ok (.i2b, 1) := by decide +kernel
theorem dX10_feed_96 : decode cX10_feed 96 = .ok (.bastore, 1) := by decide +kernel
theorem dX10_feed_97 : decode cX10_feed 97 = .ok (.aload_n 0, 1) := by decide +kernel
theorem dX10_feed_98 : decode cX10_feed 98 = .ok (.dup, 1) := by decide +kernel
theorem dX10_feed_99 : decode cX10_feed 99 = .ok (.getfield 207, 3) := by decide +kernel
theorem dX10_feed_102 : decode cX10_feed 102 = .ok (.iconst 1, 1) := by decide +kernel
theorem dX10_feed_103 : decode cX10_feed 103 = .ok (.iadd, 1) := by decide +kernel
theorem dX10_feed_104 : decode cX10_feed 104 = .ok (.putfield 207, 3) := by decide +kernel
theorem dX10_feed_107 : decode cX10_feed 107 = .ok (.iinc 8 (-8), 3) := by decide +kernel
theorem dX10_feed_110 : decode cX10_feed 110 = .ok (.goto (-33), 3) := by decide +kernel
theorem dX10_feed_113 : decode cX10_feed 113 = .ok (.iinc 6 1, 3) := by decide +kernel
theorem dX10_feed_116 : decode cX10_feed 116 = .ok (.goto (-93), 3) := by decide +kernel
theorem dX10_feed_119 : decode cX10_feed 119 = .ok (.aload_n 0, 1) := by decide +kernel
theorem dX10_feed_120 : decode cX10_feed 120 = .ok (.getfield 207, 3) := by decide +kernel
theorem dX10_feed_123 : decode cX10_feed 123 = .ok (.ireturn, 1) := by decide +kernel
theorem dX10_byteAt_0 : decode cX10_byteAt 0 = .ok (.iload_n 1, 1) := by decide +kernel
theorem dX10_byteAt_1 : decode cX10_byteAt 1 = .ok (.aload_n 0, 1) := by decide +kernel
theorem dX10_byteAt_2 : decode cX10_byteAt 2 = .ok (.getfield 210, 3) := by decide +kernel
theorem dX10_byteAt_5 : decode cX10_byteAt 5 = .ok (.if_icmp .ge 16, 3) := by decide +kernel
theorem dX10_byteAt_8 : decode cX10_byteAt 8 = .ok (.aload_n 0, 1) := by decide +kernel
theorem dX10_byteAt_9 : decode cX10_byteAt 9 = .ok (.getfield 66, 3) := by decide +kernel
theorem dX10_byteAt_12 : decode cX10_byteAt 12 = .ok (.iload_n 1, 1) := by decide +kernel
theorem dX10_byteAt_13 : decode cX10_byteAt 13 = .ok (.baload, 1) := by decide +kernel
theorem dX10_byteAt_14 : decode cX10_byteAt 14 = .ok (.sipush 255, 3) := by decide +kernel
theorem dX10_byteAt_17 : decode cX10_byteAt 17 = .ok (.iand, 1) := by decide +kernel
theorem dX10_byteAt_18 : decode cX10_byteAt 18 = .ok (.goto 4, 3) := by decide +kernel
theorem dX10_byteAt_21 : decode cX10_byteAt 21 = .ok (.iconst 0, 1) := by decide +kernel
theorem dX10_byteAt_22 : decode cX10_byteAt 22 = .ok (.ireturn, 1) := by decide +kernel
theorem dX10_blanks_0 : decode cX10_blanks 0 = .ok (.aload_n 0, 1) := by decide +kernel
theorem dX10_blanks_1 : decode cX10_blanks 1 = .ok (.getfield 213, 3) := by decide +kernel
theorem dX10_blanks_4 : decode cX10_blanks 4 = .ok (.aload_n 0, 1) := by decide +kernel
theorem dX10_blanks_5 : decode cX10_blanks 5 = .ok (.getfield 210, 3) := by decide +kernel
theorem dX10_blanks_8 : decode cX10_blanks 8 = .ok (.if_icmp .ge 29, 3) := by decide +kernel
theorem dX10_blanks_11 : decode cX10_blanks 11 = .ok (.aload_n 0, 1) := by decide +kernel
theorem dX10_blanks_12 : decode cX10_blanks 12 = .ok (.aload_n 0, 1) := by decide +kernel
theorem dX10_blanks_13 : decode cX10_blanks 13 = .ok (.getfield 213, 3) := by decide +kernel
theorem dX10_blanks_16 : decode cX10_blanks 16 = .ok (.invokevirtual 216, 3) := by decide +kernel
theorem dX10_blanks_19 : decode cX10_blanks 19 = .ok (.bipush 32, 2) := by decide +kernel
theorem dX10_blanks_21 : decode cX10_blanks 21 = .ok (.if_icmp .ne 16, 3) := by decide +kernel
theorem dX10_blanks_24 : decode cX10_blanks 24 = .ok (.aload_n 0, 1) := by decide +kernel
theorem dX10_blanks_25 : decode cX10_blanks 25 = .ok (.dup, 1) := by decide +kernel
theorem dX10_blanks_26 : decode cX10_blanks 26 = .ok (.getfield 213, 3) := by decide +kernel
theorem dX10_blanks_29 : decode cX10_blanks 29 = .ok (.iconst 1, 1) := by decide +kernel
theorem dX10_blanks_30 : decode cX10_blanks 30 = .ok (.iadd, 1) := by decide +kernel
theorem dX10_blanks_31 : decode cX10_blanks 31 = .ok (.putfield 213, 3) := by decide +kernel
theorem dX10_blanks_34 : decode cX10_blanks 34 = .ok (.goto (-34), 3) := by decide +kernel
theorem dX10_blanks_37 : decode cX10_blanks 37 = .ok (.return_, 1) := by decide +kernel
theorem dX10_isDigit_0 : decode cX10_isDigit 0 = .ok (.iload_n 0, 1) := by decide +kernel
theorem dX10_isDigit_1 : decode cX10_isDigit 1 = .ok (.bipush 48, 2) := by decide +kernel
theorem dX10_isDigit_3 : decode cX10_isDigit 3 = .ok (.if_icmp .lt 13, 3) := by decide +kernel
theorem dX10_isDigit_6 : decode cX10_isDigit 6 = .ok (.iload_n 0, 1) := by decide +kernel
theorem dX10_isDigit_7 : decode cX10_isDigit 7 = .ok (.bipush 57, 2) := by decide +kernel
theorem dX10_isDigit_9 : decode cX10_isDigit 9 = .ok (.if_icmp .gt 7, 3) := by decide +kernel
theorem dX10_isDigit_12 : decode cX10_isDigit 12 = .ok (.iconst 1, 1) := by decide +kernel
theorem dX10_isDigit_13 : decode cX10_isDigit 13 = .ok (.goto 4, 3) := by decide +kernel
theorem dX10_isDigit_16 : decode cX10_isDigit 16 = .ok (.iconst 0, 1) := by decide +kernel
theorem dX10_isDigit_17 : decode cX10_isDigit 17 = .ok (.ireturn, 1) := by decide +kernel
theorem dX10_wrong_0 : decode cX10_wrong 0 = .ok (.aload_n 0, 1) := by decide +kernel
theorem dX10_wrong_1 : decode cX10_wrong 1 = .ok (.getfield 219, 3) := by decide +kernel
theorem dX10_wrong_4 : decode cX10_wrong 4 = .ok (.ifCond .le 4, 3) := by decide +kernel
theorem dX10_wrong_7 : decode cX10_wrong 7 = .ok (.return_, 1) := by decide +kernel
theorem dX10_wrong_8 : decode cX10_wrong 8 = .ok (.aload_n 0, 1) := by decide +kernel
theorem dX10_wrong_9 : decode cX10_wrong 9 = .ok (.iload_n 1, 1) := by decide +kernel
theorem dX10_wrong_10 : decode cX10_wrong 10 = .ok (.putfield 219, 3) := by decide +kernel
theorem dX10_wrong_13 : decode cX10_wrong 13 = .ok (.aload_n 0, 1) := by decide +kernel
theorem dX10_wrong_14 : decode cX10_wrong 14 = .ok (.iload_n 2, 1) := by decide +kernel
theorem dX10_wrong_15 : decode cX10_wrong 15 = .ok (.putfield 70, 3) := by decide +kernel
theorem dX10_wrong_18 : decode cX10_wrong 18 = .ok (.return_, 1) := by decide +kernel
theorem dX10_isWord_0 : decode cX10_isWord 0 = .ok (.aload_n 0, 1) := by decide +kernel
theorem dX10_isWord_1 : decode cX10_isWord 1 = .ok (.invokevirtual 222, 3) := by decide +kernel
theorem dX10_isWord_4 : decode cX10_isWord 4 = .ok (.iconst 0, 1) := by decide +kernel
theorem dX10_isWord_5 : decode cX10_isWord 5 = .ok (.istore_n 2, 1) := by decide +kernel
theorem dX10_isWord_6 : decode cX10_isWord 6 = .ok (.iload_n 2, 1) := by decide +kernel
theorem dX10_isWord_7 : decode cX10_isWord 7 = .ok (.aload_n 1, 1) := by decide +kernel
theorem dX10_isWord_8 : decode cX10_isWord 8 = .ok (.invokevirtual 225, 3) := by decide +kernel
theorem dX10_isWord_11 : decode cX10_isWord 11 = .ok (.if_icmp .ge 29, 3) := by decide +kernel
theorem dX10_isWord_14 : decode cX10_isWord 14 = .ok (.aload_n 0, 1) := by decide +kernel
theorem dX10_isWord_15 : decode cX10_isWord 15 = .ok (.aload_n 0, 1) := by decide +kernel
theorem dX10_isWord_16 : decode cX10_isWord 16 = .ok (.getfield 213, 3) := by decide +kernel
theorem dX10_isWord_19 : decode cX10_isWord 19 = .ok (.iload_n 2, 1) := by decide +kernel
theorem dX10_isWord_20 : decode cX10_isWord 20 = .ok (.iadd, 1) := by decide +kernel
theorem dX10_isWord_21 : decode cX10_isWord 21 = .ok (.invokevirtual 216, 3) := by decide +kernel
theorem dX10_isWord_24 : decode cX10_isWord 24 = .ok (.aload_n 1, 1) := by decide +kernel
theorem dX10_isWord_25 : decode cX10_isWord 25 = .ok (.iload_n 2, 1) := by decide +kernel
theorem dX10_isWord_26 : decode cX10_isWord 26 = .ok (.invokevirtual 230, 3) := by decide +kernel
theorem dX10_isWord_29 : decode cX10_isWord 29 = .ok (.if_icmp .eq 5, 3) := by decide +kernel
theorem dX10_isWord_32 : decode cX10_isWord 32 = .ok (.iconst 0, 1) := by decide +kernel
theorem dX10_isWord_33 : decode cX10_isWord 33 = .ok (.ireturn, 1) := by decide +kernel
theorem dX10_isWord_34 : decode cX10_isWord 34 = .ok (.iinc 2 1, 3) := by decide +kernel
theorem dX10_isWord_37 : decode cX10_isWord 37 = .ok (.goto (-31), 3) := by decide +kernel
theorem dX10_isWord_40 : decode cX10_isWord 40 = .ok (.aload_n 0, 1) := by decide +kernel
theorem dX10_isWord_41 : decode cX10_isWord 41 = .ok (.aload_n 0, 1) := by decide +kernel
theorem dX10_isWord_42 : decode cX10_isWord 42 = .ok (.getfield 213, 3) := by decide +kernel
theorem dX10_isWord_45 : decode cX10_isWord 45 = .ok (.aload_n 1, 1) := by decide +kernel
theorem dX10_isWord_46 : decode cX10_isWord 46 = .ok (.invokevirtual 225, 3) := by decide +kernel
theorem dX10_isWord_49 : decode cX10_isWord 49 = .ok (.iadd, 1) := by decide +kernel
theorem dX10_isWord_50 : decode cX10_isWord 50 = .ok (.invokevirtual 216, 3) := by decide +kernel
theorem dX10_isWord_53 : decode cX10_isWord 53 = .ok (.istore_n 2, 1) := by decide +kernel
theorem dX10_isWord_54 : decode cX10_isWord 54 = .ok (.iload_n 2, 1) := by decide +kernel
theorem dX10_isWord_55 : decode cX10_isWord 55 = .ok (.bipush 97, 2) := by decide +kernel
theorem dX10_isWord_57 : decode cX10_isWord 57 = .ok (.if_icmp .lt 9, 3) := by decide +kernel
theorem dX10_isWord_60 : decode cX10_isWord 60 = .ok (.iload_n 2, 1) := by decide +kernel
theorem dX10_isWord_61 : decode cX10_isWord 61 = .ok (.bipush 122, 2) := by decide +kernel
theorem dX10_isWord_63 : decode cX10_isWord 63 = .ok (.if_icmp .le 7, 3) := by decide +kernel
theorem dX10_isWord_66 : decode cX10_isWord 66 = .ok (.iconst 1, 1) := by decide +kernel
theorem dX10_isWord_67 : decode cX10_isWord 67 = .ok (.goto 4, 3) := by decide +kernel
theorem dX10_isWord_70 : decode cX10_isWord 70 = .ok (.iconst 0, 1) := by decide +kernel
theorem dX10_isWord_71 : decode cX10_isWord 71 = .ok (.ireturn, 1) := by decide +kernel
theorem dX10_wordOf_0 : decode cX10_wordOf 0 = .ok (.iload_n 0, 1) := by decide +kernel
theorem dX10_wordOf_1 : decode cX10_wordOf 1 = .ok (.tableswitch 50 0 4 #[35, 38, 41, 44, 47], 35) := by decide +kernel
theorem dX10_wordOf_36 : decode cX10_wordOf 36 = .ok (.ldc 234, 2) := by decide +kernel
theorem dX10_wordOf_38 : decode cX10_wordOf 38 = .ok (.areturn, 1) := by decide +kernel
theorem dX10_wordOf_39 : decode cX10_wordOf 39 = .ok (.ldc 235, 2) := by decide +kernel
theorem dX10_wordOf_41 : decode cX10_wordOf 41 = .ok (.areturn, 1) := by decide +kernel
theorem dX10_wordOf_42 : decode cX10_wordOf 42 = .ok (.ldc 236, 2) := by decide +kernel
theorem dX10_wordOf_44 : decode cX10_wordOf 44 = .ok (.areturn, 1) := by decide +kernel
theorem dX10_wordOf_45 : decode cX10_wordOf 45 = .ok (.ldc 238, 2) := by decide +kernel
theorem dX10_wordOf_47 : decode cX10_wordOf 47 = .ok (.areturn, 1) := by decide +kernel
theorem dX10_wordOf_48 : decode cX10_wordOf 48 = .ok (.ldc 239, 2) := by decide +kernel
theorem dX10_wordOf_50 : decode cX10_wordOf 50 = .ok (.areturn, 1) := by decide +kernel
theorem dX10_wordOf_51 : decode cX10_wordOf 51 = .ok (.ldc 240, 2) := by decide +kernel
theorem dX10_wordOf_53 : decode cX10_wordOf 53 = .ok (.areturn, 1) := by decide +kernel
theorem dX10_wordHere_0 : decode cX10_wordHere 0 = .ok (.iconst 0, 1) := by decide +kernel
theorem dX10_wordHere_1 : decode cX10_wordHere 1 = .ok (.istore_n 1, 1) := by decide +kernel
theorem dX10_wordHere_2 : decode cX10_wordHere 2 = .ok (.iload_n 1, 1) := by decide +kernel
theorem dX10_wordHere_3 : decode cX10_wordHere 3 = .ok (.bipush 6, 2) := by decide +kernel
theorem dX10_wordHere_5 : decode cX10_wordHere 5 = .ok (.if_icmp .ge 22, 3) := by decide +kernel
theorem dX10_wordHere_8 : decode cX10_wordHere 8 = .ok (.aload_n 0, 1) := by decide +kernel
theorem dX10_wordHere_9 : decode cX10_wordHere 9 = .ok (.iload_n 1, 1) := by decide +kernel
theorem dX10_wordHere_10 : decode cX10_wordHere 10 = .ok (.invokestatic 241, 3) := by decide +kernel
theorem dX10_wordHere_13 : decode cX10_wordHere 13 = .ok (.invokevirtual 245, 3) := by decide +kernel
theorem dX10_wordHere_16 : decode cX10_wordHere 16 = .ok (.ifCond .eq 5, 3) := by decide +kernel
theorem dX10_wordHere_19 : decode cX10_wordHere 19 = .ok (.iload_n 1, 1) := by decide +kernel
theorem dX10_wordHere_20 : decode cX10_wordHere 20 = .ok (.ireturn, 1) := by decide +kernel
theorem dX10_wordHere_21 : decode cX10_wordHere 21 = .ok (.iinc 1 1, 3) := by decide +kernel
theorem dX10_wordHere_24 : decode cX10_wordHere 24 = .ok (.goto (-22), 3) := by decide +kernel
theorem dX10_wordHere_27 : decode cX10_wordHere 27 = .ok (.iconst (-1), 1) := by decide +kernel
theorem dX10_wordHere_28 : decode cX10_wordHere 28 = .ok (.ireturn, 1) := by decide +kernel
theorem dX10_number_0 : decode cX10_number 0 = .ok (.aload_n 0, 1) := by decide +kernel
theorem dX10_number_1 : decode cX10_number 1 = .ok (.getfield 219, 3) := by decide +kernel
theorem dX10_number_4 : decode cX10_number 4 = .ok (.ifCond .le 5, 3) := by decide +kernel
theorem dX10_number_7 : decode cX10_number 7 = .ok (.iconst 0, 1) := by decide +kernel
theorem dX10_number_8 : decode cX10_number 8 = .ok (.ireturn, 1) := by decide +kernel
theorem dX10_number_9 : decode cX10_number 9 = .ok (.aload_n 0, 1) := by decide +kernel
theorem dX10_number_10 : decode cX10_number 10 = .ok (.invokevirtual 222, 3) := by decide +kernel
theorem dX10_number_13 : decode cX10_number 13 = .ok (.aload_n 0, 1) := by decide +kernel
theorem dX10_number_14 : decode cX10_number 14 = .ok (.aload_n 0, 1) := by decide +kernel
theorem dX10_number_15 : decode cX10_number 15 = .ok (.getfield 213, 3) := by decide +kernel
theorem dX10_number_18 : decode cX10_number 18 = .ok (.putfield 249, 3) := by decide +kernel
theorem dX10_number_21 : decode cX10_number 21 = .ok (.aload_n 0, 1) := by decide +kernel
theorem dX10_number_22 : decode cX10_number 22 = .ok (.aload_n 0, 1) := by decide +kernel
theorem dX10_number_23 : decode cX10_number 23 = .ok (.getfield 213, 3) := by decide +kernel
theorem dX10_number_26 : decode cX10_number 26 = .ok (.invokevirtual 216, 3) := by decide +kernel
theorem dX10_number_29 : decode cX10_number 29 = .ok (.invokestatic 252, 3) := by decide +kernel
theorem dX10_number_32 : decode cX10_number 32 = .ok (.ifCond .ne 14, 3) := by decide +kernel
theorem dX10_number_35 : decode cX10_number 35 = .ok (.aload_n 0, 1) := by decide +kernel
theorem dX10_number_36 : decode cX10_number 36 = .ok (.iconst 1, 1) := by decide +kernel
theorem dX10_number_37 : decode cX10_number 37 = .ok (.aload_n 0, 1) := by decide +kernel
theorem dX10_number_38 : decode cX10_number 38 = .ok (.getfield 213, 3) := by decide +kernel
theorem dX10_number_41 : decode cX10_number 41 = .ok (.invokevirtual 255, 3) := by decide +kernel
theorem dX10_number_44 : decode cX10_number 44 = .ok (.iconst 0, 1) := by decide +kernel
theorem dX10_number_45 : decode cX10_number 45 = .ok (.ireturn, 1) := by decide +kernel
theorem dX10_number_46 : decode cX10_number 46 = .ok (.iconst 0, 1) := by decide +kernel
theorem dX10_number_47 : decode cX10_number 47 = .ok (.istore_n 3, 1) := by decide +kernel
theorem dX10_number_48 : decode cX10_number 48 = .ok (.aload_n 0, 1) := by decide +kernel
theorem dX10_number_49 : decode cX10_number 49 = .ok (.aload_n 0, 1) := by decide +kernel
theorem dX10_number_50 : decode cX10_number 50 = .ok (.getfield 213, 3) := by decide +kernel
theorem dX10_number_53 : decode cX10_number 53 = .ok (.invokevirtual 216, 3) := by decide +kernel
theorem dX10_number_56 : decode cX10_number 56 = .ok (.invokestatic 252, 3) := by decide +kernel
theorem dX10_number_59 : decode cX10_number 59 = .ok (.ifCond .eq 43, 3) := by decide +kernel
theorem dX10_number_62 : decode cX10_number 62 = .ok (.iload_n 3, 1) := by decide +kernel
theorem dX10_number_63 : decode cX10_number 63 = .ok (.ldc 153, 2) := by decide +kernel
theorem dX10_number_65 : decode cX10_number 65 = .ok (.if_icmp .le 7, 3) := by decide +kernel
theorem dX10_number_68 : decode cX10_number 68 = .ok (.iload_n 3, 1) := by decide +kernel
theorem dX10_number_69 : decode cX10_number 69 = .ok (.goto 19, 3) := by decide +kernel
theorem dX10_number_72 : decode cX10_number 72 = .ok (.bipush 10, 2) := by decide +kernel
theorem dX10_number_74 : decode cX10_number 74 = .ok (.iload_n 3, 1) := by decide +kernel
theorem dX10_number_75 : decode cX10_number 75 = .ok (.imul, 1) := by decide +kernel
theorem dX10_number_76 : decode cX10_number 76 = .ok (.aload_n 0, 1) := by decide +kernel
theorem dX10_number_77 : decode cX10_number 77 = .ok (.aload_n 0, 1) := by decide +kernel
theorem dX10_number_78 : decode cX10_number 78 = .ok (.getfield 213, 3) := by decide +kernel
theorem dX10_number_81 : decode cX10_number 81 = .ok (.invokevirtual 216, 3) := by decide +kernel
theorem dX10_number_84 : decode cX10_number 84 = .ok (.iadd, 1) := by decide +kernel
theorem dX10_number_85 : decode cX10_number 85 = .ok (.bipush 48, 2) := by decide +kernel
theorem dX10_number_87 : decode cX10_number 87 = .ok (.isub, 1) := by decide +kernel
theorem dX10_number_88 : decode cX10_number 88 = .ok (.istore_n 3, 1) := by decide +kernel
theorem dX10_number_89 : decode cX10_number 89 = .ok (.aload_n 0, 1) := by decide +kernel
theorem dX10_number_90 : decode cX10_number 90 = .ok (.dup, 1) := by decide +kernel
theorem dX10_number_91 : decode cX10_number 91 = .ok (.getfield 213, 3) := by decide +kernel
theorem dX10_number_94 : decode cX10_number 94 = .ok (.iconst 1, 1) := by decide +kernel
theorem dX10_number_95 : decode cX10_number 95 = .ok (.iadd, 1) := by decide +kernel
theorem dX10_number_96 : decode cX10_number 96 = .ok (.putfield 213, 3) := by decide +kernel
theorem dX10_number_99 : decode cX10_number 99 = .ok (.goto (-51), 3) := by decide +kernel
theorem dX10_number_102 : decode cX10_number 102 = .ok (.iload_n 3, 1) := by decide +kernel
theorem dX10_number_103 : decode cX10_number 103 = .ok (.iload_n 1, 1) := by decide +kernel
theorem dX10_number_104 : decode cX10_number 104 = .ok (.if_icmp .lt 8, 3) := by decide +kernel
theorem dX10_number_107 : decode cX10_number 107 = .ok (.iload_n 3, 1) := by decide +kernel
theorem dX10_number_108 : decode cX10_number 108 = .ok (.iload_n 2, 1) := by decide +kernel
theorem dX10_number_109 : decode cX10_number 109 = .ok (.if_icmp .le 12, 3) := by decide +kernel
theorem dX10_number_112 : decode cX10_number 112 = .ok (.aload_n 0, 1) := by decide +kernel
theorem dX10_number_113 : decode cX10_number 113 = .ok (.iconst 2, 1) := by decide +kernel
theorem dX10_number_114 : decode cX10_number 114 = .ok (.aload_n 0, 1) := by decide +kernel
theorem dX10_number_115 : decode cX10_number 115 = .ok (.getfield 249, 3) := by decide +kernel
theorem dX10_number_118 : decode cX10_number 118 = .ok (.invokevirtual 255, 3) := by decide +kernel
theorem dX10_number_121 : decode cX10_number 121 = .ok (.iload_n 3, 1) := by decide +kernel
theorem dX10_number_122 : decode cX10_number 122 = .ok (.ireturn, 1) := by decide +kernel
theorem dX10_clause_0 : decode cX10_clause 0 = .ok (.aload_n 0, 1) := by decide +kernel
theorem dX10_clause_1 : decode cX10_clause 1 = .ok (.invokevirtual 258, 3) := by decide +kernel
theorem dX10_clause_4 : decode cX10_clause 4 = .ok (.istore_n 1, 1) := by decide +kernel
theorem dX10_clause_5 : decode cX10_clause 5 = .ok (.iload_n 1, 1) := by decide +kernel
theorem dX10_clause_6 : decode cX10_clause 6 = .ok (.ifCond .ge 13, 3) := by decide +kernel
theorem dX10_clause_9 : decode cX10_clause 9 = .ok (.aload_n 0, 1) := by decide +kernel
theorem dX10_clause_10 : decode cX10_clause 10 = .ok (.iconst 1, 1) := by decide +kernel
theorem dX10_clause_11 : decode cX10_clause 11 = .ok (.aload_n 0, 1) := by decide +kernel
theorem dX10_clause_12 : decode cX10_clause 12 = .ok (.getfield 213, 3) := by decide +kernel
theorem dX10_clause_15 : decode cX10_clause 15 = .ok (.invokevirtual 255, 3) := by decide +kernel
theorem dX10_clause_18 : decode cX10_clause 18 = .ok (.return_, 1) := by decide +kernel
theorem dX10_clause_19 : decode cX10_clause 19 = .ok (.aload_n 0, 1) := by decide +kernel
theorem dX10_clause_20 : decode cX10_clause 20 = .ok (.dup, 1) := by decide +kernel
theorem dX10_clause_21 : decode cX10_clause 21 = .ok (.getfield 213, 3) := by decide +kernel
theorem dX10_clause_24 : decode cX10_clause 24 = .ok (.iload_n 1, 1) := by decide +kernel
theorem dX10_clause_25 : decode cX10_clause 25 = .ok (.invokestatic 241, 3) := by decide +kernel
theorem dX10_clause_28 : decode cX10_clause 28 = .ok (.invokevirtual 225, 3) := by decide +kernel
theorem dX10_clause_31 : decode cX10_clause 31 = .ok (.iadd, 1) := by decide +kernel
theorem dX10_clause_32 : decode cX10_clause 32 = .ok (.putfield 213, 3) := by decide +kernel
theorem dX10_clause_35 : decode cX10_clause 35 = .ok (.iload_n 1, 1) := by decide +kernel
theorem dX10_clause_36 : decode cX10_clause 36 = .ok (.ifCond .ne 18, 3) := by decide +kernel
theorem dX10_clause_39 : decode cX10_clause 39 = .ok (.aload_n 0, 1) := by decide +kernel
theorem dX10_clause_40 : decode cX10_clause 40 = .ok (.aload_n 0, 1) := by decide +kernel
theorem dX10_clause_41 : decode cX10_clause 41 = .ok (.iconst 0, 1) := by decide +kernel
theorem dX10_clause_42 : decode cX10_clause 42 = .ok (.sipush 10000, 3) := by decide +kernel
theorem dX10_clause_45 : decode cX10_clause 45 = .ok (.invokevirtual 261, 3) := by decide +kernel
theorem dX10_clause_48 : decode cX10_clause 48 = .ok (.putfield 264, 3) := by decide +kernel
theorem dX10_clause_51 : decode cX10_clause 51 = .ok (.goto 260, 3) := by decide +kernel
theorem dX10_clause_54 : decode cX10_clause 54 = .ok (.iload_n 1, 1) := by decide +kernel
theorem dX10_clause_55 : decode cX10_clause 55 = .ok (.iconst 1, 1) := by decide +kernel
theorem dX10_clause_56 : decode cX10_clause 56 = .ok (.if_icmp .ne 18, 3) := by decide +kernel
theorem dX10_clause_59 : decode cX10_clause 59 = .ok (.aload_n 0, 1) := by decide +kernel
theorem dX10_clause_60 : decode cX10_clause 60 = .ok (.aload_n 0, 1) := by decide +kernel
theorem dX10_clause_61 : decode cX10_clause 61 = .ok (.iconst 0, 1) := by decide +kernel
theorem dX10_clause_62 : decode cX10_clause 62 = .ok (.sipush 10000, 3) := by decide +kernel
theorem dX10_clause_65 : decode cX10_clause 65 = .ok (.invokevirtual 261, 3) := by decide +kernel
theorem dX10_clause_68 : decode cX10_clause 68 = .ok (.putfield 267, 3) := by decide +kernel
theorem dX10_clause_71 : decode cX10_clause 71 = .ok (.goto 240, 3) := by decide +kernel
theorem dX10_clause_74 : decode cX10_clause 74 = .ok (.iload_n 1, 1) := by decide +kernel
theorem dX10_clause_75 : decode cX10_clause 75 = .ok (.iconst 2, 1) := by decide +kernel
theorem dX10_clause_76 : decode cX10_clause 76 = .ok (.if_icmp .ne 81, 3) := by decide +kernel
theorem dX10_clause_79 : decode cX10_clause 79 = .ok (.aload_n 0, 1) := by decide +kernel
theorem dX10_clause_80 : decode cX10_clause 80 = .ok (.aload_n 0, 1) := by decide +kernel
theorem dX10_clause_81 : decode cX10_clause 81 = .ok (.iconst 0, 1) := by decide +kernel
theorem dX10_clause_82 : decode cX10_clause 82 = .ok (.sipush 10000, 3) := by decide +kernel
theorem dX10_clause_85 : decode cX10_clause 85 = .ok (.invokevirtual 261, 3) := by decide +kernel
theorem dX10_clause_88 : decode cX10_clause 88 = .ok (.putfield 270, 3) := by decide +kernel
theorem dX10_clause_91 : decode cX10_clause 91 = .ok (.aload_n 0, 1) := by decide +kernel
theorem dX10_clause_92 : decode cX10_clause 92 = .ok (.getfield 219, 3) := by decide +kernel
theorem dX10_clause_95 : decode cX10_clause 95 = .ok (.ifCond .ne 22, 3) := by decide +kernel
theorem dX10_clause_98 : decode cX10_clause 98 = .ok (.aload_n 0, 1) := by decide +kernel
theorem dX10_clause_99 : decode cX10_clause 99 = .ok (.ldc_w 273, 3) := by decide +kernel
theorem dX10_clause_102 : decode cX10_clause 102 = .ok (.invokevirtual 245, 3) := by decide +kernel
theorem dX10_clause_105 : decode cX10_clause 105 = .ok (.ifCond .ne 12, 3) := by decide +kernel
theorem dX10_clause_108 : decode cX10_clause 108 = .ok (.aload_n 0, 1) := by decide +kernel
theorem dX10_clause_109 : decode cX10_clause 109 = .ok (.iconst 1, 1) := by decide +kernel
theorem dX10_clause_110 : decode cX10_clause 110 = .ok (.aload_n 0, 1) := by decide +kernel
theorem dX10_clause_111 : decode cX10_clause 111 = .ok (.getfield 213, 3) := by decide +kernel
theorem dX10_clause_114 : decode cX10_clause 114 = .ok (.invokevirtual 255, 3) := by decide +kernel
theorem dX10_clause_117 : decode cX10_clause 117 = .ok (.aload_n 0, 1) := by decide +kernel
theorem dX10_clause_118 : decode cX10_clause 118 = .ok (.dup, 1) := by decide +kernel
theorem dX10_clause_119 : decode cX10_clause 119 = .ok (.getfield 213, 3) := by decide +kernel
theorem dX10_clause_122 : decode cX10_clause 122 = .ok (.iconst 2, 1) := by decide +kernel
theorem dX10_clause_123 : decode cX10_clause 123 = .ok (.iadd, 1) := by decide +kernel
theorem dX10_clause_124 : decode cX10_clause 124 = .ok (.putfield 213, 3) := by decide +kernel
theorem dX10_clause_127 : decode cX10_clause 127 = .ok (.aload_n 0, 1) := by decide +kernel
theorem dX10_clause_128 : decode cX10_clause 128 = .ok (.aload_n 0, 1) := by decide +kernel
theorem dX10_clause_129 : decode cX10_clause 129 = .ok (.aload_n 0, 1) := by decide +kernel
theorem dX10_clause_130 : decode cX10_clause 130 = .ok (.getfield 270, 3) := by decide +kernel
theorem dX10_clause_133 : decode cX10_clause 133 = .ok (.iconst 1, 1) := by decide +kernel
theorem dX10_clause_134 : decode cX10_clause 134 = .ok (.if_icmp .ge 7, 3) := by decide +kernel
theorem dX10_clause_137 : decode cX10_clause 137 = .ok (.iconst 1, 1) := by decide +kernel
theorem dX10_clause_138 : decode cX10_clause 138 = .ok (.goto 7, 3) := by decide +kernel
theorem dX10_clause_141 : decode cX10_clause 141 = .ok (.aload_n 0, 1) := by decide +kernel
theorem dX10_clause_142 : decode cX10_clause 142 = .ok (.getfield 270, 3) := by decide +kernel
theorem dX10_clause_145 : decode cX10_clause 145 = .ok (.sipush 10000, 3) := by decide +kernel
theorem dX10_clause_148 : decode cX10_clause 148 = .ok (.invokevirtual 261, 3) := by decide +kernel
theorem dX10_clause_151 : decode cX10_clause 151 = .ok (.putfield 275, 3) := by decide +kernel
theorem dX10_clause_154 : decode cX10_clause 154 = .ok (.goto 157, 3) := by decide +kernel
theorem dX10_clause_157 : decode cX10_clause 157 = .ok (.iload_n 1, 1) := by decide +kernel
theorem dX10_clause_158 : decode cX10_clause 158 = .ok (.iconst 3, 1) := by decide +kernel
theorem dX10_clause_159 : decode cX10_clause 159 = .ok (.if_icmp .ne 17, 3) := by decide +kernel
theorem dX10_clause_162 : decode cX10_clause 162 = .ok (.aload_n 0, 1) := by decide +kernel
theorem dX10_clause_163 : decode cX10_clause 163 = .ok (.aload_n 0, 1) := by decide +kernel
theorem dX10_clause_164 : decode cX10_clause 164 = .ok (.iconst 2, 1) := by decide +kernel
theorem dX10_clause_165 : decode cX10_clause 165 = .ok (.bipush 60, 2) := by decide +kernel
theorem dX10_clause_167 : decode cX10_clause 167 = .ok (.invokevirtual 261, 3) := by decide +kernel
theorem dX10_clause_170 : decode cX10_clause 170 = .ok (.putfield 278, 3) := by decide +kernel
theorem dX10_clause_173 : decode cX10_clause 173 = .ok (.goto 138, 3) := by decide +kernel
theorem dX10_clause_176 : decode cX10_clause 176 = .ok (.iload_n 1, 1) := by decide +kernel
theorem dX10_clause_177 : decode cX10_clause 177 = .ok (.iconst 4, 1) := by decide +kernel
theorem dX10_clause_178 : decode cX10_clause 178 = .ok (.if_icmp .ne 18, 3) := by decide +kernel
theorem dX10_clause_181 : decode cX10_clause 181 = .ok (.aload_n 0, 1) := by decide +kernel
theorem dX10_clause_182 : decode cX10_clause 182 = .ok (.aload_n 0, 1) := by decide +kernel
theorem dX10_clause_183 : decode cX10_clause 183 = .ok (.iconst 0, 1) := by decide +kernel
theorem dX10_clause_184 : decode cX10_clause 184 = .ok (.sipush 10000, 3) := by decide +kernel
theorem dX10_clause_187 : decode cX10_clause 187 = .ok (.invokevirtual 261, 3) := by decide +kernel
theorem dX10_clause_190 : decode cX10_clause 190 = .ok (.putfield 281, 3) := by decide +kernel
theorem dX10_clause_193 : decode cX10_clause 193 = .ok (.goto 118, 3) := by decide +kernel
theorem dX10_clause_196 : decode cX10_clause 196 = .ok (.aload_n 0, 1) := by decide +kernel
theorem dX10_clause_197 : decode cX10_clause 197 = .ok (.iconst 0, 1) := by decide +kernel
theorem dX10_clause_198 : decode cX10_clause 198 = .ok (.putfield 284, 3) := by decide +kernel
theorem dX10_clause_201 : decode cX10_clause 201 = .ok (.iconst 1, 1) := by decide +kernel
theorem dX10_clause_202 : decode cX10_clause 202 = .ok (.istore_n 2, 1) := by decide +kernel
theorem dX10_clause_203 : decode cX10_clause 203 = .ok (.iload_n 2, 1) := by decide +kernel
theorem dX10_clause_204 : decode cX10_clause 204 = .ok (.ifCond .eq 107, 3) := by decide +kernel
theorem dX10_clause_207 : decode cX10_clause 207 = .ok (.aload_n 0, 1) := by decide +kernel
theorem dX10_clause_208 : decode cX10_clause 208 = .ok (.aload_n 0, 1) := by decide +kernel
theorem dX10_clause_209 : decode cX10_clause 209 = .ok (.getfield 284, 3) := by decide +kernel
theorem dX10_clause_212 : decode cX10_clause 212 = .ok (.ifCond .ne 7, 3) := by decide +kernel
theorem dX10_clause_215 : decode cX10_clause 215 = .ok (.iconst 0, 1) := by decide +kernel
theorem dX10_clause_216 : decode cX10_clause 216 = .ok (.goto 16, 3) := by decide +kernel
theorem dX10_clause_219 : decode cX10_clause 219 = .ok (.aload_n 0, 1) := by decide +kernel
theorem dX10_clause_220 : decode cX10_clause 220 = .ok (.getfield 97, 3) := by decide +kernel
theorem dX10_clause_223 : decode cX10_clause 223 = .ok (.aload_n 0, 1) := by decide +kernel
theorem dX10_clause_224 : decode cX10_clause 224 = .ok (.getfield 284, 3) := by decide +kernel
theorem dX10_clause_227 : decode cX10_clause 227 = .ok (.iconst 1, 1) := by decide +kernel
theorem dX10_clause_228 : decode cX10_clause 228 = .ok (.isub, 1) := by decide +kernel
theorem dX10_clause_229 : decode cX10_clause 229 = .ok (.iaload, 1) := by decide +kernel
theorem dX10_clause_230 : decode cX10_clause 230 = .ok (.iconst 1, 1) := by decide +kernel
theorem dX10_clause_231 : decode cX10_clause 231 = .ok (.iadd, 1) := by decide +kernel
theorem dX10_clause_232 : decode cX10_clause 232 = .ok (.sipush 10000, 3) := by decide +kernel
theorem dX10_clause_235 : decode cX10_clause 235 = .ok (.invokevirtual 261, 3) := by decide +kernel
theorem dX10_clause_238 : decode cX10_clause 238 = .ok (.istore_n 3, 1) := by decide +kernel
theorem dX10_clause_239 : decode cX10_clause 239 = .ok (.aload_n 0, 1) := by decide +kernel
theorem dX10_clause_240 : decode cX10_clause 240 = .ok (.getfield 219, 3) := by decide +kernel
theorem dX10_clause_243 : decode cX10_clause 243 = .ok (.ifCond .ne 21, 3) := by decide +kernel
theorem dX10_clause_246 : decode cX10_clause 246 = .ok (.aload_n 0, 1) := by decide +kernel
theorem dX10_clause_247 : decode cX10_clause 247 = .ok (.getfield 284, 3) := by decide +kernel
theorem dX10_clause_250 : decode cX10_clause 250 = .ok (.bipush 9, 2) := by decide +kernel
theorem dX10_clause_252 : decode cX10_clause 252 = .ok (.if_icmp .ne 12, 3) := by decide +kernel
theorem dX10_clause_255 : decode cX10_clause 255 = .ok (.aload_n 0, 1) := by decide +kernel
theorem dX10_clause_256 : decode cX10_clause 256 = .ok (.iconst 3, 1) := by decide +kernel
theorem dX10_clause_257 : decode cX10_clause 257 = .ok (.aload_n 0, 1) := by decide +kernel
theorem dX10_clause_258 : decode cX10_clause 258 = .ok (.getfield 249, 3) := by decide +kernel
theorem dX10_clause_261 : decode cX10_clause 261 = .ok (.invokevirtual 255, 3) := by decide +kernel
theorem dX10_clause_264 : decode cX10_clause 264 = .ok (.aload_n 0, 1) := by decide +kernel
theorem dX10_clause_265 : decode cX10_clause 265 = .ok (.getfield 219, 3) := by decide +kernel
theorem dX10_clause_268 : decode cX10_clause 268 = .ok (.ifCond .le 4, 3) := by decide +kernel
theorem dX10_clause_271 : decode cX10_clause 271 = .ok (.return_, 1) := by decide +kernel
theorem dX10_clause_272 : decode cX10_clause 272 = .ok (.aload_n 0, 1) := by decide +kernel
theorem dX10_clause_273 : decode cX10_clause 273 = .ok (.getfield 97, 3) := by decide +kernel
theorem dX10_clause_276 : decode cX10_clause 276 = .ok (.aload_n 0, 1) := by decide +kernel
theorem dX10_clause_277 : decode cX10_clause 277 = .ok (.getfield 284, 3) := by decide +kernel
theorem dX10_clause_280 : decode cX10_clause 280 = .ok (.iload_n 3, 1) := by decide +kernel
theorem dX10_clause_281 : decode cX10_clause 281 = .ok (.iastore, 1) := by decide +kernel
theorem dX10_clause_282 : decode cX10_clause 282 = .ok (.aload_n 0, 1) := by decide +kernel
theorem dX10_clause_283 : decode cX10_clause 283 = .ok (.dup, 1) := by decide +kernel
theorem dX10_clause_284 : decode cX10_clause 284 = .ok (.getfield 284, 3) := by decide +kernel
theorem dX10_clause_287 : decode cX10_clause 287 = .ok (.iconst 1, 1) := by decide +kernel
theorem dX10_clause_288 : decode cX10_clause 288 = .ok (.iadd, 1) := by decide +kernel
theorem dX10_clause_289 : decode cX10_clause 289 = .ok (.putfield 284, 3) := by decide +kernel
theorem dX10_clause_292 : decode cX10_clause 292 = .ok (.aload_n 0, 1) := by decide +kernel
theorem dX10_clause_293 : decode cX10_clause 293 = .ok (.invokevirtual 222, 3) := by decide +kernel
theorem dX10_clause_296 : decode cX10_clause 296 = .ok (.aload_n 0, 1) := by decide +kernel
theorem dX10_clause_297 : decode cX10_clause 297 = .ok (.aload_n 0, 1) := by decide +kernel
theorem dX10_clause_298 : decode cX10_clause 298 = .ok (.getfield 213, 3) := by decide +kernel
theorem dX10_clause_301 : decode cX10_clause 301 = .ok (.invokevirtual 216, 3) := by decide +kernel
theorem dX10_clause_304 : decode cX10_clause 304 = .ok (.invokestatic 252, 3) := by decide +kernel
theorem dX10_clause_307 : decode cX10_clause 307 = .ok (.istore_n 2, 1) := by decide +kernel
theorem dX10_clause_308 : decode cX10_clause 308 = .ok (.goto (-105), 3) := by decide +kernel
theorem dX10_clause_311 : decode cX10_clause 311 = .ok (.aload_n 0, 1) := by decide +kernel
theorem dX10_clause_312 : decode cX10_clause 312 = .ok (.getfield 219, 3) := by decide +kernel
theorem dX10_clause_315 : decode cX10_clause 315 = .ok (.ifCond .le 4, 3) := by decide +kernel
theorem dX10_clause_318 : decode cX10_clause 318 = .ok (.return_, 1) := by decide +kernel
theorem dX10_clause_319 : decode cX10_clause 319 = .ok (.aload_n 0, 1) := by decide +kernel
theorem dX10_clause_320 : decode cX10_clause 320 = .ok (.invokevirtual 222, 3) := by decide +kernel
theorem dX10_clause_323 : decode cX10_clause 323 = .ok (.aload_n 0, 1) := by decide +kernel
theorem dX10_clause_324 : decode cX10_clause 324 = .ok (.getfield 213, 3) := by decide +kernel
theorem dX10_clause_327 : decode cX10_clause 327 = .ok (.aload_n 0, 1) := by decide +kernel
theorem dX10_clause_328 : decode cX10_clause 328 = .ok (.getfield 210, 3) := by decide +kernel
theorem dX10_clause_331 : decode cX10_clause 331 = .ok (.if_icmp .ge 29, 3) := by decide +kernel
theorem dX10_clause_334 : decode cX10_clause 334 = .ok (.aload_n 0, 1) := by decide +kernel
theorem dX10_clause_335 : decode cX10_clause 335 = .ok (.aload_n 0, 1) := by decide +kernel
theorem dX10_clause_336 : decode cX10_clause 336 = .ok (.getfield 213, 3) := by decide +kernel
theorem dX10_clause_339 : decode cX10_clause 339 = .ok (.invokevirtual 216, 3) := by decide +kernel
theorem dX10_clause_342 : decode cX10_clause 342 = .ok (.bipush 59, 2) := by decide +kernel
theorem dX10_clause_344 : decode cX10_clause 344 = .ok (.if_icmp .ne 16, 3) := by decide +kernel
theorem dX10_clause_347 : decode cX10_clause 347 = .ok (.aload_n 0, 1) := by decide +kernel
theorem dX10_clause_348 : decode cX10_clause 348 = .ok (.dup, 1) := by decide +kernel
theorem dX10_clause_349 : decode cX10_clause 349 = .ok (.getfield 213, 3) := by decide +kernel
theorem dX10_clause_352 : decode cX10_clause 352 = .ok (.iconst 1, 1) := by decide +kernel
theorem dX10_clause_353 : decode cX10_clause 353 = .ok (.iadd, 1) := by decide +kernel
theorem dX10_clause_354 : decode cX10_clause 354 = .ok (.putfield 213, 3) := by decide +kernel
theorem dX10_clause_357 : decode cX10_clause 357 = .ok (.goto 12, 3) := by decide +kernel
theorem dX10_clause_360 : decode cX10_clause 360 = .ok (.aload_n 0, 1) := by decide +kernel
theorem dX10_clause_361 : decode cX10_clause 361 = .ok (.iconst 1, 1) := by decide +kernel
theorem dX10_clause_362 : decode cX10_clause 362 = .ok (.aload_n 0, 1) := by decide +kernel
theorem dX10_clause_363 : decode cX10_clause 363 = .ok (.getfield 213, 3) := by decide +kernel
theorem dX10_clause_366 : decode cX10_clause 366 = .ok (.invokevirtual 255, 3) := by decide +kernel
theorem dX10_clause_369 : decode cX10_clause 369 = .ok (.return_, 1) := by decide +kernel
theorem dX10_rule_0 : decode cX10_rule 0 = .ok (.aload_n 0, 1) := by decide +kernel
theorem dX10_rule_1 : decode cX10_rule 1 = .ok (.iconst 0, 1) := by decide +kernel
theorem dX10_rule_2 : decode cX10_rule 2 = .ok (.putfield 114, 3) := by decide +kernel
theorem dX10_rule_5 : decode cX10_rule 5 = .ok (.aload_n 0, 1) := by decide +kernel
theorem dX10_rule_6 : decode cX10_rule 6 = .ok (.iload_n 1, 1) := by decide +kernel
theorem dX10_rule_7 : decode cX10_rule 7 = .ok (.ifCond .lt 11, 3) := by decide +kernel
theorem dX10_rule_10 : decode cX10_rule 10 = .ok (.iload_n 1, 1) := by decide +kernel
theorem dX10_rule_11 : decode cX10_rule 11 = .ok (.aload_n 0, 1) := by decide +kernel
theorem dX10_rule_12 : decode cX10_rule 12 = .ok (.getfield 207, 3) := by decide +kernel
theorem dX10_rule_15 : decode cX10_rule 15 = .ok (.if_icmp .le 7, 3) := by decide +kernel
theorem dX10_rule_18 : decode cX10_rule 18 = .ok (.iconst 1, 1) := by decide +kernel
theorem dX10_rule_19 : decode cX10_rule 19 = .ok (.goto 4, 3) := by decide +kernel
theorem dX10_rule_22 : decode cX10_rule 22 = .ok (.iconst 0, 1) := by decide +kernel
theorem dX10_rule_23 : decode cX10_rule 23 = .ok (.iconst 1, 1) := by decide +kernel
theorem dX10_rule_24 : decode cX10_rule 24 = .ok (.invokevirtual 125, 3) := by decide +kernel
theorem dX10_rule_27 : decode cX10_rule 27 = .ok (.ifCond .eq 5, 3) := by decide +kernel
theorem dX10_rule_30 : decode cX10_rule 30 = .ok (.iconst 0, 1) := by decide +kernel
theorem dX10_rule_31 : decode cX10_rule 31 = .ok (.ireturn, 1) := by decide +kernel
theorem dX10_rule_32 : decode cX10_rule 32 = .ok (.aload_n 0, 1) := by decide +kernel
theorem dX10_rule_33 : decode cX10_rule 33 = .ok (.iload_n 1, 1) := by decide +kernel
theorem dX10_rule_34 : decode cX10_rule 34 = .ok (.putfield 210, 3) := by decide +kernel
theorem dX10_rule_37 : decode cX10_rule 37 = .ok (.aload_n 0, 1) := by decide +kernel
theorem dX10_rule_38 : decode cX10_rule 38 = .ok (.iconst 0, 1) := by decide +kernel
theorem dX10_rule_39 : decode cX10_rule 39 = .ok (.putfield 207, 3) := by decide +kernel
theorem dX10_rule_42 : decode cX10_rule 42 = .ok (.aload_n 0, 1) := by decide +kernel
theorem dX10_rule_43 : decode cX10_rule 43 = .ok (.iconst 0, 1) := by decide +kernel
theorem dX10_rule_44 : decode cX10_rule 44 = .ok (.putfield 213, 3) := by decide +kernel
theorem dX10_rule_47 : decode cX10_rule 47 = .ok (.aload_n 0, 1) := by decide +kernel
theorem dX10_rule_48 : decode cX10_rule 48 = .ok (.iconst 0, 1) := by decide +kernel
theorem dX10_rule_49 : decode cX10_rule 49 = .ok (.putfield 219, 3) := by decide +kernel
theorem dX10_rule_52 : decode cX10_rule 52 = .ok (.aload_n 0, 1) := by decide +kernel
theorem dX10_rule_53 : decode cX10_rule 53 = .ok (.iconst (-1), 1) := by decide +kernel
theorem dX10_rule_54 : decode cX10_rule 54 = .ok (.putfield 70, 3) := by decide +kernel
theorem dX10_rule_57 : decode cX10_rule 57 = .ok (.aload_n 0, 1) := by decide +kernel
theorem dX10_rule_58 : decode cX10_rule 58 = .ok (.bipush 50, 2) := by decide +kernel
theorem dX10_rule_60 : decode cX10_rule 60 = .ok (.putfield 264, 3) := by decide +kernel
theorem dX10_rule_63 : decode cX10_rule 63 = .ok (.aload_n 0, 1) := by decide +kernel
theorem dX10_rule_64 : decode cX10_rule 64 = .ok (.iconst 5, 1) := by decide +kernel
theorem dX10_rule_65 : decode cX10_rule 65 = .ok (.putfield 267, 3) := by decide +kernel
theorem dX10_rule_68 : decode cX10_rule 68 = .ok (.aload_n 0, 1) := by decide +kernel
theorem dX10_rule_69 : decode cX10_rule 69 = .ok (.iconst 1, 1) := by decide +kernel
theorem dX10_rule_70 : decode cX10_rule 70 = .ok (.putfield 270, 3) := by decide +kernel
theorem dX10_rule_73 : decode cX10_rule 73 = .ok (.aload_n 0, 1) := by decide +kernel
theorem dX10_rule_74 : decode cX10_rule 74 = .ok (.iconst 2, 1) := by decide +kernel
theorem dX10_rule_75 : decode cX10_rule 75 = .ok (.putfield 275, 3) := by decide +kernel
theorem dX10_rule_78 : decode cX10_rule 78 = .ok (.aload_n 0, 1) := by decide +kernel
theorem dX10_rule_79 : decode cX10_rule 79 = .ok (.bipush 10, 2) := by decide +kernel
theorem dX10_rule_81 : decode cX10_rule 81 = .ok (.putfield 278, 3) := by decide +kernel
theorem dX10_rule_84 : decode cX10_rule 84 = .ok (.aload_n 0, 1) := by decide +kernel
theorem dX10_rule_85 : decode cX10_rule 85 = .ok (.iconst 5, 1) := by decide +kernel
theorem dX10_rule_86 : decode cX10_rule 86 = .ok (.putfield 281, 3) := by decide +kernel
theorem dX10_rule_89 : decode cX10_rule 89 = .ok (.aload_n 0, 1) := by decide +kernel
theorem dX10_rule_90 : decode cX10_rule 90 = .ok (.bipush 9, 2) := by decide +kernel
theorem dX10_rule_92 : decode cX10_rule 92 = .ok (.putfield 284, 3) := by decide +kernel
theorem dX10_rule_95 : decode cX10_rule 95 = .ok (.iconst 0, 1) := by decide +kernel
theorem dX10_rule_96 : decode cX10_rule 96 = .ok (.istore_n 2, 1) := by decide +kernel
theorem dX10_rule_97 : decode cX10_rule 97 = .ok (.iload_n 2, 1) := by decide +kernel
theorem dX10_rule_98 : decode cX10_rule 98 = .ok (.bipush 9, 2) := by decide +kernel
theorem dX10_rule_100 : decode cX10_rule 100 = .ok (.if_icmp .ge 19, 3) := by decide +kernel
theorem dX10_rule_103 : decode cX10_rule 103 = .ok (.aload_n 0, 1) := by decide +kernel
theorem dX10_rule_104 : decode cX10_rule 104 = .ok (.getfield 97, 3) := by decide +kernel
theorem dX10_rule_107 : decode cX10_rule 107 = .ok (.iload_n 2, 1) := by decide +kernel
theorem dX10_rule_108 : decode cX10_rule 108 = .ok (.iload_n 2, 1) := by decide +kernel
theorem dX10_rule_109 : decode cX10_rule 109 = .ok (.invokestatic 109, 3) := by decide +kernel
theorem dX10_rule_112 : decode cX10_rule 112 = .ok (.iastore, 1) := by decide +kernel
theorem dX10_rule_113 : decode cX10_rule 113 = .ok (.iinc 2 1, 3) := by decide +kernel
theorem dX10_rule_116 : decode cX10_rule 116 = .ok (.goto (-19), 3) := by decide +kernel
theorem dX10_rule_119 : decode cX10_rule 119 = .ok (.iconst 0, 1) := by decide +kernel
theorem dX10_rule_120 : decode cX10_rule 120 = .ok (.istore_n 2, 1) := by decide +kernel
theorem dX10_rule_121 : decode cX10_rule 121 = .ok (.aload_n 0, 1) := by decide +kernel
theorem dX10_rule_122 : decode cX10_rule 122 = .ok (.invokevirtual 222, 3) := by decide +kernel
theorem dX10_rule_125 : decode cX10_rule 125 = .ok (.aload_n 0, 1) := by decide +kernel
theorem dX10_rule_126 : decode cX10_rule 126 = .ok (.getfield 219, 3) := by decide +kernel
theorem dX10_rule_129 : decode cX10_rule 129 = .ok (.ifCond .ne 57, 3) := by decide +kernel
theorem dX10_rule_132 : decode cX10_rule 132 = .ok (.aload_n 0, 1) := by decide +kernel
theorem dX10_rule_133 : decode cX10_rule 133 = .ok (.getfield 213, 3) := by decide +kernel
theorem dX10_rule_136 : decode cX10_rule 136 = .ok (.aload_n 0, 1) := by decide +kernel
theorem dX10_rule_137 : decode cX10_rule 137 = .ok (.getfield 210, 3) := by decide +kernel
theorem dX10_rule_140 : decode cX10_rule 140 = .ok (.if_icmp .ge 46, 3) := by decide +kernel
theorem dX10_rule_143 : decode cX10_rule 143 = .ok (.iload_n 2, 1) := by decide +kernel
theorem dX10_rule_144 : decode cX10_rule 144 = .ok (.bipush 12, 2) := by decide +kernel
theorem dX10_rule_146 : decode cX10_rule 146 = .ok (.if_icmp .ne 26, 3) := by decide +kernel
theorem dX10_rule_149 : decode cX10_rule 149 = .ok (.aload_n 0, 1) := by decide +kernel
theorem dX10_rule_150 : decode cX10_rule 150 = .ok (.aload_n 0, 1) := by decide +kernel
theorem dX10_rule_151 : decode cX10_rule 151 = .ok (.invokevirtual 258, 3) := by decide +kernel
theorem dX10_rule_154 : decode cX10_rule 154 = .ok (.ifCond .lt 7, 3) := by decide +kernel
theorem dX10_rule_157 : decode cX10_rule 157 = .ok (.iconst 3, 1) := by decide +kernel
theorem dX10_rule_158 : decode cX10_rule 158 = .ok (.goto 4, 3) := by decide +kernel
theorem dX10_rule_161 : decode cX10_rule 161 = .ok (.iconst 1, 1) := by decide +kernel
theorem dX10_rule_162 : decode cX10_rule 162 = .ok (.aload_n 0, 1) := by decide +kernel
theorem dX10_rule_163 : decode cX10_rule 163 = .ok (.getfield 213, 3) := by decide +kernel
theorem dX10_rule_166 : decode cX10_rule 166 = .ok (.invokevirtual 255, 3) := by decide +kernel
theorem dX10_rule_169 : decode cX10_rule 169 = .ok (.goto (-44), 3) := by decide +kernel
theorem dX10_rule_172 : decode cX10_rule 172 = .ok (.aload_n 0, 1) := by decide +kernel
theorem dX10_rule_173 : decode cX10_rule 173 = .ok (.invokevirtual 287, 3) := by decide +kernel
theorem dX10_rule_176 : decode cX10_rule 176 = .ok (.iinc 2 1, 3) := by decide +kernel
theorem dX10_rule_179 : decode cX10_rule 179 = .ok (.aload_n 0, 1) := by decide +kernel
theorem dX10_rule_180 : decode cX10_rule 180 = .ok (.invokevirtual 222, 3) := by decide +kernel
theorem dX10_rule_183 : decode cX10_rule 183 = .ok (.goto (-58), 3) := by decide +kernel
theorem dX10_rule_186 : decode cX10_rule 186 = .ok (.aload_n 0, 1) := by decide +kernel
theorem dX10_rule_187 : decode cX10_rule 187 = .ok (.getfield 219, 3) := by decide +kernel
theorem dX10_rule_190 : decode cX10_rule 190 = .ok (.ifCond .le 11, 3) := by decide +kernel
theorem dX10_rule_193 : decode cX10_rule 193 = .ok (.aload_n 0, 1) := by decide +kernel
theorem dX10_rule_194 : decode cX10_rule 194 = .ok (.getfield 219, 3) := by decide +kernel
theorem dX10_rule_197 : decode cX10_rule 197 = .ok (.bipush 10, 2) := by decide +kernel
theorem dX10_rule_199 : decode cX10_rule 199 = .ok (.isub, 1) := by decide +kernel
theorem dX10_rule_200 : decode cX10_rule 200 = .ok (.ireturn, 1) := by decide +kernel
theorem dX10_rule_201 : decode cX10_rule 201 = .ok (.aload_n 0, 1) := by decide +kernel
theorem dX10_rule_202 : decode cX10_rule 202 = .ok (.iload_n 2, 1) := by decide +kernel
theorem dX10_rule_203 : decode cX10_rule 203 = .ok (.putfield 290, 3) := by decide +kernel
theorem dX10_rule_206 : decode cX10_rule 206 = .ok (.aload_n 0, 1) := by decide +kernel
theorem dX10_rule_207 : decode cX10_rule 207 = .ok (.aload_n 0, 1) := by decide +kernel
theorem dX10_rule_208 : decode cX10_rule 208 = .ok (.getfield 264, 3) := by decide +kernel
theorem dX10_rule_211 : decode cX10_rule 211 = .ok (.putfield 73, 3) := by decide +kernel
theorem dX10_rule_214 : decode cX10_rule 214 = .ok (.aload_n 0, 1) := by decide +kernel
theorem dX10_rule_215 : decode cX10_rule 215 = .ok (.aload_n 0, 1) := by decide +kernel
theorem dX10_rule_216 : decode cX10_rule 216 = .ok (.getfield 267, 3) := by decide +kernel
theorem dX10_rule_219 : decode cX10_rule 219 = .ok (.putfield 76, 3) := by decide +kernel
theorem dX10_rule_222 : decode cX10_rule 222 = .ok (.aload_n 0, 1) := by decide +kernel
theorem dX10_rule_223 : decode cX10_rule 223 = .ok (.aload_n 0, 1) := by decide +kernel
theorem dX10_rule_224 : decode cX10_rule 224 = .ok (.getfield 270, 3) := by decide +kernel
theorem dX10_rule_227 : decode cX10_rule 227 = .ok (.putfield 79, 3) := by decide +kernel
theorem dX10_rule_230 : decode cX10_rule 230 = .ok (.aload_n 0, 1) := by decide +kernel
theorem dX10_rule_231 : decode cX10_rule 231 = .ok (.aload_n 0, 1) := by decide +kernel
theorem dX10_rule_232 : decode cX10_rule 232 = .ok (.getfield 275, 3) := by decide +kernel
theorem dX10_rule_235 : decode cX10_rule 235 = .ok (.putfield 82, 3) := by decide +kernel
theorem dX10_rule_238 : decode cX10_rule 238 = .ok (.aload_n 0, 1) := by decide +kernel
theorem dX10_rule_239 : decode cX10_rule 239 = .ok (.aload_n 0, 1) := by decide +kernel
theorem dX10_rule_240 : decode cX10_rule 240 = .ok (.getfield 278, 3) := by decide +kernel
theorem dX10_rule_243 : decode cX10_rule 243 = .ok (.putfield 85, 3) := by decide +kernel
theorem dX10_rule_246 : decode cX10_rule 246 = .ok (.aload_n 0, 1) := by decide +kernel
theorem dX10_rule_247 : decode cX10_rule 247 = .ok (.aload_n 0, 1) := by decide +kernel
theorem dX10_rule_248 : decode cX10_rule 248 = .ok (.getfield 281, 3) := by decide +kernel
theorem dX10_rule_251 : decode cX10_rule 251 = .ok (.putfield 88, 3) := by decide +kernel
theorem dX10_rule_254 : decode cX10_rule 254 = .ok (.aload_n 0, 1) := by decide +kernel
theorem dX10_rule_255 : decode cX10_rule 255 = .ok (.aload_n 0, 1) := by decide +kernel
theorem dX10_rule_256 : decode cX10_rule 256 = .ok (.getfield 284, 3) := by decide +kernel
theorem dX10_rule_259 : decode cX10_rule 259 = .ok (.putfield 91, 3) := by decide +kernel
theorem dX10_rule_262 : decode cX10_rule 262 = .ok (.iconst 0, 1) := by decide +kernel
theorem dX10_rule_263 : decode cX10_rule 263 = .ok (.istore_n 3, 1) := by decide +kernel
theorem dX10_rule_264 : decode cX10_rule 264 = .ok (.iload_n 3, 1) := by decide +kernel
theorem dX10_rule_265 : decode cX10_rule 265 = .ok (.bipush 9, 2) := by decide +kernel
theorem dX10_rule_267 : decode cX10_rule 267 = .ok (.if_icmp .ge 21, 3) := by decide +kernel
theorem dX10_rule_270 : decode cX10_rule 270 = .ok (.aload_n 0, 1) := by decide +kernel
theorem dX10_rule_271 : decode cX10_rule 271 = .ok (.getfield 94, 3) := by decide +kernel
theorem dX10_rule_274 : decode cX10_rule 274 = .ok (.iload_n 3, 1) := by decide +kernel
theorem dX10_rule_275 : decode cX10_rule 275 = .ok (.aload_n 0, 1) := by decide +kernel
theorem dX10_rule_276 : decode cX10_rule 276 = .ok (.getfield 97, 3) := by decide +kernel
theorem dX10_rule_279 : decode cX10_rule 279 = .ok (.iload_n 3, 1) := by decide +kernel
theorem dX10_rule_280 : decode cX10_rule 280 = .ok (.iaload, 1) := by decide +kernel
theorem dX10_rule_281 : decode cX10_rule 281 = .ok (.iastore, 1) := by decide +kernel
theorem dX10_rule_282 : decode cX10_rule 282 = .ok (.iinc 3 1, 3) := by decide +kernel
theorem dX10_rule_285 : decode cX10_rule 285 = .ok (.goto (-21), 3) := by decide +kernel
theorem dX10_rule_288 : decode cX10_rule 288 = .ok (.iload_n 2, 1) := by decide +kernel
theorem dX10_rule_289 : decode cX10_rule 289 = .ok (.ireturn, 1) := by decide +kernel
theorem dX10_fault_0 : decode cX10_fault 0 = .ok (.aload_n 0, 1) := by decide +kernel
theorem dX10_fault_1 : decode cX10_fault 1 = .ok (.iconst 0, 1) := by decide +kernel
theorem dX10_fault_2 : decode cX10_fault 2 = .ok (.putfield 114, 3) := by decide +kernel
theorem dX10_fault_5 : decode cX10_fault 5 = .ok (.aload_n 0, 1) := by decide +kernel
theorem dX10_fault_6 : decode cX10_fault 6 = .ok (.getfield 70, 3) := by decide +kernel
theorem dX10_fault_9 : decode cX10_fault 9 = .ok (.ireturn, 1) := by decide +kernel
theorem dX10_train_0 : decode cX10_train 0 = .ok (.aload_n 0, 1) := by decide +kernel
theorem dX10_train_1 : decode cX10_train 1 = .ok (.iconst 0, 1) := by decide +kernel
theorem dX10_train_2 : decode cX10_train 2 = .ok (.putfield 114, 3) := by decide +kernel
theorem dX10_train_5 : decode cX10_train 5 = .ok (.aload_n 0, 1) := by decide +kernel
theorem dX10_train_6 : decode cX10_train 6 = .ok (.iload_n 1, 1) := by decide +kernel
theorem dX10_train_7 : decode cX10_train 7 = .ok (.ifCond .lt 22, 3) := by decide +kernel
theorem dX10_train_10 : decode cX10_train 10 = .ok (.iload_n 1, 1) := by decide +kernel
theorem dX10_train_11 : decode cX10_train 11 = .ok (.sipush 300, 3) := by decide +kernel
theorem dX10_train_14 : decode cX10_train 14 = .ok (.if_icmp .ge 15, 3) := by decide +kernel
theorem dX10_train_17 : decode cX10_train 17 = .ok (.iload_n 2, 1) := by decide +kernel
theorem dX10_train_18 : decode cX10_train 18 = .ok (.iconst 1, 1) := by decide +kernel
theorem dX10_train_19 : decode cX10_train 19 = .ok (.if_icmp .lt 10, 3) := by decide +kernel
theorem dX10_train_22 : decode cX10_train 22 = .ok (.iload_n 2, 1) := by decide +kernel
theorem dX10_train_23 : decode cX10_train 23 = .ok (.sipush 300, 3) := by decide +kernel
theorem dX10_train_26 : decode cX10_train 26 = .ok (.if_icmp .le 7, 3) := by decide +kernel
theorem dX10_train_29 : decode cX10_train 29 = .ok (.iconst 1, 1) := by decide +kernel
theorem dX10_train_30 : decode cX10_train 30 = .ok (.goto 4, 3) := by decide +kernel
theorem dX10_train_33 : decode cX10_train 33 = .ok (.iconst 0, 1) := by decide +kernel
theorem dX10_train_34 : decode cX10_train 34 = .ok (.iconst 1, 1) := by decide +kernel
theorem dX10_train_35 : decode cX10_train 35 = .ok (.invokevirtual 125, 3) := by decide +kernel
theorem dX10_train_38 : decode cX10_train 38 = .ok (.ifCond .eq 5, 3) := by decide +kernel
theorem dX10_train_41 : decode cX10_train 41 = .ok (.iconst 0, 1) := by decide +kernel
theorem dX10_train_42 : decode cX10_train 42 = .ok (.ireturn, 1) := by decide +kernel
theorem dX10_train_43 : decode cX10_train 43 = .ok (.aload_n 0, 1) := by decide +kernel
theorem dX10_train_44 : decode cX10_train 44 = .ok (.getfield 293, 3) := by decide +kernel
theorem dX10_train_47 : decode cX10_train 47 = .ok (.bipush 10, 2) := by decide +kernel
theorem dX10_train_49 : decode cX10_train 49 = .ok (.if_icmp .ne 5, 3) := by decide +kernel
theorem dX10_train_52 : decode cX10_train 52 = .ok (.iconst (-1), 1) := by decide +kernel
theorem dX10_train_53 : decode cX10_train 53 = .ok (.ireturn, 1) := by decide +kernel
theorem dX10_train_54 : decode cX10_train 54 = .ok (.aload_n 0, 1) := by decide +kernel
theorem dX10_train_55 : decode cX10_train 55 = .ok (.getfield 100, 3) := by decide +kernel
theorem dX10_train_58 : decode cX10_train 58 = .ok (.aload_n 0, 1) := by decide +kernel
theorem dX10_train_59 : decode cX10_train 59 = .ok (.getfield 293, 3) := by decide +kernel
theorem dX10_train_62 : decode cX10_train 62 = .ok (.iload_n 1, 1) := by decide +kernel
theorem dX10_train_63 : decode cX10_train 63 = .ok (.iastore, 1) := by decide +kernel
theorem dX10_train_64 : decode cX10_train 64 = .ok (.aload_n 0, 1) := by decide +kernel
theorem dX10_train_65 : decode cX10_train 65 = .ok (.getfield 103, 3) := by decide +kernel
theorem dX10_train_68 : decode cX10_train 68 = .ok (.aload_n 0, 1) := by decide +kernel
theorem dX10_train_69 : decode cX10_train 69 = .ok (.getfield 293, 3) := by decide +kernel
theorem dX10_train_72 : decode cX10_train 72 = .ok (.iload_n 1, 1) := by decide +kernel
theorem dX10_train_73 : decode cX10_train 73 = .ok (.iload_n 2, 1) := by decide +kernel
theorem dX10_train_74 : decode cX10_train 74 = .ok (.iadd, 1) := by decide +kernel
theorem dX10_train_75 : decode cX10_train 75 = .ok (.iastore, 1) := by decide +kernel
theorem dX10_train_76 : decode cX10_train 76 = .ok (.aload_n 0, 1) := by decide +kernel
theorem dX10_train_77 : decode cX10_train 77 = .ok (.dup, 1) := by decide +kernel
theorem dX10_train_78 : decode cX10_train 78 = .ok (.getfield 293, 3) := by decide +kernel
theorem dX10_train_81 : decode cX10_train 81 = .ok (.iconst 1, 1) := by decide +kernel
theorem dX10_train_82 : decode cX10_train 82 = .ok (.iadd, 1) := by decide +kernel
theorem dX10_train_83 : decode cX10_train 83 = .ok (.putfield 293, 3) := by decide +kernel
theorem dX10_train_86 : decode cX10_train 86 = .ok (.aload_n 0, 1) := by decide +kernel
theorem dX10_train_87 : decode cX10_train 87 = .ok (.getfield 293, 3) := by decide +kernel
theorem dX10_train_90 : decode cX10_train 90 = .ok (.iconst 1, 1) := by decide +kernel
theorem dX10_train_91 : decode cX10_train 91 = .ok (.isub, 1) := by decide +kernel
theorem dX10_train_92 : decode cX10_train 92 = .ok (.ireturn, 1) := by decide +kernel
theorem dX10_isTrain_0 : decode cX10_isTrain 0 = .ok (.iconst 0, 1) := by decide +kernel
theorem dX10_isTrain_1 : decode cX10_isTrain 1 = .ok (.istore_n 2, 1) := by decide +kernel
theorem dX10_isTrain_2 : decode cX10_isTrain 2 = .ok (.iload_n 2, 1) := by decide +kernel
theorem dX10_isTrain_3 : decode cX10_isTrain 3 = .ok (.aload_n 0, 1) := by decide +kernel
theorem dX10_isTrain_4 : decode cX10_isTrain 4 = .ok (.getfield 293, 3) := by decide +kernel
theorem dX10_isTrain_7 : decode cX10_isTrain 7 = .ok (.if_icmp .ge 31, 3) := by decide +kernel
theorem dX10_isTrain_10 : decode cX10_isTrain 10 = .ok (.aload_n 0, 1) := by decide +kernel
theorem dX10_isTrain_11 : decode cX10_isTrain 11 = .ok (.getfield 100, 3) := by decide +kernel
theorem dX10_isTrain_14 : decode cX10_isTrain 14 = .ok (.iload_n 2, 1) := by decide +kernel
theorem dX10_isTrain_15 : decode cX10_isTrain 15 = .ok (.iaload, 1) := by decide +kernel
theorem dX10_isTrain_16 : decode cX10_isTrain 16 = .ok (.iload_n 1, 1) := by decide +kernel
theorem dX10_isTrain_17 : decode cX10_isTrain 17 = .ok (.if_icmp .gt 15, 3) := by decide +kernel
theorem dX10_isTrain_20 : decode cX10_isTrain 20 = .ok (.iload_n 1, 1) := by decide +kernel
theorem dX10_isTrain_21 : decode cX10_isTrain 21 = .ok (.aload_n 0, 1) := by decide +kernel
theorem dX10_isTrain_22 : decode cX10_isTrain 22 = .ok (.getfield 103, 3) := by decide +kernel
theorem dX10_isTrain_25 : decode cX10_isTrain 25 = .ok (.iload_n 2, 1) := by decide +kernel
theorem dX10_isTrain_26 : decode cX10_isTrain 26 = .ok (.iaload, 1) := by decide +kernel
theorem dX10_isTrain_27 : decode cX10_isTrain 27 = .ok (.if_icmp .ge 5, 3) := by decide +kernel
theorem dX10_isTrain_30 : decode cX10_isTrain 30 = .ok (.iconst 1, 1) := by decide +kernel
theorem dX10_isTrain_31 : decode cX10_isTrain 31 = .ok (.ireturn, 1) := by decide +kernel
theorem dX10_isTrain_32 : decode cX10_isTrain 32 = .ok (.iinc 2 1, 3) := by decide +kernel
theorem dX10_isTrain_35 : decode cX10_isTrain 35 = .ok (.goto (-33), 3) := by decide +kernel
theorem dX10_isTrain_38 : decode cX10_isTrain 38 = .ok (.iconst 0, 1) := by decide +kernel
theorem dX10_isTrain_39 : decode cX10_isTrain 39 = .ok (.ireturn, 1) := by decide +kernel
theorem dX10_timesMany_0 : decode cX10_timesMany 0 = .ok (.iconst 0, 1) := by decide +kernel
theorem dX10_timesMany_1 : decode cX10_timesMany 1 = .ok (.istore_n 1, 1) := by decide +kernel
theorem dX10_timesMany_2 : decode cX10_timesMany 2 = .ok (.iconst 0, 1) := by decide +kernel
theorem dX10_timesMany_3 : decode cX10_timesMany 3 = .ok (.istore_n 2, 1) := by decide +kernel
theorem dX10_timesMany_4 : decode cX10_timesMany 4 = .ok (.iload_n 2, 1) := by decide +kernel
theorem dX10_timesMany_5 : decode cX10_timesMany 5 = .ok (.bipush 6, 2) := by decide +kernel
theorem dX10_timesMany_7 : decode cX10_timesMany 7 = .ok (.if_icmp .ge 30, 3) := by decide +kernel
theorem dX10_timesMany_10 : decode cX10_timesMany 10 = .ok (.aload_n 0, 1) := by decide +kernel
theorem dX10_timesMany_11 : decode cX10_timesMany 11 = .ok (.getfield 13, 3) := by decide +kernel
theorem dX10_timesMany_14 : decode cX10_timesMany 14 = .ok (.iload_n 2, 1) := by decide +kernel
theorem dX10_timesMany_15 : decode cX10_timesMany 15 = .ok (.iaload, 1) := by decide +kernel
theorem dX10_timesMany_16 : decode cX10_timesMany 16 = .ok (.iload_n 1, 1) := by decide +kernel
theorem dX10_timesMany_17 : decode cX10_timesMany 17 = .ok (.if_icmp .le 12, 3) := by decide +kernel
theorem dX10_timesMany_20 : decode cX10_timesMany 20 = .ok (.aload_n 0, 1) := by decide +kernel
theorem dX10_timesMany_21 : decode cX10_timesMany 21 = .ok (.getfield 13, 3) := by decide +kernel
theorem dX10_timesMany_24 : decode cX10_timesMany 24 = .ok (.iload_n 2, 1) := by decide +kernel
theorem dX10_timesMany_25 : decode cX10_timesMany 25 = .ok (.iaload, 1) := by decide +kernel
theorem dX10_timesMany_26 : decode cX10_timesMany 26 = .ok (.goto 4, 3) := by decide +kernel
theorem dX10_timesMany_29 : decode cX10_timesMany 29 = .ok (.iload_n 1, 1) := by decide +kernel
theorem dX10_timesMany_30 : decode cX10_timesMany 30 = .ok (.istore_n 1, 1) := by decide +kernel
theorem dX10_timesMany_31 : decode cX10_timesMany 31 = .ok (.iinc 2 1, 3) := by decide +kernel
theorem dX10_timesMany_34 : decode cX10_timesMany 34 = .ok (.goto (-30), 3) := by decide +kernel
theorem dX10_timesMany_37 : decode cX10_timesMany 37 = .ok (.iload_n 1, 1) := by decide +kernel
theorem dX10_timesMany_38 : decode cX10_timesMany 38 = .ok (.ireturn, 1) := by decide +kernel
theorem dX10_rangeOf_0 : decode cX10_rangeOf 0 = .ok (.iconst 0, 1) := by decide +kernel
theorem dX10_rangeOf_1 : decode cX10_rangeOf 1 = .ok (.istore_n 3, 1) := by decide +kernel
theorem dX10_rangeOf_2 : decode cX10_rangeOf 2 = .ok (.iconst 0, 1) := by decide +kernel
theorem dX10_rangeOf_3 : decode cX10_rangeOf 3 = .ok (.istore 4, 2) := by decide +kernel
theorem dX10_rangeOf_5 : decode cX10_rangeOf 5 = .ok (.iconst 0, 1) := by decide +kernel
theorem dX10_rangeOf_6 : decode cX10_rangeOf 6 = .ok (.istore 5, 2) := by decide +kernel
theorem dX10_rangeOf_8 : decode cX10_rangeOf 8 = .ok (.iload_n 2, 1) := by decide +kernel
theorem dX10_rangeOf_9 : decode cX10_rangeOf 9 = .ok (.aload_n 0, 1) := by decide +kernel
theorem dX10_rangeOf_10 : decode cX10_rangeOf 10 = .ok (.getfield 85, 3) := by decide +kernel
theorem dX10_rangeOf_13 : decode cX10_rangeOf 13 = .ok (.imul, 1) := by decide +kernel
theorem dX10_rangeOf_14 : decode cX10_rangeOf 14 = .ok (.istore 6, 2) := by decide +kernel
theorem dX10_rangeOf_16 : decode cX10_rangeOf 16 = .ok (.iload 6, 2) := by decide +kernel
theorem dX10_rangeOf_18 : decode cX10_rangeOf 18 = .ok (.iload_n 2, 1) := by decide +kernel
theorem dX10_rangeOf_19 : decode cX10_rangeOf 19 = .ok (.iconst 1, 1) := by decide +kernel
theorem dX10_rangeOf_20 : decode cX10_rangeOf 20 = .ok (.iadd, 1) := by decide +kernel
theorem dX10_rangeOf_21 : decode cX10_rangeOf 21 = .ok (.aload_n 0, 1) := by decide +kernel
theorem dX10_rangeOf_22 : decode cX10_rangeOf 22 = .ok (.getfield 85, 3) := by decide +kernel
theorem dX10_rangeOf_25 : decode cX10_rangeOf 25 = .ok (.imul, 1) := by decide +kernel
theorem dX10_rangeOf_26 : decode cX10_rangeOf 26 = .ok (.if_icmp .ge 86, 3) := by decide +kernel
theorem dX10_rangeOf_29 : decode cX10_rangeOf 29 = .ok (.aload_n 0, 1) := by decide +kernel
theorem dX10_rangeOf_30 : decode cX10_rangeOf 30 = .ok (.getfield 19, 3) := by decide +kernel
theorem dX10_rangeOf_33 : decode cX10_rangeOf 33 = .ok (.sipush 300, 3) := by decide +kernel
theorem dX10_rangeOf_36 : decode cX10_rangeOf 36 = .ok (.iload_n 1, 1) := by decide +kernel
theorem dX10_rangeOf_37 : decode cX10_rangeOf 37 = .ok (.imul, 1) := by decide +kernel
theorem dX10_rangeOf_38 : decode cX10_rangeOf 38 = .ok (.iload 6, 2) := by decide +kernel
theorem dX10_rangeOf_40 : decode cX10_rangeOf 40 = .ok (.iadd, 1) := by decide +kernel
theorem dX10_rangeOf_41 : decode cX10_rangeOf 41 = .ok (.iaload, 1) := by decide +kernel
theorem dX10_rangeOf_42 : decode cX10_rangeOf 42 = .ok (.istore 7, 2) := by decide +kernel
theorem dX10_rangeOf_44 : decode cX10_rangeOf 44 = .ok (.iload 7, 2) := by decide +kernel
theorem dX10_rangeOf_46 : decode cX10_rangeOf 46 = .ok (.ldc 113, 2) := by decide +kernel
theorem dX10_rangeOf_48 : decode cX10_rangeOf 48 = .ok (.if_icmp .eq 58, 3) := by decide +kernel
theorem dX10_rangeOf_51 : decode cX10_rangeOf 51 = .ok (.aload_n 0, 1) := by decide +kernel
theorem dX10_rangeOf_52 : decode cX10_rangeOf 52 = .ok (.iload 6, 2) := by decide +kernel
theorem dX10_rangeOf_54 : decode cX10_rangeOf 54 = .ok (.invokevirtual 296, 3) := by decide +kernel
theorem dX10_rangeOf_57 : decode cX10_rangeOf 57 = .ok (.ifCond .eq 6, 3) := by decide +kernel
theorem dX10_rangeOf_60 : decode cX10_rangeOf 60 = .ok (.goto 46, 3) := by decide +kernel
theorem dX10_rangeOf_63 : decode cX10_rangeOf 63 = .ok (.iload_n 3, 1) := by decide +kernel
theorem dX10_rangeOf_64 : decode cX10_rangeOf 64 = .ok (.ifCond .eq 10, 3) := by decide +kernel
theorem dX10_rangeOf_67 : decode cX10_rangeOf 67 = .ok (.iload 7, 2) := by decide +kernel
theorem dX10_rangeOf_69 : decode cX10_rangeOf 69 = .ok (.iload 4, 2) := by decide +kernel
theorem dX10_rangeOf_71 : decode cX10_rangeOf 71 = .ok (.if_icmp .ge 8, 3) := by decide +kernel
theorem dX10_rangeOf_74 : decode cX10_rangeOf 74 = .ok (.iload 7, 2) := by decide +kernel
theorem dX10_rangeOf_76 : decode cX10_rangeOf 76 = .ok (.goto 5, 3) := by decide +kernel
theorem dX10_rangeOf_79 : decode cX10_rangeOf 79 = .ok (.iload 4, 2) := by decide +kernel
theorem dX10_rangeOf_81 : decode cX10_rangeOf 81 = .ok (.istore 4, 2) := by decide +kernel
theorem dX10_rangeOf_83 : decode cX10_rangeOf 83 = .ok (.iload_n 3, 1) := by decide +kernel
theorem dX10_rangeOf_84 : decode cX10_rangeOf 84 = .ok (.ifCond .eq 10, 3) := by decide +kernel
theorem dX10_rangeOf_87 : decode cX10_rangeOf 87 = .ok (.iload 7, 2) := by decide +kernel
theorem dX10_rangeOf_89 : decode cX10_rangeOf 89 = .ok (.iload 5, 2) := by decide +kernel
theorem dX10_rangeOf_91 : decode cX10_rangeOf 91 = .ok (.if_icmp .le 8, 3) := by decide +kernel
theorem dX10_rangeOf_94 : decode cX10_rangeOf 94 = .ok (.iload 7, 2) := by decide +kernel
theorem dX10_rangeOf_96 : decode cX10_rangeOf 96 = .ok (.goto 5, 3) := by decide +kernel
theorem dX10_rangeOf_99 : decode cX10_rangeOf 99 = .ok (.iload 5, 2) := by decide +kernel
theorem dX10_rangeOf_101 : decode cX10_rangeOf 101 = .ok (.istore 5, 2) := by decide +kernel
theorem dX10_rangeOf_103 : decode cX10_rangeOf 103 = .ok (.iinc 3 1, 3) := by decide +kernel
theorem dX10_rangeOf_106 : decode cX10_rangeOf 106 = .ok (.iinc 6 1, 3) := by decide +kernel
theorem dX10_rangeOf_109 : decode cX10_rangeOf 109 = .ok (.goto (-93), 3) := by decide +kernel
theorem dX10_rangeOf_112 : decode cX10_rangeOf 112 = .ok (.iload_n 3, 1) := by decide +kernel
theorem dX10_rangeOf_113 : decode cX10_rangeOf 113 = .ok (.ifCond .eq 21, 3) := by decide +kernel
theorem dX10_rangeOf_116 : decode cX10_rangeOf 116 = .ok (.iload_n 3, 1) := by decide +kernel
theorem dX10_rangeOf_117 : decode cX10_rangeOf 117 = .ok (.aload_n 0, 1) := by decide +kernel
theorem dX10_rangeOf_118 : decode cX10_rangeOf 118 = .ok (.getfield 82, 3) := by decide +kernel
theorem dX10_rangeOf_121 : decode cX10_rangeOf 121 = .ok (.imul, 1) := by decide +kernel
theorem dX10_rangeOf_122 : decode cX10_rangeOf 122 = .ok (.aload_n 0, 1) := by decide +kernel
theorem dX10_rangeOf_123 : decode cX10_rangeOf 123 = .ok (.getfield 85, 3) := by decide +kernel
theorem dX10_rangeOf_126 : decode cX10_rangeOf 126 = .ok (.aload_n 0, 1) := by decide +kernel
theorem dX10_rangeOf_127 : decode cX10_rangeOf 127 = .ok (.getfield 79, 3) := by decide +kernel
theorem dX10_rangeOf_130 : decode cX10_rangeOf 130 = .ok (.imul, 1) := by decide +kernel
theorem dX10_rangeOf_131 : decode cX10_rangeOf 131 = .ok (.if_icmp .ge 7, 3) := by decide +kernel
theorem dX10_rangeOf_134 : decode cX10_rangeOf 134 = .ok (.iconst (-1), 1) := by decide +kernel
theorem dX10_rangeOf_135 : decode cX10_rangeOf 135 = .ok (.goto 8, 3) := by decide +kernel
theorem dX10_rangeOf_138 : decode cX10_rangeOf 138 = .ok (.iload 5, 2) := by decide +kernel
theorem dX10_rangeOf_140 : decode cX10_rangeOf 140 = .ok (.iload 4, 2) := by decide +kernel
theorem dX10_rangeOf_142 : decode cX10_rangeOf 142 = .ok (.isub, 1) := by decide +kernel
theorem dX10_rangeOf_143 : decode cX10_rangeOf 143 = .ok (.ireturn, 1) := by decide +kernel
theorem dX10_isWindow_0 : decode cX10_isWindow 0 = .ok (.iload_n 1, 1) := by decide +kernel
theorem dX10_isWindow_1 : decode cX10_isWindow 1 = .ok (.ifCond .lt 20, 3) := by decide +kernel
theorem dX10_isWindow_4 : decode cX10_isWindow 4 = .ok (.iload_n 1, 1) := by decide +kernel
theorem dX10_isWindow_5 : decode cX10_isWindow 5 = .ok (.aload_n 0, 1) := by decide +kernel
theorem dX10_isWindow_6 : decode cX10_isWindow 6 = .ok (.invokevirtual 299, 3) := by decide +kernel
theorem dX10_isWindow_9 : decode cX10_isWindow 9 = .ok (.aload_n 0, 1) := by decide +kernel
theorem dX10_isWindow_10 : decode cX10_isWindow 10 = .ok (.getfield 85, 3) := by decide +kernel
theorem dX10_isWindow_13 : decode cX10_isWindow 13 = .ok (.idiv, 1) := by decide +kernel
theorem dX10_isWindow_14 : decode cX10_isWindow 14 = .ok (.if_icmp .ge 7, 3) := by decide +kernel
theorem dX10_isWindow_17 : decode cX10_isWindow 17 = .ok (.iconst 1, 1) := by decide +kernel
theorem dX10_isWindow_18 : decode cX10_isWindow 18 = .ok (.goto 4, 3) := by decide +kernel
theorem dX10_isWindow_21 : decode cX10_isWindow 21 = .ok (.iconst 0, 1) := by decide +kernel
theorem dX10_isWindow_22 : decode cX10_isWindow 22 = .ok (.ireturn, 1) := by decide +kernel
theorem dX10_range_0 : decode cX10_range 0 = .ok (.aload_n 0, 1) := by decide +kernel
theorem dX10_range_1 : decode cX10_range 1 = .ok (.iconst 0, 1) := by decide +kernel
theorem dX10_range_2 : decode cX10_range 2 = .ok (.putfield 114, 3) := by decide +kernel
theorem dX10_range_5 : decode cX10_range 5 = .ok (.aload_n 0, 1) := by decide +kernel
theorem dX10_range_6 : decode cX10_range 6 = .ok (.aload_n 0, 1) := by decide +kernel
theorem dX10_range_7 : decode cX10_range 7 = .ok (.iload_n 1, 1) := by decide +kernel
theorem dX10_range_8 : decode cX10_range 8 = .ok (.invokevirtual 117, 3) := by decide +kernel
theorem dX10_range_11 : decode cX10_range 11 = .ok (.ifCond .ne 7, 3) := by decide +kernel
theorem dX10_range_14 : decode cX10_range 14 = .ok (.iconst 1, 1) := by decide +kernel
theorem dX10_range_15 : decode cX10_range 15 = .ok (.goto 4, 3) := by decide +kernel
theorem dX10_range_18 : decode cX10_range 18 = .ok (.iconst 0, 1) := by decide +kernel
theorem dX10_range_19 : decode cX10_range 19 = .ok (.iconst 1, 1) := by decide +kernel
theorem dX10_range_20 : decode cX10_range 20 = .ok (.invokevirtual 125, 3) := by decide +kernel
theorem dX10_range_23 : decode cX10_range 23 = .ok (.ifCond .eq 5, 3) := by decide +kernel
theorem dX10_range_26 : decode cX10_range 26 = .ok (.iconst 0, 1) := by decide +kernel
theorem dX10_range_27 : decode cX10_range 27 = .ok (.ireturn, 1) := by decide +kernel
theorem dX10_range_28 : decode cX10_range 28 = .ok (.aload_n 0, 1) := by decide +kernel
theorem dX10_range_29 : decode cX10_range 29 = .ok (.iload_n 2, 1) := by decide +kernel
theorem dX10_range_30 : decode cX10_range 30 = .ok (.invokevirtual 302, 3) := by decide +kernel
theorem dX10_range_33 : decode cX10_range 33 = .ok (.ifCond .ne 5, 3) := by decide +kernel
theorem dX10_range_36 : decode cX10_range 36 = .ok (.iconst (-1), 1) := by decide +kernel
theorem dX10_range_37 : decode cX10_range 37 = .ok (.ireturn, 1) := by decide +kernel
theorem dX10_range_38 : decode cX10_range 38 = .ok (.aload_n 0, 1) := by decide +kernel
theorem dX10_range_39 : decode cX10_range 39 = .ok (.iload_n 1, 1) := by decide +kernel
theorem dX10_range_40 : decode cX10_range 40 = .ok (.invokevirtual 204, 3) := by decide +kernel
theorem dX10_range_43 : decode cX10_range 43 = .ok (.aload_n 0, 1) := by decide +kernel
theorem dX10_range_44 : decode cX10_range 44 = .ok (.iload_n 1, 1) := by decide +kernel
theorem dX10_range_45 : decode cX10_range 45 = .ok (.iload_n 2, 1) := by decide +kernel
theorem dX10_range_46 : decode cX10_range 46 = .ok (.invokevirtual 305, 3) := by decide +kernel
theorem dX10_range_49 : decode cX10_range 49 = .ok (.ireturn, 1) := by decide +kernel
theorem dX10_indexOf_0 : decode cX10_indexOf 0 = .ok (.iconst (-1), 1) := by decide +kernel
theorem dX10_indexOf_1 : decode cX10_indexOf 1 = .ok (.istore_n 2, 1) := by decide +kernel
theorem dX10_indexOf_2 : decode cX10_indexOf 2 = .ok (.iconst 0, 1) := by decide +kernel
theorem dX10_indexOf_3 : decode cX10_indexOf 3 = .ok (.istore_n 3, 1) := by decide +kernel
theorem dX10_indexOf_4 : decode cX10_indexOf 4 = .ok (.iconst 0, 1) := by decide +kernel
theorem dX10_indexOf_5 : decode cX10_indexOf 5 = .ok (.istore 4, 2) := by decide +kernel
theorem dX10_indexOf_7 : decode cX10_indexOf 7 = .ok (.iload 4, 2) := by decide +kernel
theorem dX10_indexOf_9 : decode cX10_indexOf 9 = .ok (.iconst 3, 1) := by decide +kernel
theorem dX10_indexOf_10 : decode cX10_indexOf 10 = .ok (.if_icmp .ge 31, 3) := by decide +kernel
theorem dX10_indexOf_13 : decode cX10_indexOf 13 = .ok (.aload_n 0, 1) := by decide +kernel
theorem dX10_indexOf_14 : decode cX10_indexOf 14 = .ok (.iload 4, 2) := by decide +kernel
theorem dX10_indexOf_16 : decode cX10_indexOf 16 = .ok (.iload_n 1, 1) := by decide +kernel
theorem dX10_indexOf_17 : decode cX10_indexOf 17 = .ok (.invokevirtual 305, 3) := by decide +kernel
theorem dX10_indexOf_20 : decode cX10_indexOf 20 = .ok (.istore 5, 2) := by decide +kernel
theorem dX10_indexOf_22 : decode cX10_indexOf 22 = .ok (.iload 5, 2) := by decide +kernel
theorem dX10_indexOf_24 : decode cX10_indexOf 24 = .ok (.iload_n 2, 1) := by decide +kernel
theorem dX10_indexOf_25 : decode cX10_indexOf 25 = .ok (.if_icmp .le 8, 3) := by decide +kernel
theorem dX10_indexOf_28 : decode cX10_indexOf 28 = .ok (.iload 5, 2) := by decide +kernel
theorem dX10_indexOf_30 : decode cX10_indexOf 30 = .ok (.goto 4, 3) := by decide +kernel
theorem dX10_indexOf_33 : decode cX10_indexOf 33 = .ok (.iload_n 2, 1) := by decide +kernel
theorem dX10_indexOf_34 : decode cX10_indexOf 34 = .ok (.istore_n 2, 1) := by decide +kernel
theorem dX10_indexOf_35 : decode cX10_indexOf 35 = .ok (.iinc 4 1, 3) := by decide +kernel
theorem dX10_indexOf_38 : decode cX10_indexOf 38 = .ok (.goto (-31), 3) := by decide +kernel
theorem dX10_indexOf_41 : decode cX10_indexOf 41 = .ok (.iload_n 2, 1) := by decide +kernel
theorem dX10_indexOf_42 : decode cX10_indexOf 42 = .ok (.ifCond .ge 5, 3) := by decide +kernel
theorem dX10_indexOf_45 : decode cX10_indexOf 45 = .ok (.iconst (-1), 1) := by decide +kernel
theorem dX10_indexOf_46 : decode cX10_indexOf 46 = .ok (.ireturn, 1) := by decide +kernel
theorem dX10_indexOf_47 : decode cX10_indexOf 47 = .ok (.iconst 0, 1) := by decide +kernel
theorem dX10_indexOf_48 : decode cX10_indexOf 48 = .ok (.istore 4, 2) := by decide +kernel
theorem dX10_indexOf_50 : decode cX10_indexOf 50 = .ok (.iload 4, 2) := by decide +kernel
theorem dX10_indexOf_52 : decode cX10_indexOf 52 = .ok (.aload_n 0, 1) := by decide +kernel
theorem dX10_indexOf_53 : decode cX10_indexOf 53 = .ok (.getfield 91, 3) := by decide +kernel
theorem dX10_indexOf_56 : decode cX10_indexOf 56 = .ok (.if_icmp .ge 28, 3) := by decide +kernel
theorem dX10_indexOf_59 : decode cX10_indexOf 59 = .ok (.iload_n 3, 1) := by decide +kernel
theorem dX10_indexOf_60 : decode cX10_indexOf 60 = .ok (.aload_n 0, 1) := by decide +kernel
theorem dX10_indexOf_61 : decode cX10_indexOf 61 = .ok (.getfield 94, 3) := by decide +kernel
theorem dX10_indexOf_64 : decode cX10_indexOf 64 = .ok (.iload 4, 2) := by decide +kernel
theorem dX10_indexOf_66 : decode cX10_indexOf 66 = .ok (.iaload, 1) := by decide +kernel
theorem dX10_indexOf_67 : decode cX10_indexOf 67 = .ok (.iload_n 2, 1) := by decide +kernel
theorem dX10_indexOf_68 : decode cX10_indexOf 68 = .ok (.if_icmp .gt 7, 3) := by decide +kernel
theorem dX10_indexOf_71 : decode cX10_indexOf 71 = .ok (.iconst 1, 1) := by decide +kernel
theorem dX10_indexOf_72 : decode cX10_indexOf 72 = .ok (.goto 4, 3) := by decide +kernel
theorem dX10_indexOf_75 : decode cX10_indexOf 75 = .ok (.iconst 0, 1) := by decide +kernel
theorem dX10_indexOf_76 : decode cX10_indexOf 76 = .ok (.iadd, 1) := by decide +kernel
theorem dX10_indexOf_77 : decode cX10_indexOf 77 = .ok (.istore_n 3, 1) := by decide +kernel
theorem dX10_indexOf_78 : decode cX10_indexOf 78 = .ok (.iinc 4 1, 3) := by decide +kernel
theorem dX10_indexOf_81 : decode cX10_indexOf 81 = .ok (.goto (-31), 3) := by decide +kernel
theorem dX10_indexOf_84 : decode cX10_indexOf 84 = .ok (.iload_n 3, 1) := by decide +kernel
theorem dX10_indexOf_85 : decode cX10_indexOf 85 = .ok (.ireturn, 1) := by decide +kernel
theorem dX10_allFinals_0 : decode cX10_allFinals 0 = .ok (.iconst 0, 1) := by decide +kernel
theorem dX10_allFinals_1 : decode cX10_allFinals 1 = .ok (.istore_n 1, 1) := by decide +kernel
theorem dX10_allFinals_2 : decode cX10_allFinals 2 = .ok (.iload_n 1, 1) := by decide +kernel
theorem dX10_allFinals_3 : decode cX10_allFinals 3 = .ok (.iconst 3, 1) := by decide +kernel
theorem dX10_allFinals_4 : decode cX10_allFinals 4 = .ok (.if_icmp .ge 14, 3) := by decide +kernel
theorem dX10_allFinals_7 : decode cX10_allFinals 7 = .ok (.aload_n 0, 1) := by decide +kernel
theorem dX10_allFinals_8 : decode cX10_allFinals 8 = .ok (.iload_n 1, 1) := by decide +kernel
theorem dX10_allFinals_9 : decode cX10_allFinals 9 = .ok (.invokevirtual 204, 3) := by decide +kernel
theorem dX10_allFinals_12 : decode cX10_allFinals 12 = .ok (.iinc 1 1, 3) := by decide +kernel
theorem dX10_allFinals_15 : decode cX10_allFinals 15 = .ok (.goto (-13), 3) := by decide +kernel
theorem dX10_allFinals_18 : decode cX10_allFinals 18 = .ok (.return_, 1) := by decide +kernel
theorem dX10_index_0 : decode cX10_index 0 = .ok (.aload_n 0, 1) := by decide +kernel
theorem dX10_index_1 : decode cX10_index 1 = .ok (.iconst 0, 1) := by decide +kernel
theorem dX10_index_2 : decode cX10_index 2 = .ok (.putfield 114, 3) := by decide +kernel
theorem dX10_index_5 : decode cX10_index 5 = .ok (.aload_n 0, 1) := by decide +kernel
theorem dX10_index_6 : decode cX10_index 6 = .ok (.iload_n 1, 1) := by decide +kernel
theorem dX10_index_7 : decode cX10_index 7 = .ok (.invokevirtual 302, 3) := by decide +kernel
theorem dX10_index_10 : decode cX10_index 10 = .ok (.ifCond .ne 5, 3) := by decide +kernel
theorem dX10_index_13 : decode cX10_index 13 = .ok (.iconst (-1), 1) := by decide +kernel
theorem dX10_index_14 : decode cX10_index 14 = .ok (.ireturn, 1) := by decide +kernel
theorem dX10_index_15 : decode cX10_index 15 = .ok (.aload_n 0, 1) := by decide +kernel
theorem dX10_index_16 : decode cX10_index 16 = .ok (.invokevirtual 308, 3) := by decide +kernel
theorem dX10_index_19 : decode cX10_index 19 = .ok (.aload_n 0, 1) := by decide +kernel
theorem dX10_index_20 : decode cX10_index 20 = .ok (.iload_n 1, 1) := by decide +kernel
theorem dX10_index_21 : decode cX10_index 21 = .ok (.invokevirtual 311, 3) := by decide +kernel
theorem dX10_index_24 : decode cX10_index 24 = .ok (.ireturn, 1) := by decide +kernel
theorem dX10_storm_0 : decode cX10_storm 0 = .ok (.aload_n 0, 1) := by decide +kernel
theorem dX10_storm_1 : decode cX10_storm 1 = .ok (.iconst 0, 1) := by decide +kernel
theorem dX10_storm_2 : decode cX10_storm 2 = .ok (.putfield 114, 3) := by decide +kernel
theorem dX10_storm_5 : decode cX10_storm 5 = .ok (.aload_n 0, 1) := by decide +kernel
theorem dX10_storm_6 : decode cX10_storm 6 = .ok (.iload_n 2, 1) := by decide +kernel
theorem dX10_storm_7 : decode cX10_storm 7 = .ok (.ifCond .lt 8, 3) := by decide +kernel
theorem dX10_storm_10 : decode cX10_storm 10 = .ok (.iload_n 2, 1) := by decide +kernel
theorem dX10_storm_11 : decode cX10_storm 11 = .ok (.iconst 1, 1) := by decide +kernel
theorem dX10_storm_12 : decode cX10_storm 12 = .ok (.if_icmp .le 7, 3) := by decide +kernel
theorem dX10_storm_15 : decode cX10_storm 15 = .ok (.iconst 1, 1) := by decide +kernel
theorem dX10_storm_16 : decode cX10_storm 16 = .ok (.goto 4, 3) := by decide +kernel
theorem dX10_storm_19 : decode cX10_storm 19 = .ok (.iconst 0, 1) := by decide +kernel
theorem dX10_storm_20 : decode cX10_storm 20 = .ok (.iconst 1, 1) := by decide +kernel
theorem dX10_storm_21 : decode cX10_storm 21 = .ok (.invokevirtual 125, 3) := by decide +kernel
theorem dX10_storm_24 : decode cX10_storm 24 = .ok (.ifCond .eq 5, 3) := by decide +kernel
theorem dX10_storm_27 : decode cX10_storm 27 = .ok (.iconst 0, 1) := by decide +kernel
theorem dX10_storm_28 : decode cX10_storm 28 = .ok (.ireturn, 1) := by decide +kernel
theorem dX10_storm_29 : decode cX10_storm 29 = .ok (.aload_n 0, 1) := by decide +kernel
theorem dX10_storm_30 : decode cX10_storm 30 = .ok (.invokevirtual 308, 3) := by decide +kernel
theorem dX10_storm_33 : decode cX10_storm 33 = .ok (.aload_n 0, 1) := by decide +kernel
theorem dX10_storm_34 : decode cX10_storm 34 = .ok (.invokevirtual 299, 3) := by decide +kernel
theorem dX10_storm_37 : decode cX10_storm 37 = .ok (.aload_n 0, 1) := by decide +kernel
theorem dX10_storm_38 : decode cX10_storm 38 = .ok (.getfield 85, 3) := by decide +kernel
theorem dX10_storm_41 : decode cX10_storm 41 = .ok (.idiv, 1) := by decide +kernel
theorem dX10_storm_42 : decode cX10_storm 42 = .ok (.istore_n 3, 1) := by decide +kernel
theorem dX10_storm_43 : decode cX10_storm 43 = .ok (.iload_n 1, 1) := by decide +kernel
theorem dX10_storm_44 : decode cX10_storm 44 = .ok (.istore 4, 2) := by decide +kernel
theorem dX10_storm_46 : decode cX10_storm 46 = .ok (.iconst 0, 1) := by decide +kernel
theorem dX10_storm_47 : decode cX10_storm 47 = .ok (.istore 5, 2) := by decide +kernel
theorem dX10_storm_49 : decode cX10_storm 49 = .ok (.iload 5, 2) := by decide +kernel
theorem dX10_storm_51 : decode cX10_storm 51 = .ok (.iload_n 3, 1) := by decide +kernel
theorem dX10_storm_52 : decode cX10_storm 52 = .ok (.if_icmp .ge 73, 3) := by decide +kernel
theorem dX10_storm_55 : decode cX10_storm 55 = .ok (.iload_n 1, 1) := by decide +kernel
theorem dX10_storm_56 : decode cX10_storm 56 = .ok (.ifCond .lt 69, 3) := by decide +kernel
theorem dX10_storm_59 : decode cX10_storm 59 = .ok (.iload 5, 2) := by decide +kernel
theorem dX10_storm_61 : decode cX10_storm 61 = .ok (.istore 6, 2) := by decide +kernel
theorem dX10_storm_63 : decode cX10_storm 63 = .ok (.iload 6, 2) := by decide +kernel
theorem dX10_storm_65 : decode cX10_storm 65 = .ok (.iload_n 3, 1) := by decide +kernel
theorem dX10_storm_66 : decode cX10_storm 66 = .ok (.if_icmp .ge 18, 3) := by decide +kernel
theorem dX10_storm_69 : decode cX10_storm 69 = .ok (.aload_n 0, 1) := by decide +kernel
theorem dX10_storm_70 : decode cX10_storm 70 = .ok (.iload 6, 2) := by decide +kernel
theorem dX10_storm_72 : decode cX10_storm 72 = .ok (.invokevirtual 314, 3) := by decide +kernel
theorem dX10_storm_75 : decode cX10_storm 75 = .ok (.ifCond .eq 9, 3) := by decide +kernel
theorem dX10_storm_78 : decode cX10_storm 78 = .ok (.iinc 6 1, 3) := by decide +kernel
theorem dX10_storm_81 : decode cX10_storm 81 = .ok (.goto (-18), 3) := by decide +kernel
theorem dX10_storm_84 : decode cX10_storm 84 = .ok (.iload 6, 2) := by decide +kernel
theorem dX10_storm_86 : decode cX10_storm 86 = .ok (.iload 5, 2) := by decide +kernel
theorem dX10_storm_88 : decode cX10_storm 88 = .ok (.isub, 1) := by decide +kernel
theorem dX10_storm_89 : decode cX10_storm 89 = .ok (.iconst 1, 1) := by decide +kernel
theorem dX10_storm_90 : decode cX10_storm 90 = .ok (.if_icmp .le 26, 3) := by decide +kernel
theorem dX10_storm_93 : decode cX10_storm 93 = .ok (.iload 4, 2) := by decide +kernel
theorem dX10_storm_95 : decode cX10_storm 95 = .ok (.ifCond .ne 18, 3) := by decide +kernel
theorem dX10_storm_98 : decode cX10_storm 98 = .ok (.iload_n 2, 1) := by decide +kernel
theorem dX10_storm_99 : decode cX10_storm 99 = .ok (.ifCond .ne 8, 3) := by decide +kernel
theorem dX10_storm_102 : decode cX10_storm 102 = .ok (.iload 5, 2) := by decide +kernel
theorem dX10_storm_104 : decode cX10_storm 104 = .ok (.goto 8, 3) := by decide +kernel
theorem dX10_storm_107 : decode cX10_storm 107 = .ok (.iload 6, 2) := by decide +kernel
theorem dX10_storm_109 : decode cX10_storm 109 = .ok (.iload 5, 2) := by decide +kernel
theorem dX10_storm_111 : decode cX10_storm 111 = .ok (.isub, 1) := by decide +kernel
theorem dX10_storm_112 : decode cX10_storm 112 = .ok (.ireturn, 1) := by decide +kernel
theorem dX10_storm_113 : decode cX10_storm 113 = .ok (.iinc 4 (-1), 3) := by decide +kernel
theorem dX10_storm_116 : decode cX10_storm 116 = .ok (.iload 6, 2) := by decide +kernel
theorem dX10_storm_118 : decode cX10_storm 118 = .ok (.iconst 1, 1) := by decide +kernel
theorem dX10_storm_119 : decode cX10_storm 119 = .ok (.iadd, 1) := by decide +kernel
theorem dX10_storm_120 : decode cX10_storm 120 = .ok (.istore 5, 2) := by decide +kernel
theorem dX10_storm_122 : decode cX10_storm 122 = .ok (.goto (-73), 3) := by decide +kernel
theorem dX10_storm_125 : decode cX10_storm 125 = .ok (.iconst (-1), 1) := by decide +kernel
theorem dX10_storm_126 : decode cX10_storm 126 = .ok (.ireturn, 1) := by decide +kernel
theorem dX10_isStorm_0 : decode cX10_isStorm 0 = .ok (.aload_n 0, 1) := by decide +kernel
theorem dX10_isStorm_1 : decode cX10_isStorm 1 = .ok (.iload_n 1, 1) := by decide +kernel
theorem dX10_isStorm_2 : decode cX10_isStorm 2 = .ok (.invokevirtual 311, 3) := by decide +kernel
theorem dX10_isStorm_5 : decode cX10_isStorm 5 = .ok (.istore_n 2, 1) := by decide +kernel
theorem dX10_isStorm_6 : decode cX10_isStorm 6 = .ok (.iload_n 2, 1) := by decide +kernel
theorem dX10_isStorm_7 : decode cX10_isStorm 7 = .ok (.ifCond .lt 15, 3) := by decide +kernel
theorem dX10_isStorm_10 : decode cX10_isStorm 10 = .ok (.iload_n 2, 1) := by decide +kernel
theorem dX10_isStorm_11 : decode cX10_isStorm 11 = .ok (.aload_n 0, 1) := by decide +kernel
theorem dX10_isStorm_12 : decode cX10_isStorm 12 = .ok (.getfield 88, 3) := by decide +kernel
theorem dX10_isStorm_15 : decode cX10_isStorm 15 = .ok (.if_icmp .lt 7, 3) := by decide +kernel
theorem dX10_isStorm_18 : decode cX10_isStorm 18 = .ok (.iconst 1, 1) := by decide +kernel
theorem dX10_isStorm_19 : decode cX10_isStorm 19 = .ok (.goto 4, 3) := by decide +kernel
theorem dX10_isStorm_22 : decode cX10_isStorm 22 = .ok (.iconst 0, 1) := by decide +kernel
theorem dX10_isStorm_23 : decode cX10_isStorm 23 = .ok (.ireturn, 1) := by decide +kernel
theorem dX10_quiet_0 : decode cX10_quiet 0 = .ok (.aload_n 0, 1) := by decide +kernel
theorem dX10_quiet_1 : decode cX10_quiet 1 = .ok (.iconst 0, 1) := by decide +kernel
theorem dX10_quiet_2 : decode cX10_quiet 2 = .ok (.putfield 114, 3) := by decide +kernel
theorem dX10_quiet_5 : decode cX10_quiet 5 = .ok (.aload_n 0, 1) := by decide +kernel
theorem dX10_quiet_6 : decode cX10_quiet 6 = .ok (.invokevirtual 308, 3) := by decide +kernel
theorem dX10_quiet_9 : decode cX10_quiet 9 = .ok (.aload_n 0, 1) := by decide +kernel
theorem dX10_quiet_10 : decode cX10_quiet 10 = .ok (.invokevirtual 299, 3) := by decide +kernel
theorem dX10_quiet_13 : decode cX10_quiet 13 = .ok (.aload_n 0, 1) := by decide +kernel
theorem dX10_quiet_14 : decode cX10_quiet 14 = .ok (.getfield 85, 3) := by decide +kernel
theorem dX10_quiet_17 : decode cX10_quiet 17 = .ok (.idiv, 1) := by decide +kernel
theorem dX10_quiet_18 : decode cX10_quiet 18 = .ok (.istore_n 2, 1) := by decide +kernel
theorem dX10_quiet_19 : decode cX10_quiet 19 = .ok (.iconst 0, 1) := by decide +kernel
theorem dX10_quiet_20 : decode cX10_quiet 20 = .ok (.istore_n 3, 1) := by decide +kernel
theorem dX10_quiet_21 : decode cX10_quiet 21 = .ok (.iload_n 3, 1) := by decide +kernel
theorem dX10_quiet_22 : decode cX10_quiet 22 = .ok (.iload_n 2, 1) := by decide +kernel
theorem dX10_quiet_23 : decode cX10_quiet 23 = .ok (.if_icmp .ge 93, 3) := by decide +kernel
theorem dX10_quiet_26 : decode cX10_quiet 26 = .ok (.aload_n 0, 1) := by decide +kernel
theorem dX10_quiet_27 : decode cX10_quiet 27 = .ok (.iload_n 3, 1) := by decide +kernel
theorem dX10_quiet_28 : decode cX10_quiet 28 = .ok (.invokevirtual 311, 3) := by decide +kernel
theorem dX10_quiet_31 : decode cX10_quiet 31 = .ok (.istore 4, 2) := by decide +kernel
theorem dX10_quiet_33 : decode cX10_quiet 33 = .ok (.iconst 0, 1) := by decide +kernel
theorem dX10_quiet_34 : decode cX10_quiet 34 = .ok (.istore 5, 2) := by decide +kernel
theorem dX10_quiet_36 : decode cX10_quiet 36 = .ok (.iload 4, 2) := by decide +kernel
theorem dX10_quiet_38 : decode cX10_quiet 38 = .ok (.ifCond .ge 6, 3) := by decide +kernel
theorem dX10_quiet_41 : decode cX10_quiet 41 = .ok (.goto 69, 3) := by decide +kernel
theorem dX10_quiet_44 : decode cX10_quiet 44 = .ok (.iconst 0, 1) := by decide +kernel
theorem dX10_quiet_45 : decode cX10_quiet 45 = .ok (.istore 6, 2) := by decide +kernel
theorem dX10_quiet_47 : decode cX10_quiet 47 = .ok (.iload 6, 2) := by decide +kernel
theorem dX10_quiet_49 : decode cX10_quiet 49 = .ok (.iload_n 2, 1) := by decide +kernel
theorem dX10_quiet_50 : decode cX10_quiet 50 = .ok (.if_icmp .ge 52, 3) := by decide +kernel
theorem dX10_quiet_53 : decode cX10_quiet 53 = .ok (.aload_n 0, 1) := by decide +kernel
theorem dX10_quiet_54 : decode cX10_quiet 54 = .ok (.iload 6, 2) := by decide +kernel
theorem dX10_quiet_56 : decode cX10_quiet 56 = .ok (.invokevirtual 311, 3) := by decide +kernel
theorem dX10_quiet_59 : decode cX10_quiet 59 = .ok (.istore 7, 2) := by decide +kernel
theorem dX10_quiet_61 : decode cX10_quiet 61 = .ok (.iload 5, 2) := by decide +kernel
theorem dX10_quiet_63 : decode cX10_quiet 63 = .ok (.iload 7, 2) := by decide +kernel
theorem dX10_quiet_65 : decode cX10_quiet 65 = .ok (.ifCond .lt 27, 3) := by decide +kernel
theorem dX10_quiet_68 : decode cX10_quiet 68 = .ok (.iload 7, 2) := by decide +kernel
theorem dX10_quiet_70 : decode cX10_quiet 70 = .ok (.iload 4, 2) := by decide +kernel
theorem dX10_quiet_72 : decode cX10_quiet 72 = .ok (.if_icmp .lt 16, 3) := by decide +kernel
theorem dX10_quiet_75 : decode cX10_quiet 75 = .ok (.iload 7, 2) := by decide +kernel
theorem dX10_quiet_77 : decode cX10_quiet 77 = .ok (.iload 4, 2) := by decide +kernel
theorem dX10_quiet_79 : decode cX10_quiet 79 = .ok (.if_icmp .ne 13, 3) := by decide +kernel
theorem dX10_quiet_82 : decode cX10_quiet 82 = .ok (.iload 6, 2) := by decide +kernel
theorem dX10_quiet_84 : decode cX10_quiet 84 = .ok (.iload_n 3, 1) := by decide +kernel
theorem dX10_quiet_85 : decode cX10_quiet 85 = .ok (.if_icmp .ge 7, 3) := by decide +kernel
theorem dX10_quiet_88 : decode cX10_quiet 88 = .ok (.iconst 1, 1) := by decide +kernel
theorem dX10_quiet_89 : decode cX10_quiet 89 = .ok (.goto 4, 3) := by decide +kernel
theorem dX10_quiet_92 : decode cX10_quiet 92 = .ok (.iconst 0, 1) := by decide +kernel
theorem dX10_quiet_93 : decode cX10_quiet 93 = .ok (.iadd, 1) := by decide +kernel
theorem dX10_quiet_94 : decode cX10_quiet 94 = .ok (.istore 5, 2) := by decide +kernel
theorem dX10_quiet_96 : decode cX10_quiet 96 = .ok (.iinc 6 1, 3) := by decide +kernel
theorem dX10_quiet_99 : decode cX10_quiet 99 = .ok (.goto (-52), 3) := by decide +kernel
theorem dX10_quiet_102 : decode cX10_quiet 102 = .ok (.iload 5, 2) := by decide +kernel
theorem dX10_quiet_104 : decode cX10_quiet 104 = .ok (.iload_n 1, 1) := by decide +kernel
theorem dX10_quiet_105 : decode cX10_quiet 105 = .ok (.if_icmp .ne 5, 3) := by decide +kernel
theorem dX10_quiet_108 : decode cX10_quiet 108 = .ok (.iload_n 3, 1) := by decide +kernel
theorem dX10_quiet_109 : decode cX10_quiet 109 = .ok (.ireturn, 1) := by decide +kernel
theorem dX10_quiet_110 : decode cX10_quiet 110 = .ok (.iinc 3 1, 3) := by decide +kernel
theorem dX10_quiet_113 : decode cX10_quiet 113 = .ok (.goto (-92), 3) := by decide +kernel
theorem dX10_quiet_116 : decode cX10_quiet 116 = .ok (.iconst (-1), 1) := by decide +kernel
theorem dX10_quiet_117 : decode cX10_quiet 117 = .ok (.ireturn, 1) := by decide +kernel
theorem dX10_publish_0 : decode cX10_publish 0 = .ok (.aload_n 0, 1) := by decide +kernel
theorem dX10_publish_1 : decode cX10_publish 1 = .ok (.iconst 0, 1) := by decide +kernel
theorem dX10_publish_2 : decode cX10_publish 2 = .ok (.putfield 114, 3) := by decide +kernel
theorem dX10_publish_5 : decode cX10_publish 5 = .ok (.aload_n 0, 1) := by decide +kernel
theorem dX10_publish_6 : decode cX10_publish 6 = .ok (.invokevirtual 308, 3) := by decide +kernel
theorem dX10_publish_9 : decode cX10_publish 9 = .ok (.iconst 0, 1) := by decide +kernel
theorem dX10_publish_10 : decode cX10_publish 10 = .ok (.istore_n 1, 1) := by decide +kernel
theorem dX10_publish_11 : decode cX10_publish 11 = .ok (.iconst 0, 1) := by decide +kernel
theorem dX10_publish_12 : decode cX10_publish 12 = .ok (.istore_n 2, 1) := by decide +kernel
theorem dX10_publish_13 : decode cX10_publish 13 = .ok (.iload_n 2, 1) := by decide +kernel
theorem dX10_publish_14 : decode cX10_publish 14 = .ok (.sipush 900, 3) := by decide +kernel
theorem dX10_publish_17 : decode cX10_publish 17 = .ok (.if_icmp .ge 40, 3) := by decide +kernel
theorem dX10_publish_20 : decode cX10_publish 20 = .ok (.aload_n 0, 1) := by decide +kernel
theorem dX10_publish_21 : decode cX10_publish 21 = .ok (.getfield 106, 3) := by decide +kernel
theorem dX10_publish_24 : decode cX10_publish 24 = .ok (.iload_n 2, 1) := by decide +kernel
theorem dX10_publish_25 : decode cX10_publish 25 = .ok (.aload_n 0, 1) := by decide +kernel
theorem dX10_publish_26 : decode cX10_publish 26 = .ok (.getfield 19, 3) := by decide +kernel
theorem dX10_publish_29 : decode cX10_publish 29 = .ok (.iload_n 2, 1) := by decide +kernel
theorem dX10_publish_30 : decode cX10_publish 30 = .ok (.iaload, 1) := by decide +kernel
theorem dX10_publish_31 : decode cX10_publish 31 = .ok (.iastore, 1) := by decide +kernel
theorem dX10_publish_32 : decode cX10_publish 32 = .ok (.iload_n 1, 1) := by decide +kernel
theorem dX10_publish_33 : decode cX10_publish 33 = .ok (.aload_n 0, 1) := by decide +kernel
theorem dX10_publish_34 : decode cX10_publish 34 = .ok (.getfield 19, 3) := by decide +kernel
theorem dX10_publish_37 : decode cX10_publish 37 = .ok (.iload_n 2, 1) := by decide +kernel
theorem dX10_publish_38 : decode cX10_publish 38 = .ok (.iaload, 1) := by decide +kernel
theorem dX10_publish_39 : decode cX10_publish 39 = .ok (.ldc 113, 2) := by decide +kernel
theorem dX10_publish_41 : decode cX10_publish 41 = .ok (.if_icmp .ne 7, 3) := by decide +kernel
theorem dX10_publish_44 : decode cX10_publish 44 = .ok (.iconst 0, 1) := by decide +kernel
theorem dX10_publish_45 : decode cX10_publish 45 = .ok (.goto 4, 3) := by decide +kernel
theorem dX10_publish_48 : decode cX10_publish 48 = .ok (.iconst 1, 1) := by decide +kernel
theorem dX10_publish_49 : decode cX10_publish 49 = .ok (.iadd, 1) := by decide +kernel
theorem dX10_publish_50 : decode cX10_publish 50 = .ok (.istore_n 1, 1) := by decide +kernel
theorem dX10_publish_51 : decode cX10_publish 51 = .ok (.iinc 2 1, 3) := by decide +kernel
theorem dX10_publish_54 : decode cX10_publish 54 = .ok (.goto (-41), 3) := by decide +kernel
theorem dX10_publish_57 : decode cX10_publish 57 = .ok (.aload_n 0, 1) := by decide +kernel
theorem dX10_publish_58 : decode cX10_publish 58 = .ok (.dup, 1) := by decide +kernel
theorem dX10_publish_59 : decode cX10_publish 59 = .ok (.getfield 317, 3) := by decide +kernel
theorem dX10_publish_62 : decode cX10_publish 62 = .ok (.iconst 1, 1) := by decide +kernel
theorem dX10_publish_63 : decode cX10_publish 63 = .ok (.iadd, 1) := by decide +kernel
theorem dX10_publish_64 : decode cX10_publish 64 = .ok (.putfield 317, 3) := by decide +kernel
theorem dX10_publish_67 : decode cX10_publish 67 = .ok (.iload_n 1, 1) := by decide +kernel
theorem dX10_publish_68 : decode cX10_publish 68 = .ok (.ireturn, 1) := by decide +kernel
theorem dX10_changed_0 : decode cX10_changed 0 = .ok (.aload_n 0, 1) := by decide +kernel
theorem dX10_changed_1 : decode cX10_changed 1 = .ok (.iconst 0, 1) := by decide +kernel
theorem dX10_changed_2 : decode cX10_changed 2 = .ok (.putfield 114, 3) := by decide +kernel
theorem dX10_changed_5 : decode cX10_changed 5 = .ok (.aload_n 0, 1) := by decide +kernel
theorem dX10_changed_6 : decode cX10_changed 6 = .ok (.aload_n 0, 1) := by decide +kernel
theorem dX10_changed_7 : decode cX10_changed 7 = .ok (.iload_n 1, 1) := by decide +kernel
theorem dX10_changed_8 : decode cX10_changed 8 = .ok (.invokevirtual 117, 3) := by decide +kernel
theorem dX10_changed_11 : decode cX10_changed 11 = .ok (.ifCond .ne 7, 3) := by decide +kernel
theorem dX10_changed_14 : decode cX10_changed 14 = .ok (.iconst 1, 1) := by decide +kernel
theorem dX10_changed_15 : decode cX10_changed 15 = .ok (.goto 4, 3) := by decide +kernel
theorem dX10_changed_18 : decode cX10_changed 18 = .ok (.iconst 0, 1) := by decide +kernel
theorem dX10_changed_19 : decode cX10_changed 19 = .ok (.iconst 1, 1) := by decide +kernel
theorem dX10_changed_20 : decode cX10_changed 20 = .ok (.invokevirtual 125, 3) := by decide +kernel
theorem dX10_changed_23 : decode cX10_changed 23 = .ok (.ifCond .eq 5, 3) := by decide +kernel
theorem dX10_changed_26 : decode cX10_changed 26 = .ok (.iconst 0, 1) := by decide +kernel
theorem dX10_changed_27 : decode cX10_changed 27 = .ok (.ireturn, 1) := by decide +kernel
theorem dX10_changed_28 : decode cX10_changed 28 = .ok (.aload_n 0, 1) := by decide +kernel
theorem dX10_changed_29 : decode cX10_changed 29 = .ok (.getfield 317, 3) := by decide +kernel
theorem dX10_changed_32 : decode cX10_changed 32 = .ok (.ifCond .ne 5, 3) := by decide +kernel
theorem dX10_changed_35 : decode cX10_changed 35 = .ok (.iconst (-1), 1) := by decide +kernel
theorem dX10_changed_36 : decode cX10_changed 36 = .ok (.ireturn, 1) := by decide +kernel
theorem dX10_changed_37 : decode cX10_changed 37 = .ok (.aload_n 0, 1) := by decide +kernel
theorem dX10_changed_38 : decode cX10_changed 38 = .ok (.iload_n 1, 1) := by decide +kernel
theorem dX10_changed_39 : decode cX10_changed 39 = .ok (.invokevirtual 204, 3) := by decide +kernel
theorem dX10_changed_42 : decode cX10_changed 42 = .ok (.iload_n 2, 1) := by decide +kernel
theorem dX10_changed_43 : decode cX10_changed 43 = .ok (.istore_n 3, 1) := by decide +kernel
theorem dX10_changed_44 : decode cX10_changed 44 = .ok (.iconst 0, 1) := by decide +kernel
theorem dX10_changed_45 : decode cX10_changed 45 = .ok (.istore 4, 2) := by decide +kernel
theorem dX10_changed_47 : decode cX10_changed 47 = .ok (.iload 4, 2) := by decide +kernel
theorem dX10_changed_49 : decode cX10_changed 49 = .ok (.sipush 300, 3) := by decide +kernel
theorem dX10_changed_52 : decode cX10_changed 52 = .ok (.if_icmp .ge 55, 3) := by decide +kernel
theorem dX10_changed_55 : decode cX10_changed 55 = .ok (.iload_n 2, 1) := by decide +kernel
theorem dX10_changed_56 : decode cX10_changed 56 = .ok (.ifCond .lt 51, 3) := by decide +kernel
theorem dX10_changed_59 : decode cX10_changed 59 = .ok (.aload_n 0, 1) := by decide +kernel
theorem dX10_changed_60 : decode cX10_changed 60 = .ok (.getfield 19, 3) := by decide +kernel
theorem dX10_changed_63 : decode cX10_changed 63 = .ok (.sipush 300, 3) := by decide +kernel
theorem dX10_changed_66 : decode cX10_changed 66 = .ok (.iload_n 1, 1) := by decide +kernel
theorem dX10_changed_67 : decode cX10_changed 67 = .ok (.imul, 1) := by decide +kernel
theorem dX10_changed_68 : decode cX10_changed 68 = .ok (.iload 4, 2) := by decide +kernel
theorem dX10_changed_70 : decode cX10_changed 70 = .ok (.iadd, 1) := by decide +kernel
theorem dX10_changed_71 : decode cX10_changed 71 = .ok (.iaload, 1) := by decide +kernel
theorem dX10_changed_72 : decode cX10_changed 72 = .ok (.aload_n 0, 1) := by decide +kernel
theorem dX10_changed_73 : decode cX10_changed 73 = .ok (.getfield 106, 3) := by decide +kernel
theorem dX10_changed_76 : decode cX10_changed 76 = .ok (.sipush 300, 3) := by decide +kernel
theorem dX10_changed_79 : decode cX10_changed 79 = .ok (.iload_n 1, 1) := by decide +kernel
theorem dX10_changed_80 : decode cX10_changed 80 = .ok (.imul, 1) := by decide +kernel
theorem dX10_changed_81 : decode cX10_changed 81 = .ok (.iload 4, 2) := by decide +kernel
theorem dX10_changed_83 : decode cX10_changed 83 = .ok (.iadd, 1) := by decide +kernel
theorem dX10_changed_84 : decode cX10_changed 84 = .ok (.iaload, 1) := by decide +kernel
theorem dX10_changed_85 : decode cX10_changed 85 = .ok (.if_icmp .ne 6, 3) := by decide +kernel
theorem dX10_changed_88 : decode cX10_changed 88 = .ok (.goto 13, 3) := by decide +kernel
theorem dX10_changed_91 : decode cX10_changed 91 = .ok (.iload_n 3, 1) := by decide +kernel
theorem dX10_changed_92 : decode cX10_changed 92 = .ok (.ifCond .ne 6, 3) := by decide +kernel
theorem dX10_changed_95 : decode cX10_changed 95 = .ok (.iload 4, 2) := by decide +kernel
theorem dX10_changed_97 : decode cX10_changed 97 = .ok (.ireturn, 1) := by decide +kernel
theorem dX10_changed_98 : decode cX10_changed 98 = .ok (.iinc 3 (-1), 3) := by decide +kernel
theorem dX10_changed_101 : decode cX10_changed 101 = .ok (.iinc 4 1, 3) := by decide +kernel
theorem dX10_changed_104 : decode cX10_changed 104 = .ok (.goto (-57), 3) := by decide +kernel
theorem dX10_changed_107 : decode cX10_changed 107 = .ok (.iconst (-1), 1) := by decide +kernel
theorem dX10_changed_108 : decode cX10_changed 108 = .ok (.ireturn, 1) := by decide +kernel
theorem dX10_published_0 : decode cX10_published 0 = .ok (.aload_n 0, 1) := by decide +kernel
theorem dX10_published_1 : decode cX10_published 1 = .ok (.iconst 0, 1) := by decide +kernel
theorem dX10_published_2 : decode cX10_published 2 = .ok (.putfield 114, 3) := by decide +kernel
theorem dX10_published_5 : decode cX10_published 5 = .ok (.aload_n 0, 1) := by decide +kernel
theorem dX10_published_6 : decode cX10_published 6 = .ok (.aload_n 0, 1) := by decide +kernel
theorem dX10_published_7 : decode cX10_published 7 = .ok (.iload_n 1, 1) := by decide +kernel
theorem dX10_published_8 : decode cX10_published 8 = .ok (.invokevirtual 117, 3) := by decide +kernel
theorem dX10_published_11 : decode cX10_published 11 = .ok (.ifCond .ne 7, 3) := by decide +kernel
theorem dX10_published_14 : decode cX10_published 14 = .ok (.iconst 1, 1) := by decide +kernel
theorem dX10_published_15 : decode cX10_published 15 = .ok (.goto 4, 3) := by decide +kernel
theorem dX10_published_18 : decode cX10_published 18 = .ok (.iconst 0, 1) := by decide +kernel
theorem dX10_published_19 : decode cX10_published 19 = .ok (.iconst 1, 1) := by decide +kernel
theorem dX10_published_20 : decode cX10_published 20 = .ok (.invokevirtual 125, 3) := by decide +kernel
theorem dX10_published_23 : decode cX10_published 23 = .ok (.ifCond .eq 5, 3) := by decide +kernel
theorem dX10_published_26 : decode cX10_published 26 = .ok (.iconst 0, 1) := by decide +kernel
theorem dX10_published_27 : decode cX10_published 27 = .ok (.ireturn, 1) := by decide +kernel
theorem dX10_published_28 : decode cX10_published 28 = .ok (.iload_n 2, 1) := by decide +kernel
theorem dX10_published_29 : decode cX10_published 29 = .ok (.ifCond .lt 25, 3) := by decide +kernel
theorem dX10_published_32 : decode cX10_published 32 = .ok (.iload_n 2, 1) := by decide +kernel
theorem dX10_published_33 : decode cX10_published 33 = .ok (.sipush 300, 3) := by decide +kernel
theorem dX10_published_36 : decode cX10_published 36 = .ok (.if_icmp .ge 18, 3) := by decide +kernel
theorem dX10_published_39 : decode cX10_published 39 = .ok (.aload_n 0, 1) := by decide +kernel
theorem dX10_published_40 : decode cX10_published 40 = .ok (.getfield 106, 3) := by decide +kernel
theorem dX10_published_43 : decode cX10_published 43 = .ok (.sipush 300, 3) := by decide +kernel
theorem dX10_published_46 : decode cX10_published 46 = .ok (.iload_n 1, 1) := by decide +kernel
theorem dX10_published_47 : decode cX10_published 47 = .ok (.imul, 1) := by decide +kernel
theorem dX10_published_48 : decode cX10_published 48 = .ok (.iload_n 2, 1) := by decide +kernel
theorem dX10_published_49 : decode cX10_published 49 = .ok (.iadd, 1) := by decide +kernel
theorem dX10_published_50 : decode cX10_published 50 = .ok (.iaload, 1) := by decide +kernel
theorem dX10_published_51 : decode cX10_published 51 = .ok (.goto 5, 3) := by decide +kernel
theorem dX10_published_54 : decode cX10_published 54 = .ok (.ldc 113, 2) := by decide +kernel
theorem dX10_published_56 : decode cX10_published 56 = .ok (.ireturn, 1) := by decide +kernel
theorem dX10_count_0 : decode cX10_count 0 = .ok (.aload_n 0, 1) := by decide +kernel
theorem dX10_count_1 : decode cX10_count 1 = .ok (.iconst 0, 1) := by decide +kernel
theorem dX10_count_2 : decode cX10_count 2 = .ok (.putfield 114, 3) := by decide +kernel
theorem dX10_count_5 : decode cX10_count 5 = .ok (.iload_n 1, 1) := by decide +kernel
theorem dX10_count_6 : decode cX10_count 6 = .ok (.tableswitch 73 0 5 #[38, 43, 53, 58, 63, 68], 38) := by decide +kernel
theorem dX10_count_44 : decode cX10_count 44 = .ok (.aload_n 0, 1) := by decide +kernel
theorem dX10_count_45 : decode cX10_count 45 = .ok (.invokevirtual 299, 3) := by decide +kernel
theorem dX10_count_48 : decode cX10_count 48 = .ok (.ireturn, 1) := by decide +kernel
theorem dX10_count_49 : decode cX10_count 49 = .ok (.aload_n 0, 1) := by decide +kernel
theorem dX10_count_50 : decode cX10_count 50 = .ok (.invokevirtual 299, 3) := by decide +kernel
theorem dX10_count_53 : decode cX10_count 53 = .ok (.aload_n 0, 1) := by decide +kernel
theorem dX10_count_54 : decode cX10_count 54 = .ok (.getfield 85, 3) := by decide +kernel
theorem dX10_count_57 : decode cX10_count 57 = .ok (.idiv, 1) := by decide +kernel
theorem dX10_count_58 : decode cX10_count 58 = .ok (.ireturn, 1) := by decide +kernel
theorem dX10_count_59 : decode cX10_count 59 = .ok (.aload_n 0, 1) := by decide +kernel
theorem dX10_count_60 : decode cX10_count 60 = .ok (.getfield 293, 3) := by decide +kernel
theorem dX10_count_63 : decode cX10_count 63 = .ok (.ireturn, 1) := by decide +kernel
theorem dX10_count_64 : decode cX10_count 64 = .ok (.aload_n 0, 1) := by decide +kernel
theorem dX10_count_65 : decode cX10_count 65 = .ok (.getfield 290, 3) := by decide +kernel
theorem dX10_count_68 : decode cX10_count 68 = .ok (.ireturn, 1) := by decide +kernel
theorem dX10_count_69 : decode cX10_count 69 = .ok (.aload_n 0, 1) := by decide +kernel
theorem dX10_count_70 : decode cX10_count 70 = .ok (.getfield 207, 3) := by decide +kernel
theorem dX10_count_73 : decode cX10_count 73 = .ok (.ireturn, 1) := by decide +kernel
theorem dX10_count_74 : decode cX10_count 74 = .ok (.aload_n 0, 1) := by decide +kernel
theorem dX10_count_75 : decode cX10_count 75 = .ok (.getfield 317, 3) := by decide +kernel
theorem dX10_count_78 : decode cX10_count 78 = .ok (.ireturn, 1) := by decide +kernel
theorem dX10_count_79 : decode cX10_count 79 = .ok (.iconst (-1), 1) := by decide +kernel
theorem dX10_count_80 : decode cX10_count 80 = .ok (.ireturn, 1) := by decide +kernel
