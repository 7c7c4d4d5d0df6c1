theorem dL_does_331 : decode cL_does 331 = .ok (.iconst 4, 1) := by decide +kernel
theorem dL_does_332 : decode cL_does 332 = .ok (.ishr, 1) := by decide +kernel
theorem dL_does_333 : decode cL_does 333 = .ok (.iload_n 1, 1) := by decide +kernel
theorem dL_does_334 : decode cL_does 334 = .ok (.bipush 9, 2) := by decide +kernel
theorem dL_does_336 : decode cL_does 336 = .ok (.ishr, 1) := by decide +kernel
theorem dL_does_337 : decode cL_does 337 = .ok (.iconst 1, 1) := by decide +kernel
theorem dL_does_338 : decode cL_does 338 = .ok (.iand, 1) := by decide +kernel
theorem dL_does_339 : decode cL_does 339 = .ok (.ifCond .ne 8, 3) := by decide +kernel
theorem dL_does_342 : decode cL_does 342 = .ok (.bipush 8, 2) := by decide +kernel
theorem dL_does_344 : decode cL_does 344 = .ok (.goto 5, 3) := by decide +kernel
theorem dL_does_347 : decode cL_does 347 = .ok (.bipush 60, 2) := by decide +kernel
theorem dL_does_349 : decode cL_does 349 = .ok (.invokestatic 14, 3) := by decide +kernel
theorem dL_does_352 : decode cL_does 352 = .ok (.iadd, 1) := by decide +kernel
theorem dL_does_353 : decode cL_does 353 = .ok (.invokevirtual 48, 3) := by decide +kernel
theorem dL_does_356 : decode cL_does 356 = .ok (.ireturn, 1) := by decide +kernel
theorem dL_bits_0 : decode cL_bits 0 = .ok (.iconst 0, 1) := by decide +kernel
theorem dL_bits_1 : decode cL_bits 1 = .ok (.istore_n 1, 1) := by decide +kernel
theorem dL_bits_2 : decode cL_bits 2 = .ok (.iconst 0, 1) := by decide +kernel
theorem dL_bits_3 : decode cL_bits 3 = .ok (.istore_n 2, 1) := by decide +kernel
theorem dL_bits_4 : decode cL_bits 4 = .ok (.iload_n 2, 1) := by decide +kernel
theorem dL_bits_5 : decode cL_bits 5 = .ok (.bipush 16, 2) := by decide +kernel
theorem dL_bits_7 : decode cL_bits 7 = .ok (.if_icmp .ge 17, 3) := by decide +kernel
theorem dL_bits_10 : decode cL_bits 10 = .ok (.iload_n 1, 1) := by decide +kernel
theorem dL_bits_11 : decode cL_bits 11 = .ok (.iload_n 0, 1) := by decide +kernel
theorem dL_bits_12 : decode cL_bits 12 = .ok (.iload_n 2, 1) := by decide +kernel
theorem dL_bits_13 : decode cL_bits 13 = .ok (.ishr, 1) := by decide +kernel
theorem dL_bits_14 : decode cL_bits 14 = .ok (.iconst 1, 1) := by decide +kernel
theorem dL_bits_15 : decode cL_bits 15 = .ok (.iand, 1) := by decide +kernel
theorem dL_bits_16 : decode cL_bits 16 = .ok (.iadd, 1) := by decide +kernel
theorem dL_bits_17 : decode cL_bits 17 = .ok (.istore_n 1, 1) := by decide +kernel
theorem dL_bits_18 : decode cL_bits 18 = .ok (.iinc 2 1, 3) := by decide +kernel
theorem dL_bits_21 : decode cL_bits 21 = .ok (.goto (-17), 3) := by decide +kernel
theorem dL_bits_24 : decode cL_bits 24 = .ok (.iload_n 1, 1) := by decide +kernel
theorem dL_bits_25 : decode cL_bits 25 = .ok (.ireturn, 1) := by decide +kernel
theorem dL_ways_0 : decode cL_ways 0 = .ok (.aload_n 0, 1) := by decide +kernel
theorem dL_ways_1 : decode cL_ways 1 = .ok (.iload_n 1, 1) := by decide +kernel
theorem dL_ways_2 : decode cL_ways 2 = .ok (.iconst 2, 1) := by decide +kernel
theorem dL_ways_3 : decode cL_ways 3 = .ok (.invokevirtual 51, 3) := by decide +kernel
theorem dL_ways_6 : decode cL_ways 6 = .ok (.istore 6, 2) := by decide +kernel
theorem dL_ways_8 : decode cL_ways 8 = .ok (.aload_n 0, 1) := by decide +kernel
theorem dL_ways_9 : decode cL_ways 9 = .ok (.iload_n 2, 1) := by decide +kernel
theorem dL_ways_10 : decode cL_ways 10 = .ok (.iconst 2, 1) := by decide +kernel
theorem dL_ways_11 : decode cL_ways 11 = .ok (.invokevirtual 51, 3) := by decide +kernel
theorem dL_ways_14 : decode cL_ways 14 = .ok (.istore 7, 2) := by decide +kernel
theorem dL_ways_16 : decode cL_ways 16 = .ok (.iload 6, 2) := by decide +kernel
theorem dL_ways_18 : decode cL_ways 18 = .ok (.ifCond .lt 52, 3) := by decide +kernel
theorem dL_ways_21 : decode cL_ways 21 = .ok (.iload 7, 2) := by decide +kernel
theorem dL_ways_23 : decode cL_ways 23 = .ok (.ifCond .lt 47, 3) := by decide +kernel
theorem dL_ways_26 : decode cL_ways 26 = .ok (.iload 6, 2) := by decide +kernel
theorem dL_ways_28 : decode cL_ways 28 = .ok (.iload 7, 2) := by decide +kernel
theorem dL_ways_30 : decode cL_ways 30 = .ok (.if_icmp .eq 40, 3) := by decide +kernel
theorem dL_ways_33 : decode cL_ways 33 = .ok (.iload 6, 2) := by decide +kernel
theorem dL_ways_35 : decode cL_ways 35 = .ok (.iload_n 2, 1) := by decide +kernel
theorem dL_ways_36 : decode cL_ways 36 = .ok (.if_icmp .eq 34, 3) := by decide +kernel
theorem dL_ways_39 : decode cL_ways 39 = .ok (.iload 7, 2) := by decide +kernel
theorem dL_ways_41 : decode cL_ways 41 = .ok (.iload_n 1, 1) := by decide +kernel
theorem dL_ways_42 : decode cL_ways 42 = .ok (.if_icmp .eq 28, 3) := by decide +kernel
theorem dL_ways_45 : decode cL_ways 45 = .ok (.aload_n 0, 1) := by decide +kernel
theorem dL_ways_46 : decode cL_ways 46 = .ok (.iload 6, 2) := by decide +kernel
theorem dL_ways_48 : decode cL_ways 48 = .ok (.iconst 1, 1) := by decide +kernel
theorem dL_ways_49 : decode cL_ways 49 = .ok (.invokevirtual 51, 3) := by decide +kernel
theorem dL_ways_52 : decode cL_ways 52 = .ok (.aload_n 0, 1) := by decide +kernel
theorem dL_ways_53 : decode cL_ways 53 = .ok (.iload 7, 2) := by decide +kernel
theorem dL_ways_55 : decode cL_ways 55 = .ok (.iconst 1, 1) := by decide +kernel
theorem dL_ways_56 : decode cL_ways 56 = .ok (.invokevirtual 51, 3) := by decide +kernel
theorem dL_ways_59 : decode cL_ways 59 = .ok (.iadd, 1) := by decide +kernel
theorem dL_ways_60 : decode cL_ways 60 = .ok (.iconst 2, 1) := by decide +kernel
theorem dL_ways_61 : decode cL_ways 61 = .ok (.iload_n 3, 1) := by decide +kernel
theorem dL_ways_62 : decode cL_ways 62 = .ok (.imul, 1) := by decide +kernel
theorem dL_ways_63 : decode cL_ways 63 = .ok (.if_icmp .lt 7, 3) := by decide +kernel
theorem dL_ways_66 : decode cL_ways 66 = .ok (.iconst 1, 1) := by decide +kernel
theorem dL_ways_67 : decode cL_ways 67 = .ok (.goto 4, 3) := by decide +kernel
theorem dL_ways_70 : decode cL_ways 70 = .ok (.iconst 0, 1) := by decide +kernel
theorem dL_ways_71 : decode cL_ways 71 = .ok (.istore 8, 2) := by decide +kernel
theorem dL_ways_73 : decode cL_ways 73 = .ok (.aload_n 0, 1) := by decide +kernel
theorem dL_ways_74 : decode cL_ways 74 = .ok (.iload_n 1, 1) := by decide +kernel
theorem dL_ways_75 : decode cL_ways 75 = .ok (.iconst 0, 1) := by decide +kernel
theorem dL_ways_76 : decode cL_ways 76 = .ok (.invokevirtual 51, 3) := by decide +kernel
theorem dL_ways_79 : decode cL_ways 79 = .ok (.iload_n 3, 1) := by decide +kernel
theorem dL_ways_80 : decode cL_ways 80 = .ok (.iadd, 1) := by decide +kernel
theorem dL_ways_81 : decode cL_ways 81 = .ok (.bipush 10, 2) := by decide +kernel
theorem dL_ways_83 : decode cL_ways 83 = .ok (.if_icmp .ge 7, 3) := by decide +kernel
theorem dL_ways_86 : decode cL_ways 86 = .ok (.iconst 1, 1) := by decide +kernel
theorem dL_ways_87 : decode cL_ways 87 = .ok (.goto 4, 3) := by decide +kernel
theorem dL_ways_90 : decode cL_ways 90 = .ok (.iconst 0, 1) := by decide +kernel
theorem dL_ways_91 : decode cL_ways 91 = .ok (.istore 9, 2) := by decide +kernel
theorem dL_ways_93 : decode cL_ways 93 = .ok (.iload 9, 2) := by decide +kernel
theorem dL_ways_95 : decode cL_ways 95 = .ok (.iload 8, 2) := by decide +kernel
theorem dL_ways_97 : decode cL_ways 97 = .ok (.ifCond .eq 7, 3) := by decide +kernel
theorem dL_ways_100 : decode cL_ways 100 = .ok (.iconst 2, 1) := by decide +kernel
theorem dL_ways_101 : decode cL_ways 101 = .ok (.goto 4, 3) := by decide +kernel
theorem dL_ways_104 : decode cL_ways 104 = .ok (.iconst 0, 1) := by decide +kernel
theorem dL_ways_105 : decode cL_ways 105 = .ok (.iadd, 1) := by decide +kernel
theorem dL_ways_106 : decode cL_ways 106 = .ok (.istore 9, 2) := by decide +kernel
theorem dL_ways_108 : decode cL_ways 108 = .ok (.iload 9, 2) := by decide +kernel
theorem dL_ways_110 : decode cL_ways 110 = .ok (.iload 4, 2) := by decide +kernel
theorem dL_ways_112 : decode cL_ways 112 = .ok (.aload_n 0, 1) := by decide +kernel
theorem dL_ways_113 : decode cL_ways 113 = .ok (.bipush 9, 2) := by decide +kernel
theorem dL_ways_115 : decode cL_ways 115 = .ok (.invokevirtual 10, 3) := by decide +kernel
theorem dL_ways_118 : decode cL_ways 118 = .ok (.iload_n 3, 1) := by decide +kernel
theorem dL_ways_119 : decode cL_ways 119 = .ok (.imul, 1) := by decide +kernel
theorem dL_ways_120 : decode cL_ways 120 = .ok (.if_icmp .lt 7, 3) := by decide +kernel
theorem dL_ways_123 : decode cL_ways 123 = .ok (.iconst 4, 1) := by decide +kernel
theorem dL_ways_124 : decode cL_ways 124 = .ok (.goto 4, 3) := by decide +kernel
theorem dL_ways_127 : decode cL_ways 127 = .ok (.iconst 0, 1) := by decide +kernel
theorem dL_ways_128 : decode cL_ways 128 = .ok (.iadd, 1) := by decide +kernel
theorem dL_ways_129 : decode cL_ways 129 = .ok (.istore 9, 2) := by decide +kernel
theorem dL_ways_131 : decode cL_ways 131 = .ok (.iload 9, 2) := by decide +kernel
theorem dL_ways_133 : decode cL_ways 133 = .ok (.aload_n 0, 1) := by decide +kernel
theorem dL_ways_134 : decode cL_ways 134 = .ok (.iload_n 1, 1) := by decide +kernel
theorem dL_ways_135 : decode cL_ways 135 = .ok (.iconst 3, 1) := by decide +kernel
theorem dL_ways_136 : decode cL_ways 136 = .ok (.invokevirtual 51, 3) := by decide +kernel
theorem dL_ways_139 : decode cL_ways 139 = .ok (.aload_n 0, 1) := by decide +kernel
theorem dL_ways_140 : decode cL_ways 140 = .ok (.iload_n 2, 1) := by decide +kernel
theorem dL_ways_141 : decode cL_ways 141 = .ok (.iconst 3, 1) := by decide +kernel
theorem dL_ways_142 : decode cL_ways 142 = .ok (.invokevirtual 51, 3) := by decide +kernel
theorem dL_ways_145 : decode cL_ways 145 = .ok (.iadd, 1) := by decide +kernel
theorem dL_ways_146 : decode cL_ways 146 = .ok (.ifCond .le 8, 3) := by decide +kernel
theorem dL_ways_149 : decode cL_ways 149 = .ok (.bipush 8, 2) := by decide +kernel
theorem dL_ways_151 : decode cL_ways 151 = .ok (.goto 4, 3) := by decide +kernel
theorem dL_ways_154 : decode cL_ways 154 = .ok (.iconst 0, 1) := by decide +kernel
theorem dL_ways_155 : decode cL_ways 155 = .ok (.iadd, 1) := by decide +kernel
theorem dL_ways_156 : decode cL_ways 156 = .ok (.istore 9, 2) := by decide +kernel
theorem dL_ways_158 : decode cL_ways 158 = .ok (.iconst 0, 1) := by decide +kernel
theorem dL_ways_159 : decode cL_ways 159 = .ok (.istore 10, 2) := by decide +kernel
theorem dL_ways_161 : decode cL_ways 161 = .ok (.iconst 0, 1) := by decide +kernel
theorem dL_ways_162 : decode cL_ways 162 = .ok (.istore 11, 2) := by decide +kernel
theorem dL_ways_164 : decode cL_ways 164 = .ok (.aload_n 0, 1) := by decide +kernel
theorem dL_ways_165 : decode cL_ways 165 = .ok (.iload 11, 2) := by decide +kernel
theorem dL_ways_167 : decode cL_ways 167 = .ok (.iconst 0, 1) := by decide +kernel
theorem dL_ways_168 : decode cL_ways 168 = .ok (.invokevirtual 54, 3) := by decide +kernel
theorem dL_ways_171 : decode cL_ways 171 = .ok (.ifCond .lt 133, 3) := by decide +kernel
theorem dL_ways_174 : decode cL_ways 174 = .ok (.iload 11, 2) := by decide +kernel
theorem dL_ways_176 : decode cL_ways 176 = .ok (.bipush 12, 2) := by decide +kernel
theorem dL_ways_178 : decode cL_ways 178 = .ok (.if_icmp .ge 126, 3) := by decide +kernel
theorem dL_ways_181 : decode cL_ways 181 = .ok (.aload_n 0, 1) := by decide +kernel
theorem dL_ways_182 : decode cL_ways 182 = .ok (.iload 11, 2) := by decide +kernel
theorem dL_ways_184 : decode cL_ways 184 = .ok (.iconst 2, 1) := by decide +kernel
theorem dL_ways_185 : decode cL_ways 185 = .ok (.invokevirtual 54, 3) := by decide +kernel
theorem dL_ways_188 : decode cL_ways 188 = .ok (.istore 12, 2) := by decide +kernel
theorem dL_ways_190 : decode cL_ways 190 = .ok (.aload_n 0, 1) := by decide +kernel
theorem dL_ways_191 : decode cL_ways 191 = .ok (.iload 11, 2) := by decide +kernel
theorem dL_ways_193 : decode cL_ways 193 = .ok (.iconst 0, 1) := by decide +kernel
theorem dL_ways_194 : decode cL_ways 194 = .ok (.invokevirtual 54, 3) := by decide +kernel
theorem dL_ways_197 : decode cL_ways 197 = .ok (.iconst 1, 1) := by decide +kernel
theorem dL_ways_198 : decode cL_ways 198 = .ok (.if_icmp .ne 14, 3) := by decide +kernel
theorem dL_ways_201 : decode cL_ways 201 = .ok (.iload 12, 2) := by decide +kernel
theorem dL_ways_203 : decode cL_ways 203 = .ok (.iload 5, 2) := by decide +kernel
theorem dL_ways_205 : decode cL_ways 205 = .ok (.if_icmp .eq 7, 3) := by decide +kernel
theorem dL_ways_208 : decode cL_ways 208 = .ok (.iconst 1, 1) := by decide +kernel
theorem dL_ways_209 : decode cL_ways 209 = .ok (.goto 4, 3) := by decide +kernel
theorem dL_ways_212 : decode cL_ways 212 = .ok (.iconst 0, 1) := by decide +kernel
theorem dL_ways_213 : decode cL_ways 213 = .ok (.istore 13, 2) := by decide +kernel
theorem dL_ways_215 : decode cL_ways 215 = .ok (.iload 10, 2) := by decide +kernel
theorem dL_ways_217 : decode cL_ways 217 = .ok (.ifCond .ne 74, 3) := by decide +kernel
theorem dL_ways_220 : decode cL_ways 220 = .ok (.iload 13, 2) := by decide +kernel
theorem dL_ways_222 : decode cL_ways 222 = .ok (.ifCond .eq 73, 3) := by decide +kernel
theorem dL_ways_225 : decode cL_ways 225 = .ok (.aload_n 0, 1) := by decide +kernel
theorem dL_ways_226 : decode cL_ways 226 = .ok (.iconst 0, 1) := by decide +kernel
theorem dL_ways_227 : decode cL_ways 227 = .ok (.invokevirtual 10, 3) := by decide +kernel
theorem dL_ways_230 : decode cL_ways 230 = .ok (.aload_n 0, 1) := by decide +kernel
theorem dL_ways_231 : decode cL_ways 231 = .ok (.iload 11, 2) := by decide +kernel
theorem dL_ways_233 : decode cL_ways 233 = .ok (.iconst 1, 1) := by decide +kernel
theorem dL_ways_234 : decode cL_ways 234 = .ok (.invokevirtual 54, 3) := by decide +kernel
theorem dL_ways_237 : decode cL_ways 237 = .ok (.isub, 1) := by decide +kernel
theorem dL_ways_238 : decode cL_ways 238 = .ok (.aload_n 0, 1) := by decide +kernel
theorem dL_ways_239 : decode cL_ways 239 = .ok (.bipush 12, 2) := by decide +kernel
theorem dL_ways_241 : decode cL_ways 241 = .ok (.invokevirtual 10, 3) := by decide +kernel
theorem dL_ways_244 : decode cL_ways 244 = .ok (.if_icmp .gt 51, 3) := by decide +kernel
theorem dL_ways_247 : decode cL_ways 247 = .ok (.aload_n 0, 1) := by decide +kernel
theorem dL_ways_248 : decode cL_ways 248 = .ok (.iload 12, 2) := by decide +kernel
theorem dL_ways_250 : decode cL_ways 250 = .ok (.iconst 0, 1) := by decide +kernel
theorem dL_ways_251 : decode cL_ways 251 = .ok (.invokevirtual 57, 3) := by decide +kernel
theorem dL_ways_254 : decode cL_ways 254 = .ok (.iload_n 1, 1) := by decide +kernel
theorem dL_ways_255 : decode cL_ways 255 = .ok (.if_icmp .ne 14, 3) := by decide +kernel
theorem dL_ways_258 : decode cL_ways 258 = .ok (.aload_n 0, 1) := by decide +kernel
theorem dL_ways_259 : decode cL_ways 259 = .ok (.iload 12, 2) := by decide +kernel
theorem dL_ways_261 : decode cL_ways 261 = .ok (.iconst 1, 1) := by decide +kernel
theorem dL_ways_262 : decode cL_ways 262 = .ok (.invokevirtual 57, 3) := by decide +kernel
theorem dL_ways_265 : decode cL_ways 265 = .ok (.iload_n 2, 1) := by decide +kernel
theorem dL_ways_266 : decode cL_ways 266 = .ok (.if_icmp .eq 25, 3) := by decide +kernel
theorem dL_ways_269 : decode cL_ways 269 = .ok (.aload_n 0, 1) := by decide +kernel
theorem dL_ways_270 : decode cL_ways 270 = .ok (.iload 12, 2) := by decide +kernel
theorem dL_ways_272 : decode cL_ways 272 = .ok (.iconst 0, 1) := by decide +kernel
theorem dL_ways_273 : decode cL_ways 273 = .ok (.invokevirtual 57, 3) := by decide +kernel
theorem dL_ways_276 : decode cL_ways 276 = .ok (.iload_n 2, 1) := by decide +kernel
theorem dL_ways_277 : decode cL_ways 277 = .ok (.if_icmp .ne 18, 3) := by decide +kernel
theorem dL_ways_280 : decode cL_ways 280 = .ok (.aload_n 0, 1) := by decide +kernel
theorem dL_ways_281 : decode cL_ways 281 = .ok (.iload 12, 2) := by decide +kernel
theorem dL_ways_283 : decode cL_ways 283 = .ok (.iconst 1, 1) := by decide +kernel
theorem dL_ways_284 : decode cL_ways 284 = .ok (.invokevirtual 57, 3) := by decide +kernel
theorem dL_ways_287 : decode cL_ways 287 = .ok (.iload_n 1, 1) := by decide +kernel
theorem dL_ways_288 : decode cL_ways 288 = .ok (.if_icmp .ne 7, 3) := by decide +kernel
theorem dL_ways_291 : decode cL_ways 291 = .ok (.iconst 1, 1) := by decide +kernel
theorem dL_ways_292 : decode cL_ways 292 = .ok (.goto 4, 3) := by decide +kernel
theorem dL_ways_295 : decode cL_ways 295 = .ok (.iconst 0, 1) := by decide +kernel
theorem dL_ways_296 : decode cL_ways 296 = .ok (.istore 10, 2) := by decide +kernel
theorem dL_ways_298 : decode cL_ways 298 = .ok (.iinc 11 1, 3) := by decide +kernel
theorem dL_ways_301 : decode cL_ways 301 = .ok (.goto (-137), 3) := by decide +kernel
theorem dL_ways_304 : decode cL_ways 304 = .ok (.iload 9, 2) := by decide +kernel
theorem dL_ways_306 : decode cL_ways 306 = .ok (.iload 10, 2) := by decide +kernel
theorem dL_ways_308 : decode cL_ways 308 = .ok (.ifCond .eq 8, 3) := by decide +kernel
theorem dL_ways_311 : decode cL_ways 311 = .ok (.bipush 16, 2) := by decide +kernel
theorem dL_ways_313 : decode cL_ways 313 = .ok (.goto 4, 3) := by decide +kernel
theorem dL_ways_316 : decode cL_ways 316 = .ok (.iconst 0, 1) := by decide +kernel
theorem dL_ways_317 : decode cL_ways 317 = .ok (.iadd, 1) := by decide +kernel
theorem dL_ways_318 : decode cL_ways 318 = .ok (.ireturn, 1) := by decide +kernel
theorem dL_areQuarrelsSo_0 : decode cL_areQuarrelsSo 0 = .ok (.iconst 0, 1) := by decide +kernel
theorem dL_areQuarrelsSo_1 : decode cL_areQuarrelsSo 1 = .ok (.istore_n 1, 1) := by decide +kernel
theorem dL_areQuarrelsSo_2 : decode cL_areQuarrelsSo 2 = .ok (.iconst 0, 1) := by decide +kernel
theorem dL_areQuarrelsSo_3 : decode cL_areQuarrelsSo 3 = .ok (.istore_n 2, 1) := by decide +kernel
theorem dL_areQuarrelsSo_4 : decode cL_areQuarrelsSo 4 = .ok (.iconst 0, 1) := by decide +kernel
theorem dL_areQuarrelsSo_5 : decode cL_areQuarrelsSo 5 = .ok (.istore_n 3, 1) := by decide +kernel
theorem dL_areQuarrelsSo_6 : decode cL_areQuarrelsSo 6 = .ok (.iconst 0, 1) := by decide +kernel
theorem dL_areQuarrelsSo_7 : decode cL_areQuarrelsSo 7 = .ok (.istore 4, 2) := by decide +kernel
theorem dL_areQuarrelsSo_9 : decode cL_areQuarrelsSo 9 = .ok (.iconst 1, 1) := by decide +kernel
theorem dL_areQuarrelsSo_10 : decode cL_areQuarrelsSo 10 = .ok (.istore 5, 2) := by decide +kernel
theorem dL_areQuarrelsSo_12 : decode cL_areQuarrelsSo 12 = .ok (.iconst 0, 1) := by decide +kernel
theorem dL_areQuarrelsSo_13 : decode cL_areQuarrelsSo 13 = .ok (.istore 6, 2) := by decide +kernel
theorem dL_areQuarrelsSo_15 : decode cL_areQuarrelsSo 15 = .ok (.iload 6, 2) := by decide +kernel
theorem dL_areQuarrelsSo_17 : decode cL_areQuarrelsSo 17 = .ok (.aload_n 0, 1) := by decide +kernel
theorem dL_areQuarrelsSo_18 : decode cL_areQuarrelsSo 18 = .ok (.iconst 2, 1) := by decide +kernel
theorem dL_areQuarrelsSo_19 : decode cL_areQuarrelsSo 19 = .ok (.invokevirtual 10, 3) := by decide +kernel
theorem dL_areQuarrelsSo_22 : decode cL_areQuarrelsSo 22 = .ok (.if_icmp .ge 478, 3) := by decide +kernel
theorem dL_areQuarrelsSo_25 : decode cL_areQuarrelsSo 25 = .ok (.aload_n 0, 1) := by decide +kernel
theorem dL_areQuarrelsSo_26 : decode cL_areQuarrelsSo 26 = .ok (.iload 6, 2) := by decide +kernel
theorem dL_areQuarrelsSo_28 : decode cL_areQuarrelsSo 28 = .ok (.iconst 4, 1) := by decide +kernel
theorem dL_areQuarrelsSo_29 : decode cL_areQuarrelsSo 29 = .ok (.invokevirtual 57, 3) := by decide +kernel
theorem dL_areQuarrelsSo_32 : decode cL_areQuarrelsSo 32 = .ok (.istore 7, 2) := by decide +kernel
theorem dL_areQuarrelsSo_34 : decode cL_areQuarrelsSo 34 = .ok (.aload_n 0, 1) := by decide +kernel
theorem dL_areQuarrelsSo_35 : decode cL_areQuarrelsSo 35 = .ok (.iload 6, 2) := by decide +kernel
theorem dL_areQuarrelsSo_37 : decode cL_areQuarrelsSo 37 = .ok (.bipush 7, 2) := by decide +kernel
theorem dL_areQuarrelsSo_39 : decode cL_areQuarrelsSo 39 = .ok (.invokevirtual 57, 3) := by decide +kernel
theorem dL_areQuarrelsSo_42 : decode cL_areQuarrelsSo 42 = .ok (.istore 8, 2) := by decide +kernel
theorem dL_areQuarrelsSo_44 : decode cL_areQuarrelsSo 44 = .ok (.aload_n 0, 1) := by decide +kernel
theorem dL_areQuarrelsSo_45 : decode cL_areQuarrelsSo 45 = .ok (.aload_n 0, 1) := by decide +kernel
theorem dL_areQuarrelsSo_46 : decode cL_areQuarrelsSo 46 = .ok (.iload 6, 2) := by decide +kernel
theorem dL_areQuarrelsSo_48 : decode cL_areQuarrelsSo 48 = .ok (.iconst 0, 1) := by decide +kernel
theorem dL_areQuarrelsSo_49 : decode cL_areQuarrelsSo 49 = .ok (.invokevirtual 57, 3) := by decide +kernel
theorem dL_areQuarrelsSo_52 : decode cL_areQuarrelsSo 52 = .ok (.aload_n 0, 1) := by decide +kernel
theorem dL_areQuarrelsSo_53 : decode cL_areQuarrelsSo 53 = .ok (.iload 6, 2) := by decide +kernel
theorem dL_areQuarrelsSo_55 : decode cL_areQuarrelsSo 55 = .ok (.iconst 1, 1) := by decide +kernel
theorem dL_areQuarrelsSo_56 : decode cL_areQuarrelsSo 56 = .ok (.invokevirtual 57, 3) := by decide +kernel
theorem dL_areQuarrelsSo_59 : decode cL_areQuarrelsSo 59 = .ok (.aload_n 0, 1) := by decide +kernel
theorem dL_areQuarrelsSo_60 : decode cL_areQuarrelsSo 60 = .ok (.iload 6, 2) := by decide +kernel
theorem dL_areQuarrelsSo_62 : decode cL_areQuarrelsSo 62 = .ok (.iconst 2, 1) := by decide +kernel
theorem dL_areQuarrelsSo_63 : decode cL_areQuarrelsSo 63 = .ok (.invokevirtual 57, 3) := by decide +kernel
theorem dL_areQuarrelsSo_66 : decode cL_areQuarrelsSo 66 = .ok (.aload_n 0, 1) := by decide +kernel
theorem dL_areQuarrelsSo_67 : decode cL_areQuarrelsSo 67 = .ok (.iload 6, 2) := by decide +kernel
theorem dL_areQuarrelsSo_69 : decode cL_areQuarrelsSo 69 = .ok (.iconst 3, 1) := by decide +kernel
theorem dL_areQuarrelsSo_70 : decode cL_areQuarrelsSo 70 = .ok (.invokevirtual 57, 3) := by decide +kernel
theorem dL_areQuarrelsSo_73 : decode cL_areQuarrelsSo 73 = .ok (.iload 6, 2) := by decide +kernel
theorem dL_areQuarrelsSo_75 : decode cL_areQuarrelsSo 75 = .ok (.invokestatic 60, 3) := by decide +kernel
theorem dL_areQuarrelsSo_78 : decode cL_areQuarrelsSo 78 = .ok (.istore 9, 2) := by decide +kernel
theorem dL_areQuarrelsSo_80 : decode cL_areQuarrelsSo 80 = .ok (.aload_n 0, 1) := by decide +kernel
theorem dL_areQuarrelsSo_81 : decode cL_areQuarrelsSo 81 = .ok (.iload 6, 2) := by decide +kernel
theorem dL_areQuarrelsSo_83 : decode cL_areQuarrelsSo 83 = .ok (.invokevirtual 64, 3) := by decide +kernel
theorem dL_areQuarrelsSo_86 : decode cL_areQuarrelsSo 86 = .ok (.istore 10, 2) := by decide +kernel
theorem dL_areQuarrelsSo_88 : decode cL_areQuarrelsSo 88 = .ok (.iload_n 1, 1) := by decide +kernel
theorem dL_areQuarrelsSo_89 : decode cL_areQuarrelsSo 89 = .ok (.iload 7, 2) := by decide +kernel
theorem dL_areQuarrelsSo_91 : decode cL_areQuarrelsSo 91 = .ok (.ifCond .ne 10, 3) := by decide +kernel
theorem dL_areQuarrelsSo_94 : decode cL_areQuarrelsSo 94 = .ok (.iconst 1, 1) := by decide +kernel
theorem dL_areQuarrelsSo_95 : decode cL_areQuarrelsSo 95 = .ok (.iload 6, 2) := by decide +kernel
theorem dL_areQuarrelsSo_97 : decode cL_areQuarrelsSo 97 = .ok (.ishl, 1) := by decide +kernel
theorem dL_areQuarrelsSo_98 : decode cL_areQuarrelsSo 98 = .ok (.goto 4, 3) := by decide +kernel
theorem dL_areQuarrelsSo_101 : decode cL_areQuarrelsSo 101 = .ok (.iconst 0, 1) := by decide +kernel
theorem dL_areQuarrelsSo_102 : decode cL_areQuarrelsSo 102 = .ok (.ior, 1) := by decide +kernel
theorem dL_areQuarrelsSo_103 : decode cL_areQuarrelsSo 103 = .ok (.istore_n 1, 1) := by decide +kernel
theorem dL_areQuarrelsSo_104 : decode cL_areQuarrelsSo 104 = .ok (.iload_n 3, 1) := by decide +kernel
theorem dL_areQuarrelsSo_105 : decode cL_areQuarrelsSo 105 = .ok (.iload 7, 2) := by decide +kernel
theorem dL_areQuarrelsSo_107 : decode cL_areQuarrelsSo 107 = .ok (.iconst 1, 1) := by decide +kernel
theorem dL_areQuarrelsSo_108 : decode cL_areQuarrelsSo 108 = .ok (.if_icmp .ne 7, 3) := by decide +kernel
theorem dL_areQuarrelsSo_111 : decode cL_areQuarrelsSo 111 = .ok (.iconst 1, 1) := by decide +kernel
theorem dL_areQuarrelsSo_112 : decode cL_areQuarrelsSo 112 = .ok (.goto 4, 3) := by decide +kernel
theorem dL_areQuarrelsSo_115 : decode cL_areQuarrelsSo 115 = .ok (.iconst 0, 1) := by decide +kernel
theorem dL_areQuarrelsSo_116 : decode cL_areQuarrelsSo 116 = .ok (.iadd, 1) := by decide +kernel
theorem dL_areQuarrelsSo_117 : decode cL_areQuarrelsSo 117 = .ok (.istore_n 3, 1) := by decide +kernel
theorem dL_areQuarrelsSo_118 : decode cL_areQuarrelsSo 118 = .ok (.iload 4, 2) := by decide +kernel
theorem dL_areQuarrelsSo_120 : decode cL_areQuarrelsSo 120 = .ok (.iload 7, 2) := by decide +kernel
theorem dL_areQuarrelsSo_122 : decode cL_areQuarrelsSo 122 = .ok (.iconst 2, 1) := by decide +kernel
theorem dL_areQuarrelsSo_123 : decode cL_areQuarrelsSo 123 = .ok (.if_icmp .ne 7, 3) := by decide +kernel
theorem dL_areQuarrelsSo_126 : decode cL_areQuarrelsSo 126 = .ok (.iconst 1, 1) := by decide +kernel
theorem dL_areQuarrelsSo_127 : decode cL_areQuarrelsSo 127 = .ok (.goto 4, 3) := by decide +kernel
theorem dL_areQuarrelsSo_130 : decode cL_areQuarrelsSo 130 = .ok (.iconst 0, 1) := by decide +kernel
theorem dL_areQuarrelsSo_131 : decode cL_areQuarrelsSo 131 = .ok (.iadd, 1) := by decide +kernel
theorem dL_areQuarrelsSo_132 : decode cL_areQuarrelsSo 132 = .ok (.istore 4, 2) := by decide +kernel
theorem dL_areQuarrelsSo_134 : decode cL_areQuarrelsSo 134 = .ok (.iload 5, 2) := by decide +kernel
theorem dL_areQuarrelsSo_136 : decode cL_areQuarrelsSo 136 = .ok (.ifCond .eq 78, 3) := by decide +kernel
theorem dL_areQuarrelsSo_139 : decode cL_areQuarrelsSo 139 = .ok (.iload 7, 2) := by decide +kernel
theorem dL_areQuarrelsSo_141 : decode cL_areQuarrelsSo 141 = .ok (.ifCond .ne 64, 3) := by decide +kernel
theorem dL_areQuarrelsSo_144 : decode cL_areQuarrelsSo 144 = .ok (.iload 8, 2) := by decide +kernel
theorem dL_areQuarrelsSo_146 : decode cL_areQuarrelsSo 146 = .ok (.bipush 15, 2) := by decide +kernel
theorem dL_areQuarrelsSo_148 : decode cL_areQuarrelsSo 148 = .ok (.iand, 1) := by decide +kernel
theorem dL_areQuarrelsSo_149 : decode cL_areQuarrelsSo 149 = .ok (.iload 9, 2) := by decide +kernel
theorem dL_areQuarrelsSo_151 : decode cL_areQuarrelsSo 151 = .ok (.aload_n 0, 1) := by decide +kernel
theorem dL_areQuarrelsSo_152 : decode cL_areQuarrelsSo 152 = .ok (.bipush 7, 2) := by decide +kernel
theorem dL_areQuarrelsSo_154 : decode cL_areQuarrelsSo 154 = .ok (.invokevirtual 10, 3) := by decide +kernel
theorem dL_areQuarrelsSo_157 : decode cL_areQuarrelsSo 157 = .ok (.iand, 1) := by decide +kernel
theorem dL_areQuarrelsSo_158 : decode cL_areQuarrelsSo 158 = .ok (.bipush 15, 2) := by decide +kernel
theorem dL_areQuarrelsSo_160 : decode cL_areQuarrelsSo 160 = .ok (.iand, 1) := by decide +kernel
theorem dL_areQuarrelsSo_161 : decode cL_areQuarrelsSo 161 = .ok (.if_icmp .ne 53, 3) := by decide +kernel
theorem dL_areQuarrelsSo_164 : decode cL_areQuarrelsSo 164 = .ok (.iload 8, 2) := by decide +kernel
theorem dL_areQuarrelsSo_166 : decode cL_areQuarrelsSo 166 = .ok (.bipush 16, 2) := by decide +kernel
theorem dL_areQuarrelsSo_168 : decode cL_areQuarrelsSo 168 = .ok (.iand, 1) := by decide +kernel
theorem dL_areQuarrelsSo_169 : decode cL_areQuarrelsSo 169 = .ok (.iload 9, 2) := by decide +kernel
theorem dL_areQuarrelsSo_171 : decode cL_areQuarrelsSo 171 = .ok (.aload_n 0, 1) := by decide +kernel
theorem dL_areQuarrelsSo_172 : decode cL_areQuarrelsSo 172 = .ok (.bipush 7, 2) := by decide +kernel
theorem dL_areQuarrelsSo_174 : decode cL_areQuarrelsSo 174 = .ok (.invokevirtual 10, 3) := by decide +kernel
theorem dL_areQuarrelsSo_177 : decode cL_areQuarrelsSo 177 = .ok (.iand, 1) := by decide +kernel
theorem dL_areQuarrelsSo_178 : decode cL_areQuarrelsSo 178 = .ok (.bipush 16, 2) := by decide +kernel
theorem dL_areQuarrelsSo_180 : decode cL_areQuarrelsSo 180 = .ok (.iand, 1) := by decide +kernel
theorem dL_areQuarrelsSo_181 : decode cL_areQuarrelsSo 181 = .ok (.if_icmp .lt 33, 3) := by decide +kernel
theorem dL_areQuarrelsSo_184 : decode cL_areQuarrelsSo 184 = .ok (.iload 8, 2) := by decide +kernel
theorem dL_areQuarrelsSo_186 : decode cL_areQuarrelsSo 186 = .ok (.bipush 16, 2) := by decide +kernel
theorem dL_areQuarrelsSo_188 : decode cL_areQuarrelsSo 188 = .ok (.iand, 1) := by decide +kernel
theorem dL_areQuarrelsSo_189 : decode cL_areQuarrelsSo 189 = .ok (.bipush 31, 2) := by decide +kernel
theorem dL_areQuarrelsSo_191 : decode cL_areQuarrelsSo 191 = .ok (.aload_n 0, 1) := by decide +kernel
theorem dL_areQuarrelsSo_192 : decode cL_areQuarrelsSo 192 = .ok (.bipush 7, 2) := by decide +kernel
theorem dL_areQuarrelsSo_194 : decode cL_areQuarrelsSo 194 = .ok (.invokevirtual 10, 3) := by decide +kernel
theorem dL_areQuarrelsSo_197 : decode cL_areQuarrelsSo 197 = .ok (.isub, 1) := by decide +kernel
theorem dL_areQuarrelsSo_198 : decode cL_areQuarrelsSo 198 = .ok (.iand, 1) := by decide +kernel
theorem dL_areQuarrelsSo_199 : decode cL_areQuarrelsSo 199 = .ok (.ifCond .ne 15, 3) := by decide +kernel
theorem dL_areQuarrelsSo_202 : decode cL_areQuarrelsSo 202 = .ok (.goto 8, 3) := by decide +kernel
theorem dL_areQuarrelsSo_205 : decode cL_areQuarrelsSo 205 = .ok (.iload 8, 2) := by decide +kernel
theorem dL_areQuarrelsSo_207 : decode cL_areQuarrelsSo 207 = .ok (.ifCond .ne 7, 3) := by decide +kernel
theorem dL_areQuarrelsSo_210 : decode cL_areQuarrelsSo 210 = .ok (.iconst 1, 1) := by decide +kernel
theorem dL_areQuarrelsSo_211 : decode cL_areQuarrelsSo 211 = .ok (.goto 4, 3) := by decide +kernel
theorem dL_areQuarrelsSo_214 : decode cL_areQuarrelsSo 214 = .ok (.iconst 0, 1) := by decide +kernel
theorem dL_areQuarrelsSo_215 : decode cL_areQuarrelsSo 215 = .ok (.istore 5, 2) := by decide +kernel
theorem dL_areQuarrelsSo_217 : decode cL_areQuarrelsSo 217 = .ok (.iload 7, 2) := by decide +kernel
theorem dL_areQuarrelsSo_219 : decode cL_areQuarrelsSo 219 = .ok (.ifCond .eq 7, 3) := by decide +kernel
theorem dL_areQuarrelsSo_222 : decode cL_areQuarrelsSo 222 = .ok (.iconst 1, 1) := by decide +kernel
theorem dL_areQuarrelsSo_223 : decode cL_areQuarrelsSo 223 = .ok (.goto 33, 3) := by decide +kernel
theorem dL_areQuarrelsSo_226 : decode cL_areQuarrelsSo 226 = .ok (.iload 8, 2) := by decide +kernel
theorem dL_areQuarrelsSo_228 : decode cL_areQuarrelsSo 228 = .ok (.ifCond .eq 7, 3) := by decide +kernel
theorem dL_areQuarrelsSo_231 : decode cL_areQuarrelsSo 231 = .ok (.iconst 2, 1) := by decide +kernel
theorem dL_areQuarrelsSo_232 : decode cL_areQuarrelsSo 232 = .ok (.goto 24, 3) := by decide +kernel
theorem dL_areQuarrelsSo_235 : decode cL_areQuarrelsSo 235 = .ok (.aload_n 0, 1) := by decide +kernel
theorem dL_areQuarrelsSo_236 : decode cL_areQuarrelsSo 236 = .ok (.iload 6, 2) := by decide +kernel
theorem dL_areQuarrelsSo_238 : decode cL_areQuarrelsSo 238 = .ok (.iconst 3, 1) := by decide +kernel
theorem dL_areQuarrelsSo_239 : decode cL_areQuarrelsSo 239 = .ok (.invokevirtual 57, 3) := by decide +kernel
theorem dL_areQuarrelsSo_242 : decode cL_areQuarrelsSo 242 = .ok (.aload_n 0, 1) := by decide +kernel
theorem dL_areQuarrelsSo_243 : decode cL_areQuarrelsSo 243 = .ok (.bipush 10, 2) := by decide +kernel
theorem dL_areQuarrelsSo_245 : decode cL_areQuarrelsSo 245 = .ok (.invokevirtual 10, 3) := by decide +kernel
theorem dL_areQuarrelsSo_248 : decode cL_areQuarrelsSo 248 = .ok (.if_icmp .ge 7, 3) := by decide +kernel
theorem dL_areQuarrelsSo_251 : decode cL_areQuarrelsSo 251 = .ok (.iconst 3, 1) := by decide +kernel
theorem dL_areQuarrelsSo_252 : decode cL_areQuarrelsSo 252 = .ok (.goto 4, 3) := by decide +kernel
theorem dL_areQuarrelsSo_255 : decode cL_areQuarrelsSo 255 = .ok (.iconst 0, 1) := by decide +kernel
theorem dL_areQuarrelsSo_256 : decode cL_areQuarrelsSo 256 = .ok (.istore 11, 2) := by decide +kernel
theorem dL_areQuarrelsSo_258 : decode cL_areQuarrelsSo 258 = .ok (.iload_n 2, 1) := by decide +kernel
theorem dL_areQuarrelsSo_259 : decode cL_areQuarrelsSo 259 = .ok (.iload 11, 2) := by decide +kernel
theorem dL_areQuarrelsSo_261 : decode cL_areQuarrelsSo 261 = .ok (.ifCond .ne 10, 3) := by decide +kernel
theorem dL_areQuarrelsSo_264 : decode cL_areQuarrelsSo 264 = .ok (.iconst 1, 1) := by decide +kernel
theorem dL_areQuarrelsSo_265 : decode cL_areQuarrelsSo 265 = .ok (.iload 6, 2) := by decide +kernel
theorem dL_areQuarrelsSo_267 : decode cL_areQuarrelsSo 267 = .ok (.ishl, 1) := by decide +kernel
theorem dL_areQuarrelsSo_268 : decode cL_areQuarrelsSo 268 = .ok (.goto 4, 3) := by decide +kernel
theorem dL_areQuarrelsSo_271 : decode cL_areQuarrelsSo 271 = .ok (.iconst 0, 1) := by decide +kernel
theorem dL_areQuarrelsSo_272 : decode cL_areQuarrelsSo 272 = .ok (.ior, 1) := by decide +kernel
theorem dL_areQuarrelsSo_273 : decode cL_areQuarrelsSo 273 = .ok (.istore_n 2, 1) := by decide +kernel
theorem dL_areQuarrelsSo_274 : decode cL_areQuarrelsSo 274 = .ok (.iload 5, 2) := by decide +kernel
theorem dL_areQuarrelsSo_276 : decode cL_areQuarrelsSo 276 = .ok (.ifCond .eq 77, 3) := by decide +kernel
theorem dL_areQuarrelsSo_279 : decode cL_areQuarrelsSo 279 = .ok (.aload_n 0, 1) := by decide +kernel
theorem dL_areQuarrelsSo_280 : decode cL_areQuarrelsSo 280 = .ok (.iload 6, 2) := by decide +kernel
theorem dL_areQuarrelsSo_282 : decode cL_areQuarrelsSo 282 = .ok (.invokevirtual 67, 3) := by decide +kernel
theorem dL_areQuarrelsSo_285 : decode cL_areQuarrelsSo 285 = .ok (.iload 11, 2) := by decide +kernel
theorem dL_areQuarrelsSo_287 : decode cL_areQuarrelsSo 287 = .ok (.if_icmp .ne 66, 3) := by decide +kernel
theorem dL_areQuarrelsSo_290 : decode cL_areQuarrelsSo 290 = .ok (.iload 7, 2) := by decide +kernel
theorem dL_areQuarrelsSo_292 : decode cL_areQuarrelsSo 292 = .ok (.iconst 1, 1) := by decide +kernel
theorem dL_areQuarrelsSo_293 : decode cL_areQuarrelsSo 293 = .ok (.if_icmp .ne 7, 3) := by decide +kernel
theorem dL_areQuarrelsSo_296 : decode cL_areQuarrelsSo 296 = .ok (.iconst 1, 1) := by decide +kernel
theorem dL_areQuarrelsSo_297 : decode cL_areQuarrelsSo 297 = .ok (.goto 4, 3) := by decide +kernel
theorem dL_areQuarrelsSo_300 : decode cL_areQuarrelsSo 300 = .ok (.iconst 0, 1) := by decide +kernel
theorem dL_areQuarrelsSo_301 : decode cL_areQuarrelsSo 301 = .ok (.aload_n 0, 1) := by decide +kernel
theorem dL_areQuarrelsSo_302 : decode cL_areQuarrelsSo 302 = .ok (.iload 6, 2) := by decide +kernel
theorem dL_areQuarrelsSo_304 : decode cL_areQuarrelsSo 304 = .ok (.iconst 5, 1) := by decide +kernel
theorem dL_areQuarrelsSo_305 : decode cL_areQuarrelsSo 305 = .ok (.invokevirtual 57, 3) := by decide +kernel
theorem dL_areQuarrelsSo_308 : decode cL_areQuarrelsSo 308 = .ok (.ifCond .lt 7, 3) := by decide +kernel
theorem dL_areQuarrelsSo_311 : decode cL_areQuarrelsSo 311 = .ok (.iconst 1, 1) := by decide +kernel
theorem dL_areQuarrelsSo_312 : decode cL_areQuarrelsSo 312 = .ok (.goto 4, 3) := by decide +kernel
theorem dL_areQuarrelsSo_315 : decode cL_areQuarrelsSo 315 = .ok (.iconst 0, 1) := by decide +kernel
theorem dL_areQuarrelsSo_316 : decode cL_areQuarrelsSo 316 = .ok (.if_icmp .ne 37, 3) := by decide +kernel
theorem dL_areQuarrelsSo_319 : decode cL_areQuarrelsSo 319 = .ok (.iload 7, 2) := by decide +kernel
theorem dL_areQuarrelsSo_321 : decode cL_areQuarrelsSo 321 = .ok (.iconst 2, 1) := by decide +kernel
theorem dL_areQuarrelsSo_322 : decode cL_areQuarrelsSo 322 = .ok (.if_icmp .ne 7, 3) := by decide +kernel
theorem dL_areQuarrelsSo_325 : decode cL_areQuarrelsSo 325 = .ok (.iconst 1, 1) := by decide +kernel
theorem dL_areQuarrelsSo_326 : decode cL_areQuarrelsSo 326 = .ok (.goto 4, 3) := by decide +kernel
theorem dL_areQuarrelsSo_329 : decode cL_areQuarrelsSo 329 = .ok (.iconst 0, 1) := by decide +kernel
theorem dL_areQuarrelsSo_330 : decode cL_areQuarrelsSo 330 = .ok (.aload_n 0, 1) := by decide +kernel
theorem dL_areQuarrelsSo_331 : decode cL_areQuarrelsSo 331 = .ok (.iload 6, 2) := by decide +kernel
theorem dL_areQuarrelsSo_333 : decode cL_areQuarrelsSo 333 = .ok (.bipush 6, 2) := by decide +kernel
theorem dL_areQuarrelsSo_335 : decode cL_areQuarrelsSo 335 = .ok (.invokevirtual 57, 3) := by decide +kernel
theorem dL_areQuarrelsSo_338 : decode cL_areQuarrelsSo 338 = .ok (.ifCond .lt 7, 3) := by decide +kernel
theorem dL_areQuarrelsSo_341 : decode cL_areQuarrelsSo 341 = .ok (.iconst 1, 1) := by decide +kernel
theorem dL_areQuarrelsSo_342 : decode cL_areQuarrelsSo 342 = .ok (.goto 4, 3) := by decide +kernel
theorem dL_areQuarrelsSo_345 : decode cL_areQuarrelsSo 345 = .ok (.iconst 0, 1) := by decide +kernel
theorem dL_areQuarrelsSo_346 : decode cL_areQuarrelsSo 346 = .ok (.if_icmp .ne 7, 3) := by decide +kernel
theorem dL_areQuarrelsSo_349 : decode cL_areQuarrelsSo 349 = .ok (.iconst 1, 1) := by decide +kernel
theorem dL_areQuarrelsSo_350 : decode cL_areQuarrelsSo 350 = .ok (.goto 4, 3) := by decide +kernel
theorem dL_areQuarrelsSo_353 : decode cL_areQuarrelsSo 353 = .ok (.iconst 0, 1) := by decide +kernel
theorem dL_areQuarrelsSo_354 : decode cL_areQuarrelsSo 354 = .ok (.istore 5, 2) := by decide +kernel
theorem dL_areQuarrelsSo_356 : decode cL_areQuarrelsSo 356 = .ok (.iload 5, 2) := by decide +kernel
theorem dL_areQuarrelsSo_358 : decode cL_areQuarrelsSo 358 = .ok (.ifCond .eq 50, 3) := by decide +kernel
theorem dL_areQuarrelsSo_361 : decode cL_areQuarrelsSo 361 = .ok (.iload 8, 2) := by decide +kernel
theorem dL_areQuarrelsSo_363 : decode cL_areQuarrelsSo 363 = .ok (.ifCond .ne 13, 3) := by decide +kernel
theorem dL_areQuarrelsSo_366 : decode cL_areQuarrelsSo 366 = .ok (.iload 10, 2) := by decide +kernel
theorem dL_areQuarrelsSo_368 : decode cL_areQuarrelsSo 368 = .ok (.bipush (-6), 2) := by decide +kernel
theorem dL_areQuarrelsSo_370 : decode cL_areQuarrelsSo 370 = .ok (.if_icmp .ne 38, 3) := by decide +kernel
theorem dL_areQuarrelsSo_373 : decode cL_areQuarrelsSo 373 = .ok (.goto 31, 3) := by decide +kernel
theorem dL_areQuarrelsSo_376 : decode cL_areQuarrelsSo 376 = .ok (.iload 10, 2) := by decide +kernel
theorem dL_areQuarrelsSo_378 : decode cL_areQuarrelsSo 378 = .ok (.ifCond .lt 30, 3) := by decide +kernel
theorem dL_areQuarrelsSo_381 : decode cL_areQuarrelsSo 381 = .ok (.iload 8, 2) := by decide +kernel
theorem dL_areQuarrelsSo_383 : decode cL_areQuarrelsSo 383 = .ok (.iload 10, 2) := by decide +kernel
theorem dL_areQuarrelsSo_385 : decode cL_areQuarrelsSo 385 = .ok (.ishr, 1) := by decide +kernel
theorem dL_areQuarrelsSo_386 : decode cL_areQuarrelsSo 386 = .ok (.iconst 1, 1) := by decide +kernel
theorem dL_areQuarrelsSo_387 : decode cL_areQuarrelsSo 387 = .ok (.iand, 1) := by decide +kernel
theorem dL_areQuarrelsSo_388 : decode cL_areQuarrelsSo 388 = .ok (.iconst 1, 1) := by decide +kernel
theorem dL_areQuarrelsSo_389 : decode cL_areQuarrelsSo 389 = .ok (.if_icmp .ne 19, 3) := by decide +kernel
theorem dL_areQuarrelsSo_392 : decode cL_areQuarrelsSo 392 = .ok (.iload 8, 2) := by decide +kernel
theorem dL_areQuarrelsSo_394 : decode cL_areQuarrelsSo 394 = .ok (.iconst 1, 1) := by decide +kernel
theorem dL_areQuarrelsSo_395 : decode cL_areQuarrelsSo 395 = .ok (.iload 10, 2) := by decide +kernel
theorem dL_areQuarrelsSo_397 : decode cL_areQuarrelsSo 397 = .ok (.ishl, 1) := by decide +kernel
theorem dL_areQuarrelsSo_398 : decode cL_areQuarrelsSo 398 = .ok (.iconst 1, 1) := by decide +kernel
theorem dL_areQuarrelsSo_399 : decode cL_areQuarrelsSo 399 = .ok (.isub, 1) := by decide +kernel
theorem dL_areQuarrelsSo_400 : decode cL_areQuarrelsSo 400 = .ok (.iand, 1) := by decide +kernel
theorem dL_areQuarrelsSo_401 : decode cL_areQuarrelsSo 401 = .ok (.ifCond .ne 7, 3) := by decide +kernel
theorem dL_areQuarrelsSo_404 : decode cL_areQuarrelsSo 404 = .ok (.iconst 1, 1) := by decide +kernel
theorem dL_areQuarrelsSo_405 : decode cL_areQuarrelsSo 405 = .ok (.goto 4, 3) := by decide +kernel
theorem dL_areQuarrelsSo_408 : decode cL_areQuarrelsSo 408 = .ok (.iconst 0, 1) := by decide +kernel
theorem dL_areQuarrelsSo_409 : decode cL_areQuarrelsSo 409 = .ok (.istore 5, 2) := by decide +kernel
theorem dL_areQuarrelsSo_411 : decode cL_areQuarrelsSo 411 = .ok (.aload_n 0, 1) := by decide +kernel
theorem dL_areQuarrelsSo_412 : decode cL_areQuarrelsSo 412 = .ok (.iload 6, 2) := by decide +kernel
theorem dL_areQuarrelsSo_414 : decode cL_areQuarrelsSo 414 = .ok (.iconst 0, 1) := by decide +kernel
theorem dL_areQuarrelsSo_415 : decode cL_areQuarrelsSo 415 = .ok (.invokevirtual 57, 3) := by decide +kernel
theorem dL_areQuarrelsSo_418 : decode cL_areQuarrelsSo 418 = .ok (.istore 12, 2) := by decide +kernel
theorem dL_areQuarrelsSo_420 : decode cL_areQuarrelsSo 420 = .ok (.aload_n 0, 1) := by decide +kernel
theorem dL_areQuarrelsSo_421 : decode cL_areQuarrelsSo 421 = .ok (.iload 6, 2) := by decide +kernel
theorem dL_areQuarrelsSo_423 : decode cL_areQuarrelsSo 423 = .ok (.iconst 1, 1) := by decide +kernel
theorem dL_areQuarrelsSo_424 : decode cL_areQuarrelsSo 424 = .ok (.invokevirtual 57, 3) := by decide +kernel
theorem dL_areQuarrelsSo_427 : decode cL_areQuarrelsSo 427 = .ok (.istore 13, 2) := by decide +kernel
theorem dL_areQuarrelsSo_429 : decode cL_areQuarrelsSo 429 = .ok (.iload 5, 2) := by decide +kernel
theorem dL_areQuarrelsSo_431 : decode cL_areQuarrelsSo 431 = .ok (.ifCond .eq 60, 3) := by decide +kernel
theorem dL_areQuarrelsSo_434 : decode cL_areQuarrelsSo 434 = .ok (.aload_n 0, 1) := by decide +kernel
theorem dL_areQuarrelsSo_435 : decode cL_areQuarrelsSo 435 = .ok (.iload 6, 2) := by decide +kernel
theorem dL_areQuarrelsSo_437 : decode cL_areQuarrelsSo 437 = .ok (.invokevirtual 70, 3) := by decide +kernel
theorem dL_areQuarrelsSo_440 : decode cL_areQuarrelsSo 440 = .ok (.iconst 2, 1) := by decide +kernel
theorem dL_areQuarrelsSo_441 : decode cL_areQuarrelsSo 441 = .ok (.aload_n 0, 1) := by decide +kernel
theorem dL_areQuarrelsSo_442 : decode cL_areQuarrelsSo 442 = .ok (.iload 12, 2) := by decide +kernel
theorem dL_areQuarrelsSo_444 : decode cL_areQuarrelsSo 444 = .ok (.iconst 1, 1) := by decide +kernel
theorem dL_areQuarrelsSo_445 : decode cL_areQuarrelsSo 445 = .ok (.invokevirtual 51, 3) := by decide +kernel
theorem dL_areQuarrelsSo_448 : decode cL_areQuarrelsSo 448 = .ok (.imul, 1) := by decide +kernel
theorem dL_areQuarrelsSo_449 : decode cL_areQuarrelsSo 449 = .ok (.aload_n 0, 1) := by decide +kernel
theorem dL_areQuarrelsSo_450 : decode cL_areQuarrelsSo 450 = .ok (.iload 12, 2) := by decide +kernel
theorem dL_areQuarrelsSo_452 : decode cL_areQuarrelsSo 452 = .ok (.iconst 0, 1) := by decide +kernel
theorem dL_areQuarrelsSo_453 : decode cL_areQuarrelsSo 453 = .ok (.invokevirtual 51, 3) := by decide +kernel
theorem dL_areQuarrelsSo_456 : decode cL_areQuarrelsSo 456 = .ok (.iadd, 1) := by decide +kernel
theorem dL_areQuarrelsSo_457 : decode cL_areQuarrelsSo 457 = .ok (.iconst 2, 1) := by decide +kernel
theorem dL_areQuarrelsSo_458 : decode cL_areQuarrelsSo 458 = .ok (.aload_n 0, 1) := by decide +kernel
theorem dL_areQuarrelsSo_459 : decode cL_areQuarrelsSo 459 = .ok (.iload 13, 2) := by decide +kernel
theorem dL_areQuarrelsSo_461 : decode cL_areQuarrelsSo 461 = .ok (.iconst 1, 1) := by decide +kernel
theorem dL_areQuarrelsSo_462 : decode cL_areQuarrelsSo 462 = .ok (.invokevirtual 51, 3) := by decide +kernel
theorem dL_areQuarrelsSo_465 : decode cL_areQuarrelsSo 465 = .ok (.imul, 1) := by decide +kernel
theorem dL_areQuarrelsSo_466 : decode cL_areQuarrelsSo 466 = .ok (.aload_n 0, 1) := by decide +kernel
theorem dL_areQuarrelsSo_467 : decode cL_areQuarrelsSo 467 = .ok (.iload 13, 2) := by decide +kernel
theorem dL_areQuarrelsSo_469 : decode cL_areQuarrelsSo 469 = .ok (.iconst 0, 1) := by decide +kernel
theorem dL_areQuarrelsSo_470 : decode cL_areQuarrelsSo 470 = .ok (.invokevirtual 51, 3) := by decide +kernel
theorem dL_areQuarrelsSo_473 : decode cL_areQuarrelsSo 473 = .ok (.iadd, 1) := by decide +kernel
theorem dL_areQuarrelsSo_474 : decode cL_areQuarrelsSo 474 = .ok (.if_icmp .le 8, 3) := by decide +kernel
theorem dL_areQuarrelsSo_477 : decode cL_areQuarrelsSo 477 = .ok (.iload 12, 2) := by decide +kernel
theorem dL_areQuarrelsSo_479 : decode cL_areQuarrelsSo 479 = .ok (.goto 5, 3) := by decide +kernel
theorem dL_areQuarrelsSo_482 : decode cL_areQuarrelsSo 482 = .ok (.iload 13, 2) := by decide +kernel
theorem dL_areQuarrelsSo_484 : decode cL_areQuarrelsSo 484 = .ok (.if_icmp .ne 7, 3) := by decide +kernel
theorem dL_areQuarrelsSo_487 : decode cL_areQuarrelsSo 487 = .ok (.iconst 1, 1) := by decide +kernel
theorem dL_areQuarrelsSo_488 : decode cL_areQuarrelsSo 488 = .ok (.goto 4, 3) := by decide +kernel
theorem dL_areQuarrelsSo_491 : decode cL_areQuarrelsSo 491 = .ok (.iconst 0, 1) := by decide +kernel
theorem dL_areQuarrelsSo_492 : decode cL_areQuarrelsSo 492 = .ok (.istore 5, 2) := by decide +kernel
theorem dL_areQuarrelsSo_494 : decode cL_areQuarrelsSo 494 = .ok (.iinc 6 1, 3) := by decide +kernel
theorem dL_areQuarrelsSo_497 : decode cL_areQuarrelsSo 497 = .ok (.goto (-482), 3) := by decide +kernel
theorem dL_areQuarrelsSo_500 : decode cL_areQuarrelsSo 500 = .ok (.iload 5, 2) := by decide +kernel
theorem dL_areQuarrelsSo_502 : decode cL_areQuarrelsSo 502 = .ok (.ifCond .eq 62, 3) := by decide +kernel
theorem dL_areQuarrelsSo_505 : decode cL_areQuarrelsSo 505 = .ok (.iload_n 1, 1) := by decide +kernel
theorem dL_areQuarrelsSo_506 : decode cL_areQuarrelsSo 506 = .ok (.aload_n 0, 1) := by decide +kernel
theorem dL_areQuarrelsSo_507 : decode cL_areQuarrelsSo 507 = .ok (.iconst 3, 1) := by decide +kernel
theorem dL_areQuarrelsSo_508 : decode cL_areQuarrelsSo 508 = .ok (.invokevirtual 10, 3) := by decide +kernel
theorem dL_areQuarrelsSo_511 : decode cL_areQuarrelsSo 511 = .ok (.if_icmp .ne 53, 3) := by decide +kernel
theorem dL_areQuarrelsSo_514 : decode cL_areQuarrelsSo 514 = .ok (.iload_n 2, 1) := by decide +kernel
theorem dL_areQuarrelsSo_515 : decode cL_areQuarrelsSo 515 = .ok (.aload_n 0, 1) := by decide +kernel
theorem dL_areQuarrelsSo_516 : decode cL_areQuarrelsSo 516 = .ok (.iconst 4, 1) := by decide +kernel
theorem dL_areQuarrelsSo_517 : decode cL_areQuarrelsSo 517 = .ok (.invokevirtual 10, 3) := by decide +kernel
theorem dL_areQuarrelsSo_520 : decode cL_areQuarrelsSo 520 = .ok (.if_icmp .ne 44, 3) := by decide +kernel
theorem dL_areQuarrelsSo_523 : decode cL_areQuarrelsSo 523 = .ok (.iload_n 3, 1) := by decide +kernel
theorem dL_areQuarrelsSo_524 : decode cL_areQuarrelsSo 524 = .ok (.aload_n 0, 1) := by decide +kernel
theorem dL_areQuarrelsSo_525 : decode cL_areQuarrelsSo 525 = .ok (.iconst 5, 1) := by decide +kernel
theorem dL_areQuarrelsSo_526 : decode cL_areQuarrelsSo 526 = .ok (.invokevirtual 10, 3) := by decide +kernel
theorem dL_areQuarrelsSo_529 : decode cL_areQuarrelsSo 529 = .ok (.if_icmp .ne 35, 3) := by decide +kernel
theorem dL_areQuarrelsSo_532 : decode cL_areQuarrelsSo 532 = .ok (.iload 4, 2) := by decide +kernel
theorem dL_areQuarrelsSo_534 : decode cL_areQuarrelsSo 534 = .ok (.aload_n 0, 1) := by decide +kernel
theorem dL_areQuarrelsSo_535 : decode cL_areQuarrelsSo 535 = .ok (.bipush 6, 2) := by decide +kernel
theorem dL_areQuarrelsSo_537 : decode cL_areQuarrelsSo 537 = .ok (.invokevirtual 10, 3) := by decide +kernel
theorem dL_areQuarrelsSo_540 : decode cL_areQuarrelsSo 540 = .ok (.if_icmp .ne 24, 3) := by decide +kernel
theorem dL_areQuarrelsSo_543 : decode cL_areQuarrelsSo 543 = .ok (.iload_n 1, 1) := by decide +kernel
theorem dL_areQuarrelsSo_544 : decode cL_areQuarrelsSo 544 = .ok (.invokestatic 73, 3) := by decide +kernel
theorem dL_areQuarrelsSo_547 : decode cL_areQuarrelsSo 547 = .ok (.iload_n 3, 1) := by decide +kernel
theorem dL_areQuarrelsSo_548 : decode cL_areQuarrelsSo 548 = .ok (.iadd, 1) := by decide +kernel
theorem dL_areQuarrelsSo_549 : decode cL_areQuarrelsSo 549 = .ok (.iload 4, 2) := by decide +kernel
theorem dL_areQuarrelsSo_551 : decode cL_areQuarrelsSo 551 = .ok (.iadd, 1) := by decide +kernel
theorem dL_areQuarrelsSo_552 : decode cL_areQuarrelsSo 552 = .ok (.aload_n 0, 1) := by decide +kernel
theorem dL_areQuarrelsSo_553 : decode cL_areQuarrelsSo 553 = .ok (.iconst 2, 1) := by decide +kernel
theorem dL_areQuarrelsSo_554 : decode cL_areQuarrelsSo 554 = .ok (.invokevirtual 10, 3) := by decide +kernel
theorem dL_areQuarrelsSo_557 : decode cL_areQuarrelsSo 557 = .ok (.if_icmp .ne 7, 3) := by decide +kernel
theorem dL_areQuarrelsSo_560 : decode cL_areQuarrelsSo 560 = .ok (.iconst 1, 1) := by decide +kernel
theorem dL_areQuarrelsSo_561 : decode cL_areQuarrelsSo 561 = .ok (.goto 4, 3) := by decide +kernel
theorem dL_areQuarrelsSo_564 : decode cL_areQuarrelsSo 564 = .ok (.iconst 0, 1) := by decide +kernel
theorem dL_areQuarrelsSo_565 : decode cL_areQuarrelsSo 565 = .ok (.ireturn, 1) := by decide +kernel
theorem dL_arePersonsSo_0 : decode cL_arePersonsSo 0 = .ok (.iconst 0, 1) := by decide +kernel
theorem dL_arePersonsSo_1 : decode cL_arePersonsSo 1 = .ok (.istore_n 1, 1) := by decide +kernel
theorem dL_arePersonsSo_2 : decode cL_arePersonsSo 2 = .ok (.iconst 0, 1) := by decide +kernel
theorem dL_arePersonsSo_3 : decode cL_arePersonsSo 3 = .ok (.istore_n 2, 1) := by decide +kernel
theorem dL_arePersonsSo_4 : decode cL_arePersonsSo 4 = .ok (.iconst 0, 1) := by decide +kernel
theorem dL_arePersonsSo_5 : decode cL_arePersonsSo 5 = .ok (.istore_n 3, 1) := by decide +kernel
theorem dL_arePersonsSo_6 : decode cL_arePersonsSo 6 = .ok (.iconst 0, 1) := by decide +kernel
theorem dL_arePersonsSo_7 : decode cL_arePersonsSo 7 = .ok (.istore 4, 2) := by decide +kernel
theorem dL_arePersonsSo_9 : decode cL_arePersonsSo 9 = .ok (.iconst 0, 1) := by decide +kernel
theorem dL_arePersonsSo_10 : decode cL_arePersonsSo 10 = .ok (.istore 5, 2) := by decide +kernel
theorem dL_arePersonsSo_12 : decode cL_arePersonsSo 12 = .ok (.iconst 1, 1) := by decide +kernel
theorem dL_arePersonsSo_13 : decode cL_arePersonsSo 13 = .ok (.istore 6, 2) := by decide +kernel
theorem dL_arePersonsSo_15 : decode cL_arePersonsSo 15 = .ok (.iconst 0, 1) := by decide +kernel
theorem dL_arePersonsSo_16 : decode cL_arePersonsSo 16 = .ok (.istore 7, 2) := by decide +kernel
theorem dL_arePersonsSo_18 : decode cL_arePersonsSo 18 = .ok (.iload 7, 2) := by decide +kernel
theorem dL_arePersonsSo_20 : decode cL_arePersonsSo 20 = .ok (.aload_n 0, 1) := by decide +kernel
theorem dL_arePersonsSo_21 : decode cL_arePersonsSo 21 = .ok (.iconst 1, 1) := by decide +kernel
theorem dL_arePersonsSo_22 : decode cL_arePersonsSo 22 = .ok (.invokevirtual 10, 3) := by decide +kernel
theorem dL_arePersonsSo_25 : decode cL_arePersonsSo 25 = .ok (.if_icmp .ge 189, 3) := by decide +kernel
theorem dL_arePersonsSo_28 : decode cL_arePersonsSo 28 = .ok (.iload_n 1, 1) := by decide +kernel
theorem dL_arePersonsSo_29 : decode cL_arePersonsSo 29 = .ok (.aload_n 0, 1) := by decide +kernel
theorem dL_arePersonsSo_30 : decode cL_arePersonsSo 30 = .ok (.iload 7, 2) := by decide +kernel
theorem dL_arePersonsSo_32 : decode cL_arePersonsSo 32 = .ok (.iconst 4, 1) := by decide +kernel
theorem dL_arePersonsSo_33 : decode cL_arePersonsSo 33 = .ok (.invokevirtual 51, 3) := by decide +kernel
theorem dL_arePersonsSo_36 : decode cL_arePersonsSo 36 = .ok (.iadd, 1) := by decide +kernel
theorem dL_arePersonsSo_37 : decode cL_arePersonsSo 37 = .ok (.istore_n 1, 1) := by decide +kernel
theorem dL_arePersonsSo_38 : decode cL_arePersonsSo 38 = .ok (.iload_n 2, 1) := by decide +kernel
theorem dL_arePersonsSo_39 : decode cL_arePersonsSo 39 = .ok (.aload_n 0, 1) := by decide +kernel
theorem dL_arePersonsSo_40 : decode cL_arePersonsSo 40 = .ok (.iload 7, 2) := by decide +kernel
theorem dL_arePersonsSo_42 : decode cL_arePersonsSo 42 = .ok (.iconst 5, 1) := by decide +kernel
theorem dL_arePersonsSo_43 : decode cL_arePersonsSo 43 = .ok (.invokevirtual 51, 3) := by decide +kernel
theorem dL_arePersonsSo_46 : decode cL_arePersonsSo 46 = .ok (.iadd, 1) := by decide +kernel
theorem dL_arePersonsSo_47 : decode cL_arePersonsSo 47 = .ok (.istore_n 2, 1) := by decide +kernel
theorem dL_arePersonsSo_48 : decode cL_arePersonsSo 48 = .ok (.iload_n 3, 1) := by decide +kernel
theorem dL_arePersonsSo_49 : decode cL_arePersonsSo 49 = .ok (.aload_n 0, 1) := by decide +kernel
theorem dL_arePersonsSo_50 : decode cL_arePersonsSo 50 = .ok (.iload 7, 2) := by decide +kernel
theorem dL_arePersonsSo_52 : decode cL_arePersonsSo 52 = .ok (.bipush 6, 2) := by decide +kernel
theorem dL_arePersonsSo_54 : decode cL_arePersonsSo 54 = .ok (.invokevirtual 51, 3) := by decide +kernel
theorem dL_arePersonsSo_57 : decode cL_arePersonsSo 57 = .ok (.iadd, 1) := by decide +kernel
theorem dL_arePersonsSo_58 : decode cL_arePersonsSo 58 = .ok (.istore_n 3, 1) := by decide +kernel
theorem dL_arePersonsSo_59 : decode cL_arePersonsSo 59 = .ok (.iload 4, 2) := by decide +kernel
theorem dL_arePersonsSo_61 : decode cL_arePersonsSo 61 = .ok (.aload_n 0, 1) := by decide +kernel
theorem dL_arePersonsSo_62 : decode cL_arePersonsSo 62 = .ok (.iload 7, 2) := by decide +kernel
theorem dL_arePersonsSo_64 : decode cL_arePersonsSo 64 = .ok (.bipush 7, 2) := by decide +kernel
theorem dL_arePersonsSo_66 : decode cL_arePersonsSo 66 = .ok (.invokevirtual 51, 3) := by decide +kernel
theorem dL_arePersonsSo_69 : decode cL_arePersonsSo 69 = .ok (.iadd, 1) := by decide +kernel
theorem dL_arePersonsSo_70 : decode cL_arePersonsSo 70 = .ok (.istore 4, 2) := by decide +kernel
theorem dL_arePersonsSo_72 : decode cL_arePersonsSo 72 = .ok (.iload 5, 2) := by decide +kernel
theorem dL_arePersonsSo_74 : decode cL_arePersonsSo 74 = .ok (.aload_n 0, 1) := by decide +kernel
theorem dL_arePersonsSo_75 : decode cL_arePersonsSo 75 = .ok (.iload 7, 2) := by decide +kernel
theorem dL_arePersonsSo_77 : decode cL_arePersonsSo 77 = .ok (.iconst 3, 1) := by decide +kernel
theorem dL_arePersonsSo_78 : decode cL_arePersonsSo 78 = .ok (.invokevirtual 51, 3) := by decide +kernel
theorem dL_arePersonsSo_81 : decode cL_arePersonsSo 81 = .ok (.ifCond .le 10, 3) := by decide +kernel
theorem dL_arePersonsSo_84 : decode cL_arePersonsSo 84 = .ok (.iconst 1, 1) := by decide +kernel
theorem dL_arePersonsSo_85 : decode cL_arePersonsSo 85 = .ok (.iload 7, 2) := by decide +kernel
theorem dL_arePersonsSo_87 : decode cL_arePersonsSo 87 = .ok (.ishl, 1) := by decide +kernel
theorem dL_arePersonsSo_88 : decode cL_arePersonsSo 88 = .ok (.goto 4, 3) := by decide +kernel
theorem dL_arePersonsSo_91 : decode cL_arePersonsSo 91 = .ok (.iconst 0, 1) := by decide +kernel
theorem dL_arePersonsSo_92 : decode cL_arePersonsSo 92 = .ok (.ior, 1) := by decide +kernel
theorem dL_arePersonsSo_93 : decode cL_arePersonsSo 93 = .ok (.istore 5, 2) := by decide +kernel
theorem dL_arePersonsSo_95 : decode cL_arePersonsSo 95 = .ok (.aload_n 0, 1) := by decide +kernel
theorem dL_arePersonsSo_96 : decode cL_arePersonsSo 96 = .ok (.iload 7, 2) := by decide +kernel
theorem dL_arePersonsSo_98 : decode cL_arePersonsSo 98 = .ok (.iconst 2, 1) := by decide +kernel
theorem dL_arePersonsSo_99 : decode cL_arePersonsSo 99 = .ok (.invokevirtual 51, 3) := by decide +kernel
theorem dL_arePersonsSo_102 : decode cL_arePersonsSo 102 = .ok (.istore 8, 2) := by decide +kernel
theorem dL_arePersonsSo_104 : decode cL_arePersonsSo 104 = .ok (.iload 6, 2) := by decide +kernel
theorem dL_arePersonsSo_106 : decode cL_arePersonsSo 106 = .ok (.ifCond .eq 99, 3) := by decide +kernel
theorem dL_arePersonsSo_109 : decode cL_arePersonsSo 109 = .ok (.aload_n 0, 1) := by decide +kernel
theorem dL_arePersonsSo_110 : decode cL_arePersonsSo 110 = .ok (.iload 7, 2) := by decide +kernel
theorem dL_arePersonsSo_112 : decode cL_arePersonsSo 112 = .ok (.iconst 0, 1) := by decide +kernel
theorem dL_arePersonsSo_113 : decode cL_arePersonsSo 113 = .ok (.invokevirtual 51, 3) := by decide +kernel
theorem dL_arePersonsSo_116 : decode cL_arePersonsSo 116 = .ok (.ifCond .lt 89, 3) := by decide +kernel
theorem dL_arePersonsSo_119 : decode cL_arePersonsSo 119 = .ok (.aload_n 0, 1) := by decide +kernel
theorem dL_arePersonsSo_120 : decode cL_arePersonsSo 120 = .ok (.iload 7, 2) := by decide +kernel
theorem dL_arePersonsSo_122 : decode cL_arePersonsSo 122 = .ok (.iconst 0, 1) := by decide +kernel
theorem dL_arePersonsSo_123 : decode cL_arePersonsSo 123 = .ok (.invokevirtual 51, 3) := by decide +kernel
theorem dL_arePersonsSo_126 : decode cL_arePersonsSo 126 = .ok (.bipush 10, 2) := by decide +kernel
theorem dL_arePersonsSo_128 : decode cL_arePersonsSo 128 = .ok (.if_icmp .ge 77, 3) := by decide +kernel
theorem dL_arePersonsSo_131 : decode cL_arePersonsSo 131 = .ok (.aload_n 0, 1) := by decide +kernel
theorem dL_arePersonsSo_132 : decode cL_arePersonsSo 132 = .ok (.iload 7, 2) := by decide +kernel
theorem dL_arePersonsSo_134 : decode cL_arePersonsSo 134 = .ok (.iconst 1, 1) := by decide +kernel
theorem dL_arePersonsSo_135 : decode cL_arePersonsSo 135 = .ok (.invokevirtual 51, 3) := by decide +kernel
theorem dL_arePersonsSo_138 : decode cL_arePersonsSo 138 = .ok (.ifCond .lt 67, 3) := by decide +kernel
theorem dL_arePersonsSo_141 : decode cL_arePersonsSo 141 = .ok (.aload_n 0, 1) := by decide +kernel
theorem dL_arePersonsSo_142 : decode cL_arePersonsSo 142 = .ok (.iload 7, 2) := by decide +kernel
theorem dL_arePersonsSo_144 : decode cL_arePersonsSo 144 = .ok (.iconst 1, 1) := by decide +kernel
theorem dL_arePersonsSo_145 : decode cL_arePersonsSo 145 = .ok (.invokevirtual 51, 3) := by decide +kernel
theorem dL_arePersonsSo_148 : decode cL_arePersonsSo 148 = .ok (.bipush 10, 2) := by decide +kernel
theorem dL_arePersonsSo_150 : decode cL_arePersonsSo 150 = .ok (.if_icmp .ge 55, 3) := by decide +kernel
theorem dL_arePersonsSo_153 : decode cL_arePersonsSo 153 = .ok (.aload_n 0, 1) := by decide +kernel
theorem dL_arePersonsSo_154 : decode cL_arePersonsSo 154 = .ok (.iload 7, 2) := by decide +kernel
theorem dL_arePersonsSo_156 : decode cL_arePersonsSo 156 = .ok (.bipush 6, 2) := by decide +kernel
theorem dL_arePersonsSo_158 : decode cL_arePersonsSo 158 = .ok (.invokevirtual 51, 3) := by decide +kernel
theorem dL_arePersonsSo_161 : decode cL_arePersonsSo 161 = .ok (.aload_n 0, 1) := by decide +kernel
theorem dL_arePersonsSo_162 : decode cL_arePersonsSo 162 = .ok (.iload 7, 2) := by decide +kernel
theorem dL_arePersonsSo_164 : decode cL_arePersonsSo 164 = .ok (.bipush 7, 2) := by decide +kernel
theorem dL_arePersonsSo_166 : decode cL_arePersonsSo 166 = .ok (.invokevirtual 51, 3) := by decide +kernel
theorem dL_arePersonsSo_169 : decode cL_arePersonsSo 169 = .ok (.if_icmp .gt 36, 3) := by decide +kernel
theorem dL_arePersonsSo_172 : decode cL_arePersonsSo 172 = .ok (.iload 8, 2) := by decide +kernel
theorem dL_arePersonsSo_174 : decode cL_arePersonsSo 174 = .ok (.ifCond .lt 27, 3) := by decide +kernel
theorem dL_arePersonsSo_177 : decode cL_arePersonsSo 177 = .ok (.aload_n 0, 1) := by decide +kernel
theorem dL_arePersonsSo_178 : decode cL_arePersonsSo 178 = .ok (.iload 8, 2) := by decide +kernel
theorem dL_arePersonsSo_180 : decode cL_arePersonsSo 180 = .ok (.bipush 8, 2) := by decide +kernel
theorem dL_arePersonsSo_182 : decode cL_arePersonsSo 182 = .ok (.invokevirtual 51, 3) := by decide +kernel
theorem dL_arePersonsSo_185 : decode cL_arePersonsSo 185 = .ok (.iload 7, 2) := by decide +kernel
theorem dL_arePersonsSo_187 : decode cL_arePersonsSo 187 = .ok (.ishr, 1) := by decide +kernel
theorem dL_arePersonsSo_188 : decode cL_arePersonsSo 188 = .ok (.iconst 1, 1) := by decide +kernel
theorem dL_arePersonsSo_189 : decode cL_arePersonsSo 189 = .ok (.iand, 1) := by decide +kernel
theorem dL_arePersonsSo_190 : decode cL_arePersonsSo 190 = .ok (.iconst 1, 1) := by decide +kernel
theorem dL_arePersonsSo_191 : decode cL_arePersonsSo 191 = .ok (.if_icmp .ne 14, 3) := by decide +kernel
theorem dL_arePersonsSo_194 : decode cL_arePersonsSo 194 = .ok (.iload 8, 2) := by decide +kernel
theorem dL_arePersonsSo_196 : decode cL_arePersonsSo 196 = .ok (.iload 7, 2) := by decide +kernel
theorem dL_arePersonsSo_198 : decode cL_arePersonsSo 198 = .ok (.if_icmp .eq 7, 3) := by decide +kernel
theorem dL_arePersonsSo_201 : decode cL_arePersonsSo 201 = .ok (.iconst 1, 1) := by decide +kernel
theorem dL_arePersonsSo_202 : decode cL_arePersonsSo 202 = .ok (.goto 4, 3) := by decide +kernel
theorem dL_arePersonsSo_205 : decode cL_arePersonsSo 205 = .ok (.iconst 0, 1) := by decide +kernel
theorem dL_arePersonsSo_206 : decode cL_arePersonsSo 206 = .ok (.istore 6, 2) := by decide +kernel
theorem dL_arePersonsSo_208 : decode cL_arePersonsSo 208 = .ok (.iinc 7 1, 3) := by decide +kernel
theorem dL_arePersonsSo_211 : decode cL_arePersonsSo 211 = .ok (.goto (-193), 3) := by decide +kernel
theorem dL_arePersonsSo_214 : decode cL_arePersonsSo 214 = .ok (.iconst (-1), 1) := by decide +kernel
theorem dL_arePersonsSo_215 : decode cL_arePersonsSo 215 = .ok (.istore 7, 2) := by decide +kernel
theorem dL_arePersonsSo_217 : decode cL_arePersonsSo 217 = .ok (.iconst 0, 1) := by decide +kernel
theorem dL_arePersonsSo_218 : decode cL_arePersonsSo 218 = .ok (.istore 8, 2) := by decide +kernel
theorem dL_arePersonsSo_220 : decode cL_arePersonsSo 220 = .ok (.iconst 0, 1) := by decide +kernel
theorem dL_arePersonsSo_221 : decode cL_arePersonsSo 221 = .ok (.istore 9, 2) := by decide +kernel
theorem dL_arePersonsSo_223 : decode cL_arePersonsSo 223 = .ok (.aload_n 0, 1) := by decide +kernel
theorem dL_arePersonsSo_224 : decode cL_arePersonsSo 224 = .ok (.iload 9, 2) := by decide +kernel
theorem dL_arePersonsSo_226 : decode cL_arePersonsSo 226 = .ok (.invokevirtual 76, 3) := by decide +kernel
theorem dL_arePersonsSo_229 : decode cL_arePersonsSo 229 = .ok (.ifCond .lt 120, 3) := by decide +kernel
theorem dL_arePersonsSo_232 : decode cL_arePersonsSo 232 = .ok (.iload 9, 2) := by decide +kernel
theorem dL_arePersonsSo_234 : decode cL_arePersonsSo 234 = .ok (.bipush 12, 2) := by decide +kernel
theorem dL_arePersonsSo_236 : decode cL_arePersonsSo 236 = .ok (.if_icmp .ge 113, 3) := by decide +kernel
theorem dL_arePersonsSo_239 : decode cL_arePersonsSo 239 = .ok (.aload_n 0, 1) := by decide +kernel
theorem dL_arePersonsSo_240 : decode cL_arePersonsSo 240 = .ok (.iload 9, 2) := by decide +kernel
theorem dL_arePersonsSo_242 : decode cL_arePersonsSo 242 = .ok (.invokevirtual 76, 3) := by decide +kernel
theorem dL_arePersonsSo_245 : decode cL_arePersonsSo 245 = .ok (.istore 10, 2) := by decide +kernel
theorem dL_arePersonsSo_247 : decode cL_arePersonsSo 247 = .ok (.aload_n 0, 1) := by decide +kernel
theorem dL_arePersonsSo_248 : decode cL_arePersonsSo 248 = .ok (.iload 10, 2) := by decide +kernel
theorem dL_arePersonsSo_250 : decode cL_arePersonsSo 250 = .ok (.iconst 3, 1) := by decide +kernel
theorem dL_arePersonsSo_251 : decode cL_arePersonsSo 251 = .ok (.invokevirtual 57, 3) := by decide +kernel
theorem dL_arePersonsSo_254 : decode cL_arePersonsSo 254 = .ok (.iconst 1, 1) := by decide +kernel
theorem dL_arePersonsSo_255 : decode cL_arePersonsSo 255 = .ok (.iadd, 1) := by decide +kernel
theorem dL_arePersonsSo_256 : decode cL_arePersonsSo 256 = .ok (.aload_n 0, 1) := by decide +kernel
theorem dL_arePersonsSo_257 : decode cL_arePersonsSo 257 = .ok (.iload 10, 2) := by decide +kernel
theorem dL_arePersonsSo_259 : decode cL_arePersonsSo 259 = .ok (.iconst 2, 1) := by decide +kernel
theorem dL_arePersonsSo_260 : decode cL_arePersonsSo 260 = .ok (.invokevirtual 57, 3) := by decide +kernel
theorem dL_arePersonsSo_263 : decode cL_arePersonsSo 263 = .ok (.imul, 1) := by decide +kernel
theorem dL_arePersonsSo_264 : decode cL_arePersonsSo 264 = .ok (.istore 11, 2) := by decide +kernel
theorem dL_arePersonsSo_266 : decode cL_arePersonsSo 266 = .ok (.iload 7, 2) := by decide +kernel
theorem dL_arePersonsSo_268 : decode cL_arePersonsSo 268 = .ok (.ifCond .ge 10, 3) := by decide +kernel
theorem dL_arePersonsSo_271 : decode cL_arePersonsSo 271 = .ok (.iload 11, 2) := by decide +kernel
theorem dL_arePersonsSo_273 : decode cL_arePersonsSo 273 = .ok (.iconst 1, 1) := by decide +kernel
theorem dL_arePersonsSo_274 : decode cL_arePersonsSo 274 = .ok (.iadd, 1) := by decide +kernel
theorem dL_arePersonsSo_275 : decode cL_arePersonsSo 275 = .ok (.goto 20, 3) := by decide +kernel
theorem dL_arePersonsSo_278 : decode cL_arePersonsSo 278 = .ok (.aload_n 0, 1) := by decide +kernel
theorem dL_arePersonsSo_279 : decode cL_arePersonsSo 279 = .ok (.iload 7, 2) := by decide +kernel
theorem dL_arePersonsSo_281 : decode cL_arePersonsSo 281 = .ok (.iconst 3, 1) := by decide +kernel
theorem dL_arePersonsSo_282 : decode cL_arePersonsSo 282 = .ok (.invokevirtual 57, 3) := by decide +kernel
theorem dL_arePersonsSo_285 : decode cL_arePersonsSo 285 = .ok (.iconst 1, 1) := by decide +kernel
theorem dL_arePersonsSo_286 : decode cL_arePersonsSo 286 = .ok (.iadd, 1) := by decide +kernel
theorem dL_arePersonsSo_287 : decode cL_arePersonsSo 287 = .ok (.aload_n 0, 1) := by decide +kernel
theorem dL_arePersonsSo_288 : decode cL_arePersonsSo 288 = .ok (.iload 7, 2) := by decide +kernel
theorem dL_arePersonsSo_290 : decode cL_arePersonsSo 290 = .ok (.iconst 2, 1) := by decide +kernel
theorem dL_arePersonsSo_291 : decode cL_arePersonsSo 291 = .ok (.invokevirtual 57, 3) := by decide +kernel
theorem dL_arePersonsSo_294 : decode cL_arePersonsSo 294 = .ok (.imul, 1) := by decide +kernel
theorem dL_arePersonsSo_295 : decode cL_arePersonsSo 295 = .ok (.istore 12, 2) := by decide +kernel
theorem dL_arePersonsSo_297 : decode cL_arePersonsSo 297 = .ok (.iload 6, 2) := by decide +kernel
theorem dL_arePersonsSo_299 : decode cL_arePersonsSo 299 = .ok (.ifCond .eq 28, 3) := by decide +kernel
theorem dL_arePersonsSo_302 : decode cL_arePersonsSo 302 = .ok (.iload 11, 2) := by decide +kernel
theorem dL_arePersonsSo_304 : decode cL_arePersonsSo 304 = .ok (.iload 12, 2) := by decide +kernel
theorem dL_arePersonsSo_306 : decode cL_arePersonsSo 306 = .ok (.if_icmp .lt 17, 3) := by decide +kernel
theorem dL_arePersonsSo_309 : decode cL_arePersonsSo 309 = .ok (.iload 11, 2) := by decide +kernel
theorem dL_arePersonsSo_311 : decode cL_arePersonsSo 311 = .ok (.iload 12, 2) := by decide +kernel
theorem dL_arePersonsSo_313 : decode cL_arePersonsSo 313 = .ok (.if_icmp .ne 14, 3) := by decide +kernel
theorem dL_arePersonsSo_316 : decode cL_arePersonsSo 316 = .ok (.iload 10, 2) := by decide +kernel
theorem dL_arePersonsSo_318 : decode cL_arePersonsSo 318 = .ok (.iload 7, 2) := by decide +kernel
theorem dL_arePersonsSo_320 : decode cL_arePersonsSo 320 = .ok (.if_icmp .le 7, 3) := by decide +kernel
theorem dL_arePersonsSo_323 : decode cL_arePersonsSo 323 = .ok (.iconst 1, 1) := by decide +kernel
theorem dL_arePersonsSo_324 : decode cL_arePersonsSo 324 = .ok (.goto 4, 3) := by decide +kernel
theorem dL_arePersonsSo_327 : decode cL_arePersonsSo 327 = .ok (.iconst 0, 1) := by decide +kernel
theorem dL_arePersonsSo_328 : decode cL_arePersonsSo 328 = .ok (.istore 6, 2) := by decide +kernel
theorem dL_arePersonsSo_330 : decode cL_arePersonsSo 330 = .ok (.iload 8, 2) := by decide +kernel
theorem dL_arePersonsSo_332 : decode cL_arePersonsSo 332 = .ok (.iconst 1, 1) := by decide +kernel
theorem dL_arePersonsSo_333 : decode cL_arePersonsSo 333 = .ok (.iload 10, 2) := by decide +kernel
theorem dL_arePersonsSo_335 : decode cL_arePersonsSo 335 = .ok (.ishl, 1) := by decide +kernel
theorem dL_arePersonsSo_336 : decode cL_arePersonsSo 336 = .ok (.ior, 1) := by decide +kernel
theorem dL_arePersonsSo_337 : decode cL_arePersonsSo 337 = .ok (.istore 8, 2) := by decide +kernel
theorem dL_arePersonsSo_339 : decode cL_arePersonsSo 339 = .ok (.iload 10, 2) := by decide +kernel
theorem dL_arePersonsSo_341 : decode cL_arePersonsSo 341 = .ok (.istore 7, 2) := by decide +kernel
theorem dL_arePersonsSo_343 : decode cL_arePersonsSo 343 = .ok (.iinc 9 1, 3) := by decide +kernel
theorem dL_arePersonsSo_346 : decode cL_arePersonsSo 346 = .ok (.goto (-123), 3) := by decide +kernel
theorem dL_arePersonsSo_349 : decode cL_arePersonsSo 349 = .ok (.iconst 0, 1) := by decide +kernel
theorem dL_arePersonsSo_350 : decode cL_arePersonsSo 350 = .ok (.istore 9, 2) := by decide +kernel
theorem dL_arePersonsSo_352 : decode cL_arePersonsSo 352 = .ok (.bipush 9, 2) := by decide +kernel
theorem dL_arePersonsSo_354 : decode cL_arePersonsSo 354 = .ok (.istore 10, 2) := by decide +kernel
theorem dL_arePersonsSo_356 : decode cL_arePersonsSo 356 = .ok (.iload 10, 2) := by decide +kernel
theorem dL_arePersonsSo_358 : decode cL_arePersonsSo 358 = .ok (.ifCond .le 40, 3) := by decide +kernel
theorem dL_arePersonsSo_361 : decode cL_arePersonsSo 361 = .ok (.iload 6, 2) := by decide +kernel
theorem dL_arePersonsSo_363 : decode cL_arePersonsSo 363 = .ok (.ifCond .eq 18, 3) := by decide +kernel
theorem dL_arePersonsSo_366 : decode cL_arePersonsSo 366 = .ok (.aload_n 0, 1) := by decide +kernel
theorem dL_arePersonsSo_367 : decode cL_arePersonsSo 367 = .ok (.iload 10, 2) := by decide +kernel
theorem dL_arePersonsSo_369 : decode cL_arePersonsSo 369 = .ok (.invokevirtual 79, 3) := by decide +kernel
theorem dL_arePersonsSo_372 : decode cL_arePersonsSo 372 = .ok (.iload 9, 2) := by decide +kernel
theorem dL_arePersonsSo_374 : decode cL_arePersonsSo 374 = .ok (.if_icmp .lt 7, 3) := by decide +kernel
theorem dL_arePersonsSo_377 : decode cL_arePersonsSo 377 = .ok (.iconst 1, 1) := by decide +kernel
theorem dL_arePersonsSo_378 : decode cL_arePersonsSo 378 = .ok (.goto 4, 3) := by decide +kernel
theorem dL_arePersonsSo_381 : decode cL_arePersonsSo 381 = .ok (.iconst 0, 1) := by decide +kernel
theorem dL_arePersonsSo_382 : decode cL_arePersonsSo 382 = .ok (.istore 6, 2) := by decide +kernel
theorem dL_arePersonsSo_384 : decode cL_arePersonsSo 384 = .ok (.aload_n 0, 1) := by decide +kernel
theorem dL_arePersonsSo_385 : decode cL_arePersonsSo 385 = .ok (.iload 10, 2) := by decide +kernel
theorem dL_arePersonsSo_387 : decode cL_arePersonsSo 387 = .ok (.invokevirtual 79, 3) := by decide +kernel
theorem dL_arePersonsSo_390 : decode cL_arePersonsSo 390 = .ok (.istore 9, 2) := by decide +kernel
theorem dL_arePersonsSo_392 : decode cL_arePersonsSo 392 = .ok (.iinc 10 (-1), 3) := by decide +kernel
theorem dL_arePersonsSo_395 : decode cL_arePersonsSo 395 = .ok (.goto (-39), 3) := by decide +kernel
theorem dL_arePersonsSo_398 : decode cL_arePersonsSo 398 = .ok (.iload 6, 2) := by decide +kernel
theorem dL_arePersonsSo_400 : decode cL_arePersonsSo 400 = .ok (.ifCond .eq 66, 3) := by decide +kernel
theorem dL_arePersonsSo_403 : decode cL_arePersonsSo 403 = .ok (.iload_n 1, 1) := by decide +kernel
theorem dL_arePersonsSo_404 : decode cL_arePersonsSo 404 = .ok (.aload_n 0, 1) := by decide +kernel
theorem dL_arePersonsSo_405 : decode cL_arePersonsSo 405 = .ok (.iconst 2, 1) := by decide +kernel
theorem dL_arePersonsSo_406 : decode cL_arePersonsSo 406 = .ok (.invokevirtual 10, 3) := by decide +kernel
theorem dL_arePersonsSo_409 : decode cL_arePersonsSo 409 = .ok (.if_icmp .ne 57, 3) := by decide +kernel
theorem dL_arePersonsSo_412 : decode cL_arePersonsSo 412 = .ok (.iload_n 2, 1) := by decide +kernel
theorem dL_arePersonsSo_413 : decode cL_arePersonsSo 413 = .ok (.iload_n 1, 1) := by decide +kernel
theorem dL_arePersonsSo_414 : decode cL_arePersonsSo 414 = .ok (.if_icmp .ne 52, 3) := by decide +kernel
theorem dL_arePersonsSo_417 : decode cL_arePersonsSo 417 = .ok (.iload_n 3, 1) := by decide +kernel
theorem dL_arePersonsSo_418 : decode cL_arePersonsSo 418 = .ok (.aload_n 0, 1) := by decide +kernel
theorem dL_arePersonsSo_419 : decode cL_arePersonsSo 419 = .ok (.bipush 6, 2) := by decide +kernel
theorem dL_arePersonsSo_421 : decode cL_arePersonsSo 421 = .ok (.invokevirtual 10, 3) := by decide +kernel
theorem dL_arePersonsSo_424 : decode cL_arePersonsSo 424 = .ok (.if_icmp .ne 42, 3) := by decide +kernel
theorem dL_arePersonsSo_427 : decode cL_arePersonsSo 427 = .ok (.iload 4, 2) := by decide +kernel
theorem dL_arePersonsSo_429 : decode cL_arePersonsSo 429 = .ok (.iconst 2, 1) := by decide +kernel
theorem dL_arePersonsSo_430 : decode cL_arePersonsSo 430 = .ok (.iload_n 3, 1) := by decide +kernel
theorem dL_arePersonsSo_431 : decode cL_arePersonsSo 431 = .ok (.imul, 1) := by decide +kernel
theorem dL_arePersonsSo_432 : decode cL_arePersonsSo 432 = .ok (.if_icmp .ne 34, 3) := by decide +kernel
theorem dL_arePersonsSo_435 : decode cL_arePersonsSo 435 = .ok (.iload 5, 2) := by decide +kernel
theorem dL_arePersonsSo_437 : decode cL_arePersonsSo 437 = .ok (.aload_n 0, 1) := by decide +kernel
theorem dL_arePersonsSo_438 : decode cL_arePersonsSo 438 = .ok (.bipush 8, 2) := by decide +kernel
theorem dL_arePersonsSo_440 : decode cL_arePersonsSo 440 = .ok (.invokevirtual 10, 3) := by decide +kernel
theorem dL_arePersonsSo_443 : decode cL_arePersonsSo 443 = .ok (.if_icmp .ne 23, 3) := by decide +kernel
theorem dL_arePersonsSo_446 : decode cL_arePersonsSo 446 = .ok (.iload 8, 2) := by decide +kernel
theorem dL_arePersonsSo_448 : decode cL_arePersonsSo 448 = .ok (.aload_n 0, 1) := by decide +kernel
theorem dL_arePersonsSo_449 : decode cL_arePersonsSo 449 = .ok (.iconst 3, 1) := by decide +kernel
theorem dL_arePersonsSo_450 : decode cL_arePersonsSo 450 = .ok (.invokevirtual 10, 3) := by decide +kernel
theorem dL_arePersonsSo_453 : decode cL_arePersonsSo 453 = .ok (.if_icmp .ne 13, 3) := by decide +kernel
theorem dL_arePersonsSo_456 : decode cL_arePersonsSo 456 = .ok (.iload 9, 2) := by decide +kernel
theorem dL_arePersonsSo_458 : decode cL_arePersonsSo 458 = .ok (.iload_n 1, 1) := by decide +kernel
theorem dL_arePersonsSo_459 : decode cL_arePersonsSo 459 = .ok (.if_icmp .ne 7, 3) := by decide +kernel
theorem dL_arePersonsSo_462 : decode cL_arePersonsSo 462 = .ok (.iconst 1, 1) := by decide +kernel
theorem dL_arePersonsSo_463 : decode cL_arePersonsSo 463 = .ok (.goto 4, 3) := by decide +kernel
theorem dL_arePersonsSo_466 : decode cL_arePersonsSo 466 = .ok (.iconst 0, 1) := by decide +kernel
theorem dL_arePersonsSo_467 : decode cL_arePersonsSo 467 = .ok (.ireturn, 1) := by decide +kernel
theorem dL_isTimeSo_0 : decode cL_isTimeSo 0 = .ok (.aload_n 0, 1) := by decide +kernel
theorem dL_isTimeSo_1 : decode cL_isTimeSo 1 = .ok (.iload_n 1, 1) := by decide +kernel
theorem dL_isTimeSo_2 : decode cL_isTimeSo 2 = .ok (.invokevirtual 82, 3) := by decide +kernel
theorem dL_isTimeSo_5 : decode cL_isTimeSo 5 = .ok (.istore_n 2, 1) := by decide +kernel
theorem dL_isTimeSo_6 : decode cL_isTimeSo 6 = .ok (.aload_n 0, 1) := by decide +kernel
theorem dL_isTimeSo_7 : decode cL_isTimeSo 7 = .ok (.iload_n 1, 1) := by decide +kernel
theorem dL_isTimeSo_8 : decode cL_isTimeSo 8 = .ok (.invokevirtual 85, 3) := by decide +kernel
theorem dL_isTimeSo_11 : decode cL_isTimeSo 11 = .ok (.istore_n 3, 1) := by decide +kernel
theorem dL_isTimeSo_12 : decode cL_isTimeSo 12 = .ok (.aload_n 0, 1) := by decide +kernel
theorem dL_isTimeSo_13 : decode cL_isTimeSo 13 = .ok (.iload_n 1, 1) := by decide +kernel
theorem dL_isTimeSo_14 : decode cL_isTimeSo 14 = .ok (.iconst 4, 1) := by decide +kernel
theorem dL_isTimeSo_15 : decode cL_isTimeSo 15 = .ok (.invokevirtual 57, 3) := by decide +kernel
theorem dL_isTimeSo_18 : decode cL_isTimeSo 18 = .ok (.ifCond .eq 21, 3) := by decide +kernel
theorem dL_isTimeSo_21 : decode cL_isTimeSo 21 = .ok (.iload_n 2, 1) := by decide +kernel
theorem dL_isTimeSo_22 : decode cL_isTimeSo 22 = .ok (.bipush (-5), 2) := by decide +kernel
theorem dL_isTimeSo_24 : decode cL_isTimeSo 24 = .ok (.if_icmp .ne 13, 3) := by decide +kernel
theorem dL_isTimeSo_27 : decode cL_isTimeSo 27 = .ok (.iload_n 3, 1) := by decide +kernel
theorem dL_isTimeSo_28 : decode cL_isTimeSo 28 = .ok (.bipush (-5), 2) := by decide +kernel
theorem dL_isTimeSo_30 : decode cL_isTimeSo 30 = .ok (.if_icmp .ne 7, 3) := by decide +kernel
theorem dL_isTimeSo_33 : decode cL_isTimeSo 33 = .ok (.iconst 1, 1) := by decide +kernel
theorem dL_isTimeSo_34 : decode cL_isTimeSo 34 = .ok (.goto 4, 3) := by decide +kernel
theorem dL_isTimeSo_37 : decode cL_isTimeSo 37 = .ok (.iconst 0, 1) := by decide +kernel
theorem dL_isTimeSo_38 : decode cL_isTimeSo 38 = .ok (.ireturn, 1) := by decide +kernel
theorem dL_isTimeSo_39 : decode cL_isTimeSo 39 = .ok (.iload_n 2, 1) := by decide +kernel
theorem dL_isTimeSo_40 : decode cL_isTimeSo 40 = .ok (.ifCond .ne 7, 3) := by decide +kernel
theorem dL_isTimeSo_43 : decode cL_isTimeSo 43 = .ok (.iconst 1, 1) := by decide +kernel
theorem dL_isTimeSo_44 : decode cL_isTimeSo 44 = .ok (.goto 4, 3) := by decide +kernel
theorem dL_isTimeSo_47 : decode cL_isTimeSo 47 = .ok (.iconst 0, 1) := by decide +kernel
theorem dL_isTimeSo_48 : decode cL_isTimeSo 48 = .ok (.aload_n 0, 1) := by decide +kernel
theorem dL_isTimeSo_49 : decode cL_isTimeSo 49 = .ok (.iload_n 1, 1) := by decide +kernel
theorem dL_isTimeSo_50 : decode cL_isTimeSo 50 = .ok (.invokevirtual 64, 3) := by decide +kernel
theorem dL_isTimeSo_53 : decode cL_isTimeSo 53 = .ok (.ifCond .lt 7, 3) := by decide +kernel
theorem dL_isTimeSo_56 : decode cL_isTimeSo 56 = .ok (.iconst 1, 1) := by decide +kernel
theorem dL_isTimeSo_57 : decode cL_isTimeSo 57 = .ok (.goto 4, 3) := by decide +kernel
theorem dL_isTimeSo_60 : decode cL_isTimeSo 60 = .ok (.iconst 0, 1) := by decide +kernel
theorem dL_isTimeSo_61 : decode cL_isTimeSo 61 = .ok (.if_icmp .ne 32, 3) := by decide +kernel
theorem dL_isTimeSo_64 : decode cL_isTimeSo 64 = .ok (.iload_n 3, 1) := by decide +kernel
theorem dL_isTimeSo_65 : decode cL_isTimeSo 65 = .ok (.ifCond .ne 7, 3) := by decide +kernel
theorem dL_isTimeSo_68 : decode cL_isTimeSo 68 = .ok (.iconst 1, 1) := by decide +kernel
theorem dL_isTimeSo_69 : decode cL_isTimeSo 69 = .ok (.goto 4, 3) := by decide +kernel
theorem dL_isTimeSo_72 : decode cL_isTimeSo 72 = .ok (.iconst 0, 1) := by decide +kernel
theorem dL_isTimeSo_73 : decode cL_isTimeSo 73 = .ok (.aload_n 0, 1) := by decide +kernel
theorem dL_isTimeSo_74 : decode cL_isTimeSo 74 = .ok (.iload_n 1, 1) := by decide +kernel
theorem dL_isTimeSo_75 : decode cL_isTimeSo 75 = .ok (.invokevirtual 67, 3) := by decide +kernel
theorem dL_isTimeSo_78 : decode cL_isTimeSo 78 = .ok (.ifCond .ne 7, 3) := by decide +kernel
theorem dL_isTimeSo_81 : decode cL_isTimeSo 81 = .ok (.iconst 1, 1) := by decide +kernel
theorem dL_isTimeSo_82 : decode cL_isTimeSo 82 = .ok (.goto 4, 3) := by decide +kernel
theorem dL_isTimeSo_85 : decode cL_isTimeSo 85 = .ok (.iconst 0, 1) := by decide +kernel
theorem dL_isTimeSo_86 : decode cL_isTimeSo 86 = .ok (.if_icmp .ne 7, 3) := by decide +kernel
theorem dL_isTimeSo_89 : decode cL_isTimeSo 89 = .ok (.iconst 1, 1) := by decide +kernel
theorem dL_isTimeSo_90 : decode cL_isTimeSo 90 = .ok (.goto 4, 3) := by decide +kernel
theorem dL_isTimeSo_93 : decode cL_isTimeSo 93 = .ok (.iconst 0, 1) := by decide +kernel
theorem dL_isTimeSo_94 : decode cL_isTimeSo 94 = .ok (.istore 4, 2) := by decide +kernel
theorem dL_isTimeSo_96 : decode cL_isTimeSo 96 = .ok (.iload_n 2, 1) := by decide +kernel
theorem dL_isTimeSo_97 : decode cL_isTimeSo 97 = .ok (.ifCond .le 126, 3) := by decide +kernel
theorem dL_isTimeSo_100 : decode cL_isTimeSo 100 = .ok (.iload_n 2, 1) := by decide +kernel
theorem dL_isTimeSo_101 : decode cL_isTimeSo 101 = .ok (.bipush 99, 2) := by decide +kernel
theorem dL_isTimeSo_103 : decode cL_isTimeSo 103 = .ok (.if_icmp .ge 120, 3) := by decide +kernel
theorem dL_isTimeSo_106 : decode cL_isTimeSo 106 = .ok (.iload_n 2, 1) := by decide +kernel
theorem dL_isTimeSo_107 : decode cL_isTimeSo 107 = .ok (.iconst 1, 1) := by decide +kernel
theorem dL_isTimeSo_108 : decode cL_isTimeSo 108 = .ok (.if_icmp .ne 7, 3) := by decide +kernel
theorem dL_isTimeSo_111 : decode cL_isTimeSo 111 = .ok (.iconst 0, 1) := by decide +kernel
theorem dL_isTimeSo_112 : decode cL_isTimeSo 112 = .ok (.goto 10, 3) := by decide +kernel
theorem dL_isTimeSo_115 : decode cL_isTimeSo 115 = .ok (.aload_n 0, 1) := by decide +kernel
theorem dL_isTimeSo_116 : decode cL_isTimeSo 116 = .ok (.iload_n 2, 1) := by decide +kernel
theorem dL_isTimeSo_117 : decode cL_isTimeSo 117 = .ok (.iconst 1, 1) := by decide +kernel
theorem dL_isTimeSo_118 : decode cL_isTimeSo 118 = .ok (.isub, 1) := by decide +kernel
theorem dL_isTimeSo_119 : decode cL_isTimeSo 119 = .ok (.invokevirtual 48, 3) := by decide +kernel
theorem dL_isTimeSo_122 : decode cL_isTimeSo 122 = .ok (.istore 5, 2) := by decide +kernel
theorem dL_isTimeSo_124 : decode cL_isTimeSo 124 = .ok (.iload 4, 2) := by decide +kernel
theorem dL_isTimeSo_126 : decode cL_isTimeSo 126 = .ok (.ifCond .eq 22, 3) := by decide +kernel
theorem dL_isTimeSo_129 : decode cL_isTimeSo 129 = .ok (.iload 5, 2) := by decide +kernel
theorem dL_isTimeSo_131 : decode cL_isTimeSo 131 = .ok (.ifCond .lt 13, 3) := by decide +kernel
theorem dL_isTimeSo_134 : decode cL_isTimeSo 134 = .ok (.aload_n 0, 1) := by decide +kernel
theorem dL_isTimeSo_135 : decode cL_isTimeSo 135 = .ok (.iload_n 1, 1) := by decide +kernel
theorem dL_isTimeSo_136 : decode cL_isTimeSo 136 = .ok (.invokevirtual 64, 3) := by decide +kernel
theorem dL_isTimeSo_139 : decode cL_isTimeSo 139 = .ok (.bipush (-6), 2) := by decide +kernel
theorem dL_isTimeSo_141 : decode cL_isTimeSo 141 = .ok (.if_icmp .ne 7, 3) := by decide +kernel
theorem dL_isTimeSo_144 : decode cL_isTimeSo 144 = .ok (.iconst 1, 1) := by decide +kernel
theorem dL_isTimeSo_145 : decode cL_isTimeSo 145 = .ok (.goto 4, 3) := by decide +kernel
theorem dL_isTimeSo_148 : decode cL_isTimeSo 148 = .ok (.iconst 0, 1) := by decide +kernel
theorem dL_isTimeSo_149 : decode cL_isTimeSo 149 = .ok (.istore 4, 2) := by decide +kernel
theorem dL_isTimeSo_151 : decode cL_isTimeSo 151 = .ok (.iload_n 2, 1) := by decide +kernel
theorem dL_isTimeSo_152 : decode cL_isTimeSo 152 = .ok (.iconst 1, 1) := by decide +kernel
theorem dL_isTimeSo_153 : decode cL_isTimeSo 153 = .ok (.if_icmp .le 15, 3) := by decide +kernel
theorem dL_isTimeSo_156 : decode cL_isTimeSo 156 = .ok (.iload 5, 2) := by decide +kernel
theorem dL_isTimeSo_158 : decode cL_isTimeSo 158 = .ok (.ifCond .lt 10, 3) := by decide +kernel
theorem dL_isTimeSo_161 : decode cL_isTimeSo 161 = .ok (.aload_n 0, 1) := by decide +kernel
theorem dL_isTimeSo_162 : decode cL_isTimeSo 162 = .ok (.invokevirtual 88, 3) := by decide +kernel
theorem dL_isTimeSo_165 : decode cL_isTimeSo 165 = .ok (.goto 4, 3) := by decide +kernel
theorem dL_isTimeSo_168 : decode cL_isTimeSo 168 = .ok (.iconst 0, 1) := by decide +kernel
theorem dL_isTimeSo_169 : decode cL_isTimeSo 169 = .ok (.istore 6, 2) := by decide +kernel
theorem dL_isTimeSo_171 : decode cL_isTimeSo 171 = .ok (.aload_n 0, 1) := by decide +kernel
theorem dL_isTimeSo_172 : decode cL_isTimeSo 172 = .ok (.iload_n 2, 1) := by decide +kernel
theorem dL_isTimeSo_173 : decode cL_isTimeSo 173 = .ok (.invokevirtual 48, 3) := by decide +kernel
theorem dL_isTimeSo_176 : decode cL_isTimeSo 176 = .ok (.istore 5, 2) := by decide +kernel
theorem dL_isTimeSo_178 : decode cL_isTimeSo 178 = .ok (.iload 4, 2) := by decide +kernel
theorem dL_isTimeSo_180 : decode cL_isTimeSo 180 = .ok (.ifCond .eq 25, 3) := by decide +kernel
theorem dL_isTimeSo_183 : decode cL_isTimeSo 183 = .ok (.iload 6, 2) := by decide +kernel
theorem dL_isTimeSo_185 : decode cL_isTimeSo 185 = .ok (.ifCond .lt 20, 3) := by decide +kernel
theorem dL_isTimeSo_188 : decode cL_isTimeSo 188 = .ok (.iload 5, 2) := by decide +kernel
theorem dL_isTimeSo_190 : decode cL_isTimeSo 190 = .ok (.ifCond .lt 11, 3) := by decide +kernel
theorem dL_isTimeSo_193 : decode cL_isTimeSo 193 = .ok (.aload_n 0, 1) := by decide +kernel
theorem dL_isTimeSo_194 : decode cL_isTimeSo 194 = .ok (.iload_n 1, 1) := by decide +kernel
theorem dL_isTimeSo_195 : decode cL_isTimeSo 195 = .ok (.invokevirtual 64, 3) := by decide +kernel
theorem dL_isTimeSo_198 : decode cL_isTimeSo 198 = .ok (.ifCond .lt 7, 3) := by decide +kernel
theorem dL_isTimeSo_201 : decode cL_isTimeSo 201 = .ok (.iconst 1, 1) := by decide +kernel
theorem dL_isTimeSo_202 : decode cL_isTimeSo 202 = .ok (.goto 4, 3) := by decide +kernel
theorem dL_isTimeSo_205 : decode cL_isTimeSo 205 = .ok (.iconst 0, 1) := by decide +kernel
theorem dL_isTimeSo_206 : decode cL_isTimeSo 206 = .ok (.istore 4, 2) := by decide +kernel
theorem dL_isTimeSo_208 : decode cL_isTimeSo 208 = .ok (.iload 5, 2) := by decide +kernel
theorem dL_isTimeSo_210 : decode cL_isTimeSo 210 = .ok (.ifCond .lt 10, 3) := by decide +kernel
theorem dL_isTimeSo_213 : decode cL_isTimeSo 213 = .ok (.aload_n 0, 1) := by decide +kernel
theorem dL_isTimeSo_214 : decode cL_isTimeSo 214 = .ok (.invokevirtual 88, 3) := by decide +kernel
theorem dL_isTimeSo_217 : decode cL_isTimeSo 217 = .ok (.goto 4, 3) := by decide +kernel
theorem dL_isTimeSo_220 : decode cL_isTimeSo 220 = .ok (.iconst 0, 1) := by decide +kernel
theorem dL_isTimeSo_221 : decode cL_isTimeSo 221 = .ok (.istore 6, 2) := by decide +kernel
theorem dL_isTimeSo_223 : decode cL_isTimeSo 223 = .ok (.iload_n 3, 1) := by decide +kernel
theorem dL_isTimeSo_224 : decode cL_isTimeSo 224 = .ok (.ifCond .le 124, 3) := by decide +kernel
theorem dL_isTimeSo_227 : decode cL_isTimeSo 227 = .ok (.iload_n 3, 1) := by decide +kernel
theorem dL_isTimeSo_228 : decode cL_isTimeSo 228 = .ok (.bipush 99, 2) := by decide +kernel
theorem dL_isTimeSo_230 : decode cL_isTimeSo 230 = .ok (.if_icmp .ge 118, 3) := by decide +kernel
theorem dL_isTimeSo_233 : decode cL_isTimeSo 233 = .ok (.iload_n 3, 1) := by decide +kernel
theorem dL_isTimeSo_234 : decode cL_isTimeSo 234 = .ok (.iconst 1, 1) := by decide +kernel
theorem dL_isTimeSo_235 : decode cL_isTimeSo 235 = .ok (.if_icmp .ne 7, 3) := by decide +kernel
theorem dL_isTimeSo_238 : decode cL_isTimeSo 238 = .ok (.iconst 0, 1) := by decide +kernel
theorem dL_isTimeSo_239 : decode cL_isTimeSo 239 = .ok (.goto 10, 3) := by decide +kernel
theorem dL_isTimeSo_242 : decode cL_isTimeSo 242 = .ok (.aload_n 0, 1) := by decide +kernel
theorem dL_isTimeSo_243 : decode cL_isTimeSo 243 = .ok (.iload_n 3, 1) := by decide +kernel
theorem dL_isTimeSo_244 : decode cL_isTimeSo 244 = .ok (.iconst 1, 1) := by decide +kernel
theorem dL_isTimeSo_245 : decode cL_isTimeSo 245 = .ok (.isub, 1) := by decide +kernel
theorem dL_isTimeSo_246 : decode cL_isTimeSo 246 = .ok (.invokevirtual 48, 3) := by decide +kernel
theorem dL_isTimeSo_249 : decode cL_isTimeSo 249 = .ok (.istore 5, 2) := by decide +kernel
theorem dL_isTimeSo_251 : decode cL_isTimeSo 251 = .ok (.iload 4, 2) := by decide +kernel
theorem dL_isTimeSo_253 : decode cL_isTimeSo 253 = .ok (.ifCond .eq 20, 3) := by decide +kernel
theorem dL_isTimeSo_256 : decode cL_isTimeSo 256 = .ok (.iload 5, 2) := by decide +kernel
theorem dL_isTimeSo_258 : decode cL_isTimeSo 258 = .ok (.ifCond .lt 11, 3) := by decide +kernel
theorem dL_isTimeSo_261 : decode cL_isTimeSo 261 = .ok (.aload_n 0, 1) := by decide +kernel
theorem dL_isTimeSo_262 : decode cL_isTimeSo 262 = .ok (.iload_n 1, 1) := by decide +kernel
theorem dL_isTimeSo_263 : decode cL_isTimeSo 263 = .ok (.invokevirtual 67, 3) := by decide +kernel
theorem dL_isTimeSo_266 : decode cL_isTimeSo 266 = .ok (.ifCond .le 7, 3) := by decide +kernel
theorem dL_isTimeSo_269 : decode cL_isTimeSo 269 = .ok (.iconst 1, 1) := by decide +kernel
theorem dL_isTimeSo_270 : decode cL_isTimeSo 270 = .ok (.goto 4, 3) := by decide +kernel
theorem dL_isTimeSo_273 : decode cL_isTimeSo 273 = .ok (.iconst 0, 1) := by decide +kernel
theorem dL_isTimeSo_274 : decode cL_isTimeSo 274 = .ok (.istore 4, 2) := by decide +kernel
theorem dL_isTimeSo_276 : decode cL_isTimeSo 276 = .ok (.iload_n 3, 1) := by decide +kernel
theorem dL_isTimeSo_277 : decode cL_isTimeSo 277 = .ok (.iconst 1, 1) := by decide +kernel
theorem dL_isTimeSo_278 : decode cL_isTimeSo 278 = .ok (.if_icmp .le 15, 3) := by decide +kernel
theorem dL_isTimeSo_281 : decode cL_isTimeSo 281 = .ok (.iload 5, 2) := by decide +kernel
theorem dL_isTimeSo_283 : decode cL_isTimeSo 283 = .ok (.ifCond .lt 10, 3) := by decide +kernel
theorem dL_isTimeSo_286 : decode cL_isTimeSo 286 = .ok (.aload_n 0, 1) := by decide +kernel
theorem dL_isTimeSo_287 : decode cL_isTimeSo 287 = .ok (.invokevirtual 88, 3) := by decide +kernel
theorem dL_isTimeSo_290 : decode cL_isTimeSo 290 = .ok (.goto 4, 3) := by decide +kernel
theorem dL_isTimeSo_293 : decode cL_isTimeSo 293 = .ok (.iconst 0, 1) := by decide +kernel
theorem dL_isTimeSo_294 : decode cL_isTimeSo 294 = .ok (.istore 6, 2) := by decide +kernel
theorem dL_isTimeSo_296 : decode cL_isTimeSo 296 = .ok (.aload_n 0, 1) := by decide +kernel
theorem dL_isTimeSo_297 : decode cL_isTimeSo 297 = .ok (.iload_n 3, 1) := by decide +kernel
theorem dL_isTimeSo_298 : decode cL_isTimeSo 298 = .ok (.invokevirtual 48, 3) := by decide +kernel
theorem dL_isTimeSo_301 : decode cL_isTimeSo 301 = .ok (.istore 5, 2) := by decide +kernel
theorem dL_isTimeSo_303 : decode cL_isTimeSo 303 = .ok (.iload 4, 2) := by decide +kernel
theorem dL_isTimeSo_305 : decode cL_isTimeSo 305 = .ok (.ifCond .eq 25, 3) := by decide +kernel
theorem dL_isTimeSo_308 : decode cL_isTimeSo 308 = .ok (.iload 6, 2) := by decide +kernel
theorem dL_isTimeSo_310 : decode cL_isTimeSo 310 = .ok (.ifCond .lt 20, 3) := by decide +kernel
theorem dL_isTimeSo_313 : decode cL_isTimeSo 313 = .ok (.iload 5, 2) := by decide +kernel
theorem dL_isTimeSo_315 : decode cL_isTimeSo 315 = .ok (.ifCond .lt 11, 3) := by decide +kernel
theorem dL_isTimeSo_318 : decode cL_isTimeSo 318 = .ok (.aload_n 0, 1) := by decide +kernel
theorem dL_isTimeSo_319 : decode cL_isTimeSo 319 = .ok (.iload_n 1, 1) := by decide +kernel
theorem dL_isTimeSo_320 : decode cL_isTimeSo 320 = .ok (.invokevirtual 67, 3) := by decide +kernel
theorem dL_isTimeSo_323 : decode cL_isTimeSo 323 = .ok (.ifCond .ne 7, 3) := by decide +kernel
theorem dL_isTimeSo_326 : decode cL_isTimeSo 326 = .ok (.iconst 1, 1) := by decide +kernel
theorem dL_isTimeSo_327 : decode cL_isTimeSo 327 = .ok (.goto 4, 3) := by decide +kernel
theorem dL_isTimeSo_330 : decode cL_isTimeSo 330 = .ok (.iconst 0, 1) := by decide +kernel
theorem dL_isTimeSo_331 : decode cL_isTimeSo 331 = .ok (.istore 4, 2) := by decide +kernel
theorem dL_isTimeSo_333 : decode cL_isTimeSo 333 = .ok (.iload 5, 2) := by decide +kernel
theorem dL_isTimeSo_335 : decode cL_isTimeSo 335 = .ok (.ifCond .lt 10, 3) := by decide +kernel
theorem dL_isTimeSo_338 : decode cL_isTimeSo 338 = .ok (.aload_n 0, 1) := by decide +kernel
theorem dL_isTimeSo_339 : decode cL_isTimeSo 339 = .ok (.invokevirtual 88, 3) := by decide +kernel
theorem dL_isTimeSo_342 : decode cL_isTimeSo 342 = .ok (.goto 4, 3) := by decide +kernel
theorem dL_isTimeSo_345 : decode cL_isTimeSo 345 = .ok (.iconst 0, 1) := by decide +kernel
theorem dL_isTimeSo_346 : decode cL_isTimeSo 346 = .ok (.istore 6, 2) := by decide +kernel
theorem dL_isTimeSo_348 : decode cL_isTimeSo 348 = .ok (.iload 4, 2) := by decide +kernel
theorem dL_isTimeSo_350 : decode cL_isTimeSo 350 = .ok (.ireturn, 1) := by decide +kernel
theorem dL_isInsultSo_0 : decode cL_isInsultSo 0 = .ok (.aload_n 0, 1) := by decide +kernel
theorem dL_isInsultSo_1 : decode cL_isInsultSo 1 = .ok (.iload_n 1, 1) := by decide +kernel
theorem dL_isInsultSo_2 : decode cL_isInsultSo 2 = .ok (.iload_n 2, 1) := by decide +kernel
theorem dL_isInsultSo_3 : decode cL_isInsultSo 3 = .ok (.iload_n 3, 1) := by decide +kernel
theorem dL_isInsultSo_4 : decode cL_isInsultSo 4 = .ok (.invokevirtual 92, 3) := by decide +kernel
theorem dL_isInsultSo_7 : decode cL_isInsultSo 7 = .ok (.istore 4, 2) := by decide +kernel
theorem dL_isInsultSo_9 : decode cL_isInsultSo 9 = .ok (.aload_n 0, 1) := by decide +kernel
theorem dL_isInsultSo_10 : decode cL_isInsultSo 10 = .ok (.iload_n 1, 1) := by decide +kernel
theorem dL_isInsultSo_11 : decode cL_isInsultSo 11 = .ok (.iload_n 2, 1) := by decide +kernel
theorem dL_isInsultSo_12 : decode cL_isInsultSo 12 = .ok (.iload_n 3, 1) := by decide +kernel
theorem dL_isInsultSo_13 : decode cL_isInsultSo 13 = .ok (.invokevirtual 20, 3) := by decide +kernel
theorem dL_isInsultSo_16 : decode cL_isInsultSo 16 = .ok (.istore 5, 2) := by decide +kernel
theorem dL_isInsultSo_18 : decode cL_isInsultSo 18 = .ok (.iload 5, 2) := by decide +kernel
theorem dL_isInsultSo_20 : decode cL_isInsultSo 20 = .ok (.ifCond .ge 28, 3) := by decide +kernel
theorem dL_isInsultSo_23 : decode cL_isInsultSo 23 = .ok (.iload 5, 2) := by decide +kernel
theorem dL_isInsultSo_25 : decode cL_isInsultSo 25 = .ok (.bipush (-5), 2) := by decide +kernel
theorem dL_isInsultSo_27 : decode cL_isInsultSo 27 = .ok (.if_icmp .eq 10, 3) := by decide +kernel
theorem dL_isInsultSo_30 : decode cL_isInsultSo 30 = .ok (.iload 5, 2) := by decide +kernel
theorem dL_isInsultSo_32 : decode cL_isInsultSo 32 = .ok (.bipush (-4), 2) := by decide +kernel
theorem dL_isInsultSo_34 : decode cL_isInsultSo 34 = .ok (.if_icmp .ne 12, 3) := by decide +kernel
theorem dL_isInsultSo_37 : decode cL_isInsultSo 37 = .ok (.iload 4, 2) := by decide +kernel
theorem dL_isInsultSo_39 : decode cL_isInsultSo 39 = .ok (.ifCond .lt 7, 3) := by decide +kernel
theorem dL_isInsultSo_42 : decode cL_isInsultSo 42 = .ok (.iconst 1, 1) := by decide +kernel
theorem dL_isInsultSo_43 : decode cL_isInsultSo 43 = .ok (.goto 4, 3) := by decide +kernel
theorem dL_isInsultSo_46 : decode cL_isInsultSo 46 = .ok (.iconst 0, 1) := by decide +kernel
theorem dL_isInsultSo_47 : decode cL_isInsultSo 47 = .ok (.ireturn, 1) := by decide +kernel
theorem dL_isInsultSo_48 : decode cL_isInsultSo 48 = .ok (.aload_n 0, 1) := by decide +kernel
theorem dL_isInsultSo_49 : decode cL_isInsultSo 49 = .ok (.iload 5, 2) := by decide +kernel
theorem dL_isInsultSo_51 : decode cL_isInsultSo 51 = .ok (.bipush 7, 2) := by decide +kernel
theorem dL_isInsultSo_53 : decode cL_isInsultSo 53 = .ok (.invokevirtual 57, 3) := by decide +kernel
theorem dL_isInsultSo_56 : decode cL_isInsultSo 56 = .ok (.iload 4, 2) := by decide +kernel
theorem dL_isInsultSo_58 : decode cL_isInsultSo 58 = .ok (.if_icmp .ne 37, 3) := by decide +kernel
theorem dL_isInsultSo_61 : decode cL_isInsultSo 61 = .ok (.aload_n 0, 1) := by decide +kernel
theorem dL_isInsultSo_62 : decode cL_isInsultSo 62 = .ok (.iconst 0, 1) := by decide +kernel
theorem dL_isInsultSo_63 : decode cL_isInsultSo 63 = .ok (.iconst 0, 1) := by decide +kernel
theorem dL_isInsultSo_64 : decode cL_isInsultSo 64 = .ok (.invokevirtual 54, 3) := by decide +kernel
theorem dL_isInsultSo_67 : decode cL_isInsultSo 67 = .ok (.ifCond .ne 28, 3) := by decide +kernel
theorem dL_isInsultSo_70 : decode cL_isInsultSo 70 = .ok (.aload_n 0, 1) := by decide +kernel
theorem dL_isInsultSo_71 : decode cL_isInsultSo 71 = .ok (.iconst 0, 1) := by decide +kernel
theorem dL_isInsultSo_72 : decode cL_isInsultSo 72 = .ok (.iconst 2, 1) := by decide +kernel
theorem dL_isInsultSo_73 : decode cL_isInsultSo 73 = .ok (.invokevirtual 54, 3) := by decide +kernel
theorem dL_isInsultSo_76 : decode cL_isInsultSo 76 = .ok (.iload 5, 2) := by decide +kernel
theorem dL_isInsultSo_78 : decode cL_isInsultSo 78 = .ok (.if_icmp .ne 17, 3) := by decide +kernel
theorem dL_isInsultSo_81 : decode cL_isInsultSo 81 = .ok (.aload_n 0, 1) := by decide +kernel
theorem dL_isInsultSo_82 : decode cL_isInsultSo 82 = .ok (.iload 5, 2) := by decide +kernel
theorem dL_isInsultSo_84 : decode cL_isInsultSo 84 = .ok (.iconst 3, 1) := by decide +kernel
theorem dL_isInsultSo_85 : decode cL_isInsultSo 85 = .ok (.invokevirtual 57, 3) := by decide +kernel
theorem dL_isInsultSo_88 : decode cL_isInsultSo 88 = .ok (.ifCond .ne 7, 3) := by decide +kernel
theorem dL_isInsultSo_91 : decode cL_isInsultSo 91 = .ok (.iconst 1, 1) := by decide +kernel
theorem dL_isInsultSo_92 : decode cL_isInsultSo 92 = .ok (.goto 4, 3) := by decide +kernel
theorem dL_isInsultSo_95 : decode cL_isInsultSo 95 = .ok (.iconst 0, 1) := by decide +kernel
theorem dL_isInsultSo_96 : decode cL_isInsultSo 96 = .ok (.istore 6, 2) := by decide +kernel
theorem dL_isInsultSo_98 : decode cL_isInsultSo 98 = .ok (.aload_n 0, 1) := by decide +kernel
theorem dL_isInsultSo_99 : decode cL_isInsultSo 99 = .ok (.invokevirtual 88, 3) := by decide +kernel
theorem dL_isInsultSo_102 : decode cL_isInsultSo 102 = .ok (.istore 7, 2) := by decide +kernel
theorem dL_isInsultSo_104 : decode cL_isInsultSo 104 = .ok (.iload 6, 2) := by decide +kernel
theorem dL_isInsultSo_106 : decode cL_isInsultSo 106 = .ok (.ifCond .eq 22, 3) := by decide +kernel
theorem dL_isInsultSo_109 : decode cL_isInsultSo 109 = .ok (.iload 7, 2) := by decide +kernel
theorem dL_isInsultSo_111 : decode cL_isInsultSo 111 = .ok (.ifCond .lt 17, 3) := by decide +kernel
theorem dL_isInsultSo_114 : decode cL_isInsultSo 114 = .ok (.aload_n 0, 1) := by decide +kernel
theorem dL_isInsultSo_115 : decode cL_isInsultSo 115 = .ok (.iconst 2, 1) := by decide +kernel
theorem dL_isInsultSo_116 : decode cL_isInsultSo 116 = .ok (.invokevirtual 10, 3) := by decide +kernel
theorem dL_isInsultSo_119 : decode cL_isInsultSo 119 = .ok (.iload 5, 2) := by decide +kernel
theorem dL_isInsultSo_121 : decode cL_isInsultSo 121 = .ok (.if_icmp .ne 7, 3) := by decide +kernel
theorem dL_isInsultSo_124 : decode cL_isInsultSo 124 = .ok (.iconst 1, 1) := by decide +kernel
theorem dL_isInsultSo_125 : decode cL_isInsultSo 125 = .ok (.goto 4, 3) := by decide +kernel
theorem dL_isInsultSo_128 : decode cL_isInsultSo 128 = .ok (.iconst 0, 1) := by decide +kernel
theorem dL_isInsultSo_129 : decode cL_isInsultSo 129 = .ok (.ireturn, 1) := by decide +kernel
theorem dL_law_0 : decode cL_law 0 = .ok (.new 8, 3) := by decide +kernel
theorem dL_law_3 : decode cL_law 3 = .ok (.dup, 1) := by decide +kernel
theorem dL_law_4 : decode cL_law 4 = .ok (.invokespecial 95, 3) := by decide +kernel
theorem dL_law_7 : decode cL_law 7 = .ok (.astore_n 1, 1) := by decide +kernel
theorem dL_law_8 : decode cL_law 8 = .ok (.iconst 0, 1) := by decide +kernel
theorem dL_law_9 : decode cL_law 9 = .ok (.istore_n 2, 1) := by decide +kernel
theorem dL_law_10 : decode cL_law 10 = .ok (.iload_n 2, 1) := by decide +kernel
theorem dL_law_11 : decode cL_law 11 = .ok (.iconst 4, 1) := by decide +kernel
theorem dL_law_12 : decode cL_law 12 = .ok (.if_icmp .ge 43, 3) := by decide +kernel
theorem dL_law_15 : decode cL_law 15 = .ok (.aload_n 1, 1) := by decide +kernel
theorem dL_law_16 : decode cL_law 16 = .ok (.aload_n 0, 1) := by decide +kernel
theorem dL_law_17 : decode cL_law 17 = .ok (.iload_n 2, 1) := by decide +kernel
theorem dL_law_18 : decode cL_law 18 = .ok (.invokestatic 96, 3) := by decide +kernel
theorem dL_law_21 : decode cL_law 21 = .ok (.bipush 10, 2) := by decide +kernel
theorem dL_law_23 : decode cL_law 23 = .ok (.invokestatic 14, 3) := by decide +kernel
theorem dL_law_26 : decode cL_law 26 = .ok (.aload_n 0, 1) := by decide +kernel
theorem dL_law_27 : decode cL_law 27 = .ok (.iload_n 2, 1) := by decide +kernel
theorem dL_law_28 : decode cL_law 28 = .ok (.invokestatic 96, 3) := by decide +kernel
theorem dL_law_31 : decode cL_law 31 = .ok (.iconst 4, 1) := by decide +kernel
theorem dL_law_32 : decode cL_law 32 = .ok (.ishr, 1) := by decide +kernel
theorem dL_law_33 : decode cL_law 33 = .ok (.bipush 10, 2) := by decide +kernel
theorem dL_law_35 : decode cL_law 35 = .ok (.invokestatic 14, 3) := by decide +kernel
theorem dL_law_38 : decode cL_law 38 = .ok (.invokevirtual 42, 3) := by decide +kernel
theorem dL_law_41 : decode cL_law 41 = .ok (.istore_n 3, 1) := by decide +kernel
theorem dL_law_42 : decode cL_law 42 = .ok (.iload_n 3, 1) := by decide +kernel
theorem dL_law_43 : decode cL_law 43 = .ok (.iload_n 2, 1) := by decide +kernel
theorem dL_law_44 : decode cL_law 44 = .ok (.if_icmp .eq 5, 3) := by decide +kernel
theorem dL_law_47 : decode cL_law 47 = .ok (.iconst 0, 1) := by decide +kernel
theorem dL_law_48 : decode cL_law 48 = .ok (.ireturn, 1) := by decide +kernel
theorem dL_law_49 : decode cL_law 49 = .ok (.iinc 2 1, 3) := by decide +kernel
theorem dL_law_52 : decode cL_law 52 = .ok (.goto (-42), 3) := by decide +kernel
theorem dL_law_55 : decode cL_law 55 = .ok (.iconst 4, 1) := by decide +kernel
theorem dL_law_56 : decode cL_law 56 = .ok (.istore_n 2, 1) := by decide +kernel
theorem dL_law_57 : decode cL_law 57 = .ok (.iload_n 2, 1) := by decide +kernel
theorem dL_law_58 : decode cL_law 58 = .ok (.bipush 54, 2) := by decide +kernel
theorem dL_law_60 : decode cL_law 60 = .ok (.if_icmp .ge 108, 3) := by decide +kernel
theorem dL_law_63 : decode cL_law 63 = .ok (.aload_n 0, 1) := by decide +kernel
theorem dL_law_64 : decode cL_law 64 = .ok (.iload_n 2, 1) := by decide +kernel
theorem dL_law_65 : decode cL_law 65 = .ok (.invokestatic 96, 3) := by decide +kernel
theorem dL_law_68 : decode cL_law 68 = .ok (.istore_n 3, 1) := by decide +kernel
theorem dL_law_69 : decode cL_law 69 = .ok (.iload_n 3, 1) := by decide +kernel
theorem dL_law_70 : decode cL_law 70 = .ok (.iconst 3, 1) := by decide +kernel
theorem dL_law_71 : decode cL_law 71 = .ok (.ishr, 1) := by decide +kernel
theorem dL_law_72 : decode cL_law 72 = .ok (.iconst 4, 1) := by decide +kernel
theorem dL_law_73 : decode cL_law 73 = .ok (.invokestatic 14, 3) := by decide +kernel
theorem dL_law_76 : decode cL_law 76 = .ok (.istore 4, 2) := by decide +kernel
theorem dL_law_78 : decode cL_law 78 = .ok (.aload_n 1, 1) := by decide +kernel
theorem dL_law_79 : decode cL_law 79 = .ok (.iload_n 3, 1) := by decide +kernel
theorem dL_law_80 : decode cL_law 80 = .ok (.invokestatic 100, 3) := by decide +kernel
theorem dL_law_83 : decode cL_law 83 = .ok (.ifCond .lt 77, 3) := by decide +kernel
theorem dL_law_86 : decode cL_law 86 = .ok (.aload_n 1, 1) := by decide +kernel
theorem dL_law_87 : decode cL_law 87 = .ok (.invokestatic 104, 3) := by decide +kernel
theorem dL_law_90 : decode cL_law 90 = .ok (.ifCond .eq 70, 3) := by decide +kernel
theorem dL_law_93 : decode cL_law 93 = .ok (.aload_n 1, 1) := by decide +kernel
theorem dL_law_94 : decode cL_law 94 = .ok (.invokestatic 108, 3) := by decide +kernel
theorem dL_law_97 : decode cL_law 97 = .ok (.ifCond .eq 63, 3) := by decide +kernel
theorem dL_law_100 : decode cL_law 100 = .ok (.aload_n 1, 1) := by decide +kernel
theorem dL_law_101 : decode cL_law 101 = .ok (.iload 4, 2) := by decide +kernel
theorem dL_law_103 : decode cL_law 103 = .ok (.iload 4, 2) := by decide +kernel
theorem dL_law_105 : decode cL_law 105 = .ok (.iconst 1, 1) := by decide +kernel
theorem dL_law_106 : decode cL_law 106 = .ok (.iadd, 1) := by decide +kernel
theorem dL_law_107 : decode cL_law 107 = .ok (.iload_n 3, 1) := by decide +kernel
theorem dL_law_108 : decode cL_law 108 = .ok (.iconst 5, 1) := by decide +kernel
theorem dL_law_109 : decode cL_law 109 = .ok (.ishr, 1) := by decide +kernel
theorem dL_law_110 : decode cL_law 110 = .ok (.iconst 3, 1) := by decide +kernel
theorem dL_law_111 : decode cL_law 111 = .ok (.invokestatic 14, 3) := by decide +kernel
theorem dL_law_114 : decode cL_law 114 = .ok (.iadd, 1) := by decide +kernel
theorem dL_law_115 : decode cL_law 115 = .ok (.iconst 4, 1) := by decide +kernel
theorem dL_law_116 : decode cL_law 116 = .ok (.irem, 1) := by decide +kernel
theorem dL_law_117 : decode cL_law 117 = .ok (.iconst 1, 1) := by decide +kernel
theorem dL_law_118 : decode cL_law 118 = .ok (.iload_n 3, 1) := by decide +kernel
theorem dL_law_119 : decode cL_law 119 = .ok (.bipush 7, 2) := by decide +kernel
theorem dL_law_121 : decode cL_law 121 = .ok (.ishr, 1) := by decide +kernel
theorem dL_law_122 : decode cL_law 122 = .ok (.bipush 9, 2) := by decide +kernel
theorem dL_law_124 : decode cL_law 124 = .ok (.invokestatic 14, 3) := by decide +kernel
theorem dL_law_127 : decode cL_law 127 = .ok (.iadd, 1) := by decide +kernel
theorem dL_law_128 : decode cL_law 128 = .ok (.invokestatic 111, 3) := by decide +kernel
theorem dL_law_131 : decode cL_law 131 = .ok (.ifCond .eq 29, 3) := by decide +kernel
theorem dL_law_134 : decode cL_law 134 = .ok (.aload_n 1, 1) := by decide +kernel
theorem dL_law_135 : decode cL_law 135 = .ok (.iconst 2, 1) := by decide +kernel
theorem dL_law_136 : decode cL_law 136 = .ok (.invokevirtual 10, 3) := by decide +kernel
theorem dL_law_139 : decode cL_law 139 = .ok (.ifCond .le 23, 3) := by decide +kernel
theorem dL_law_142 : decode cL_law 142 = .ok (.aload_n 1, 1) := by decide +kernel
theorem dL_law_143 : decode cL_law 143 = .ok (.iload_n 3, 1) := by decide +kernel
theorem dL_law_144 : decode cL_law 144 = .ok (.iconst 4, 1) := by decide +kernel
theorem dL_law_145 : decode cL_law 145 = .ok (.ishr, 1) := by decide +kernel
theorem dL_law_146 : decode cL_law 146 = .ok (.aload_n 1, 1) := by decide +kernel
theorem dL_law_147 : decode cL_law 147 = .ok (.iconst 2, 1) := by decide +kernel
theorem dL_law_148 : decode cL_law 148 = .ok (.invokevirtual 10, 3) := by decide +kernel
theorem dL_law_151 : decode cL_law 151 = .ok (.invokestatic 14, 3) := by decide +kernel
theorem dL_law_154 : decode cL_law 154 = .ok (.invokestatic 115, 3) := by decide +kernel
theorem dL_law_157 : decode cL_law 157 = .ok (.ifCond .ne 5, 3) := by decide +kernel
theorem dL_law_160 : decode cL_law 160 = .ok (.iconst 0, 1) := by decide +kernel
theorem dL_law_161 : decode cL_law 161 = .ok (.ireturn, 1) := by decide +kernel
theorem dL_law_162 : decode cL_law 162 = .ok (.iinc 2 1, 3) := by decide +kernel
theorem dL_law_165 : decode cL_law 165 = .ok (.goto (-108), 3) := by decide +kernel
theorem dL_law_168 : decode cL_law 168 = .ok (.iconst 1, 1) := by decide +kernel
theorem dL_law_169 : decode cL_law 169 = .ok (.ireturn, 1) := by decide +kernel
