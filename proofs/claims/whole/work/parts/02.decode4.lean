theorem dX9_readsStatement_239 : decode cX9_readsStatement 239 = .ok (.iconst 1, 1) := by decide +kernel
theorem dX9_readsStatement_240 : decode cX9_readsStatement 240 = .ok (.ireturn, 1) := by decide +kernel
theorem dX9_canGive_0 : decode cX9_canGive 0 = .ok (.aload_n 0, 1) := by decide +kernel
theorem dX9_canGive_1 : decode cX9_canGive 1 = .ok (.getfield 9, 3) := by decide +kernel
theorem dX9_canGive_4 : decode cX9_canGive 4 = .ok (.iload_n 1, 1) := by decide +kernel
theorem dX9_canGive_5 : decode cX9_canGive 5 = .ok (.iconst 2, 1) := by decide +kernel
theorem dX9_canGive_6 : decode cX9_canGive 6 = .ok (.invokestatic 44, 3) := by decide +kernel
theorem dX9_canGive_9 : decode cX9_canGive 9 = .ok (.iaload, 1) := by decide +kernel
theorem dX9_canGive_10 : decode cX9_canGive 10 = .ok (.iload_n 3, 1) := by decide +kernel
theorem dX9_canGive_11 : decode cX9_canGive 11 = .ok (.invokestatic 65, 3) := by decide +kernel
theorem dX9_canGive_14 : decode cX9_canGive 14 = .ok (.ifCond .eq 24, 3) := by decide +kernel
theorem dX9_canGive_17 : decode cX9_canGive 17 = .ok (.aload_n 0, 1) := by decide +kernel
theorem dX9_canGive_18 : decode cX9_canGive 18 = .ok (.getfield 9, 3) := by decide +kernel
theorem dX9_canGive_21 : decode cX9_canGive 21 = .ok (.iload_n 2, 1) := by decide +kernel
theorem dX9_canGive_22 : decode cX9_canGive 22 = .ok (.iconst 2, 1) := by decide +kernel
theorem dX9_canGive_23 : decode cX9_canGive 23 = .ok (.invokestatic 44, 3) := by decide +kernel
theorem dX9_canGive_26 : decode cX9_canGive 26 = .ok (.iaload, 1) := by decide +kernel
theorem dX9_canGive_27 : decode cX9_canGive 27 = .ok (.iload_n 3, 1) := by decide +kernel
theorem dX9_canGive_28 : decode cX9_canGive 28 = .ok (.invokestatic 65, 3) := by decide +kernel
theorem dX9_canGive_31 : decode cX9_canGive 31 = .ok (.ifCond .ne 7, 3) := by decide +kernel
theorem dX9_canGive_34 : decode cX9_canGive 34 = .ok (.iconst 1, 1) := by decide +kernel
theorem dX9_canGive_35 : decode cX9_canGive 35 = .ok (.goto 4, 3) := by decide +kernel
theorem dX9_canGive_38 : decode cX9_canGive 38 = .ok (.iconst 0, 1) := by decide +kernel
theorem dX9_canGive_39 : decode cX9_canGive 39 = .ok (.ireturn, 1) := by decide +kernel
theorem dX9_isDone_0 : decode cX9_isDone 0 = .ok (.aload_n 0, 1) := by decide +kernel
theorem dX9_isDone_1 : decode cX9_isDone 1 = .ok (.getfield 31, 3) := by decide +kernel
theorem dX9_isDone_4 : decode cX9_isDone 4 = .ok (.iconst 0, 1) := by decide +kernel
theorem dX9_isDone_5 : decode cX9_isDone 5 = .ok (.iaload, 1) := by decide +kernel
theorem dX9_isDone_6 : decode cX9_isDone 6 = .ok (.istore_n 2, 1) := by decide +kernel
theorem dX9_isDone_7 : decode cX9_isDone 7 = .ok (.aload_n 0, 1) := by decide +kernel
theorem dX9_isDone_8 : decode cX9_isDone 8 = .ok (.getfield 31, 3) := by decide +kernel
theorem dX9_isDone_11 : decode cX9_isDone 11 = .ok (.iconst 1, 1) := by decide +kernel
theorem dX9_isDone_12 : decode cX9_isDone 12 = .ok (.iaload, 1) := by decide +kernel
theorem dX9_isDone_13 : decode cX9_isDone 13 = .ok (.istore_n 3, 1) := by decide +kernel
theorem dX9_isDone_14 : decode cX9_isDone 14 = .ok (.iload_n 1, 1) := by decide +kernel
theorem dX9_isDone_15 : decode cX9_isDone 15 = .ok (.tableswitch 290 111 120 #[159, 290, 290, 290, 290, 194, 290, 290, 53, 223], 53) := by decide +kernel
theorem dX9_isDone_68 : decode cX9_isDone 68 = .ok (.aload_n 0, 1) := by decide +kernel
theorem dX9_isDone_69 : decode cX9_isDone 69 = .ok (.getfield 31, 3) := by decide +kernel
theorem dX9_isDone_72 : decode cX9_isDone 72 = .ok (.iconst 2, 1) := by decide +kernel
theorem dX9_isDone_73 : decode cX9_isDone 73 = .ok (.iaload, 1) := by decide +kernel
theorem dX9_isDone_74 : decode cX9_isDone 74 = .ok (.bipush 127, 2) := by decide +kernel
theorem dX9_isDone_76 : decode cX9_isDone 76 = .ok (.if_icmp .gt 14, 3) := by decide +kernel
theorem dX9_isDone_79 : decode cX9_isDone 79 = .ok (.aload_n 0, 1) := by decide +kernel
theorem dX9_isDone_80 : decode cX9_isDone 80 = .ok (.getfield 9, 3) := by decide +kernel
theorem dX9_isDone_83 : decode cX9_isDone 83 = .ok (.iconst 0, 1) := by decide +kernel
theorem dX9_isDone_84 : decode cX9_isDone 84 = .ok (.iaload, 1) := by decide +kernel
theorem dX9_isDone_85 : decode cX9_isDone 85 = .ok (.bipush 6, 2) := by decide +kernel
theorem dX9_isDone_87 : decode cX9_isDone 87 = .ok (.if_icmp .ne 5, 3) := by decide +kernel
theorem dX9_isDone_90 : decode cX9_isDone 90 = .ok (.iconst 0, 1) := by decide +kernel
theorem dX9_isDone_91 : decode cX9_isDone 91 = .ok (.ireturn, 1) := by decide +kernel
theorem dX9_isDone_92 : decode cX9_isDone 92 = .ok (.iconst 0, 1) := by decide +kernel
theorem dX9_isDone_93 : decode cX9_isDone 93 = .ok (.istore 4, 2) := by decide +kernel
theorem dX9_isDone_95 : decode cX9_isDone 95 = .ok (.iload 4, 2) := by decide +kernel
theorem dX9_isDone_97 : decode cX9_isDone 97 = .ok (.iconst 3, 1) := by decide +kernel
theorem dX9_isDone_98 : decode cX9_isDone 98 = .ok (.if_icmp .ge 32, 3) := by decide +kernel
theorem dX9_isDone_101 : decode cX9_isDone 101 = .ok (.aload_n 0, 1) := by decide +kernel
theorem dX9_isDone_102 : decode cX9_isDone 102 = .ok (.getfield 9, 3) := by decide +kernel
theorem dX9_isDone_105 : decode cX9_isDone 105 = .ok (.aload_n 0, 1) := by decide +kernel
theorem dX9_isDone_106 : decode cX9_isDone 106 = .ok (.getfield 9, 3) := by decide +kernel
theorem dX9_isDone_109 : decode cX9_isDone 109 = .ok (.iconst 0, 1) := by decide +kernel
theorem dX9_isDone_110 : decode cX9_isDone 110 = .ok (.iaload, 1) := by decide +kernel
theorem dX9_isDone_111 : decode cX9_isDone 111 = .ok (.iload 4, 2) := by decide +kernel
theorem dX9_isDone_113 : decode cX9_isDone 113 = .ok (.invokestatic 44, 3) := by decide +kernel
theorem dX9_isDone_116 : decode cX9_isDone 116 = .ok (.aload_n 0, 1) := by decide +kernel
theorem dX9_isDone_117 : decode cX9_isDone 117 = .ok (.getfield 31, 3) := by decide +kernel
theorem dX9_isDone_120 : decode cX9_isDone 120 = .ok (.iload 4, 2) := by decide +kernel
theorem dX9_isDone_122 : decode cX9_isDone 122 = .ok (.iaload, 1) := by decide +kernel
theorem dX9_isDone_123 : decode cX9_isDone 123 = .ok (.iastore, 1) := by decide +kernel
theorem dX9_isDone_124 : decode cX9_isDone 124 = .ok (.iinc 4 1, 3) := by decide +kernel
theorem dX9_isDone_127 : decode cX9_isDone 127 = .ok (.goto (-32), 3) := by decide +kernel
theorem dX9_isDone_130 : decode cX9_isDone 130 = .ok (.aload_n 0, 1) := by decide +kernel
theorem dX9_isDone_131 : decode cX9_isDone 131 = .ok (.getfield 9, 3) := by decide +kernel
theorem dX9_isDone_134 : decode cX9_isDone 134 = .ok (.aload_n 0, 1) := by decide +kernel
theorem dX9_isDone_135 : decode cX9_isDone 135 = .ok (.getfield 9, 3) := by decide +kernel
theorem dX9_isDone_138 : decode cX9_isDone 138 = .ok (.iconst 0, 1) := by decide +kernel
theorem dX9_isDone_139 : decode cX9_isDone 139 = .ok (.iaload, 1) := by decide +kernel
theorem dX9_isDone_140 : decode cX9_isDone 140 = .ok (.iconst 3, 1) := by decide +kernel
theorem dX9_isDone_141 : decode cX9_isDone 141 = .ok (.invokestatic 44, 3) := by decide +kernel
theorem dX9_isDone_144 : decode cX9_isDone 144 = .ok (.iconst 0, 1) := by decide +kernel
theorem dX9_isDone_145 : decode cX9_isDone 145 = .ok (.iastore, 1) := by decide +kernel
theorem dX9_isDone_146 : decode cX9_isDone 146 = .ok (.aload_n 0, 1) := by decide +kernel
theorem dX9_isDone_147 : decode cX9_isDone 147 = .ok (.getfield 9, 3) := by decide +kernel
theorem dX9_isDone_150 : decode cX9_isDone 150 = .ok (.aload_n 0, 1) := by decide +kernel
theorem dX9_isDone_151 : decode cX9_isDone 151 = .ok (.getfield 9, 3) := by decide +kernel
theorem dX9_isDone_154 : decode cX9_isDone 154 = .ok (.iconst 0, 1) := by decide +kernel
theorem dX9_isDone_155 : decode cX9_isDone 155 = .ok (.iaload, 1) := by decide +kernel
theorem dX9_isDone_156 : decode cX9_isDone 156 = .ok (.iconst 4, 1) := by decide +kernel
theorem dX9_isDone_157 : decode cX9_isDone 157 = .ok (.invokestatic 44, 3) := by decide +kernel
theorem dX9_isDone_160 : decode cX9_isDone 160 = .ok (.iconst 0, 1) := by decide +kernel
theorem dX9_isDone_161 : decode cX9_isDone 161 = .ok (.iastore, 1) := by decide +kernel
theorem dX9_isDone_162 : decode cX9_isDone 162 = .ok (.aload_n 0, 1) := by decide +kernel
theorem dX9_isDone_163 : decode cX9_isDone 163 = .ok (.getfield 9, 3) := by decide +kernel
theorem dX9_isDone_166 : decode cX9_isDone 166 = .ok (.iconst 0, 1) := by decide +kernel
theorem dX9_isDone_167 : decode cX9_isDone 167 = .ok (.dup2, 1) := by decide +kernel
theorem dX9_isDone_168 : decode cX9_isDone 168 = .ok (.iaload, 1) := by decide +kernel
theorem dX9_isDone_169 : decode cX9_isDone 169 = .ok (.iconst 1, 1) := by decide +kernel
theorem dX9_isDone_170 : decode cX9_isDone 170 = .ok (.iadd, 1) := by decide +kernel
theorem dX9_isDone_171 : decode cX9_isDone 171 = .ok (.iastore, 1) := by decide +kernel
theorem dX9_isDone_172 : decode cX9_isDone 172 = .ok (.iconst 1, 1) := by decide +kernel
theorem dX9_isDone_173 : decode cX9_isDone 173 = .ok (.ireturn, 1) := by decide +kernel
theorem dX9_isDone_174 : decode cX9_isDone 174 = .ok (.aload_n 0, 1) := by decide +kernel
theorem dX9_isDone_175 : decode cX9_isDone 175 = .ok (.iload_n 2, 1) := by decide +kernel
theorem dX9_isDone_176 : decode cX9_isDone 176 = .ok (.invokevirtual 113, 3) := by decide +kernel
theorem dX9_isDone_179 : decode cX9_isDone 179 = .ok (.ifCond .eq 10, 3) := by decide +kernel
theorem dX9_isDone_182 : decode cX9_isDone 182 = .ok (.iload_n 3, 1) := by decide +kernel
theorem dX9_isDone_183 : decode cX9_isDone 183 = .ok (.invokestatic 117, 3) := by decide +kernel
theorem dX9_isDone_186 : decode cX9_isDone 186 = .ok (.ifCond .ne 5, 3) := by decide +kernel
theorem dX9_isDone_189 : decode cX9_isDone 189 = .ok (.iconst 0, 1) := by decide +kernel
theorem dX9_isDone_190 : decode cX9_isDone 190 = .ok (.ireturn, 1) := by decide +kernel
theorem dX9_isDone_191 : decode cX9_isDone 191 = .ok (.aload_n 0, 1) := by decide +kernel
theorem dX9_isDone_192 : decode cX9_isDone 192 = .ok (.getfield 9, 3) := by decide +kernel
theorem dX9_isDone_195 : decode cX9_isDone 195 = .ok (.iload_n 2, 1) := by decide +kernel
theorem dX9_isDone_196 : decode cX9_isDone 196 = .ok (.iconst 2, 1) := by decide +kernel
theorem dX9_isDone_197 : decode cX9_isDone 197 = .ok (.invokestatic 44, 3) := by decide +kernel
theorem dX9_isDone_200 : decode cX9_isDone 200 = .ok (.dup2, 1) := by decide +kernel
theorem dX9_isDone_201 : decode cX9_isDone 201 = .ok (.iaload, 1) := by decide +kernel
theorem dX9_isDone_202 : decode cX9_isDone 202 = .ok (.iconst 1, 1) := by decide +kernel
theorem dX9_isDone_203 : decode cX9_isDone 203 = .ok (.iload_n 3, 1) := by decide +kernel
theorem dX9_isDone_204 : decode cX9_isDone 204 = .ok (.ishl, 1) := by decide +kernel
theorem dX9_isDone_205 : decode cX9_isDone 205 = .ok (.ixor, 1) := by decide +kernel
theorem dX9_isDone_206 : decode cX9_isDone 206 = .ok (.iastore, 1) := by decide +kernel
theorem dX9_isDone_207 : decode cX9_isDone 207 = .ok (.iconst 1, 1) := by decide +kernel
theorem dX9_isDone_208 : decode cX9_isDone 208 = .ok (.ireturn, 1) := by decide +kernel
theorem dX9_isDone_209 : decode cX9_isDone 209 = .ok (.aload_n 0, 1) := by decide +kernel
theorem dX9_isDone_210 : decode cX9_isDone 210 = .ok (.iload_n 2, 1) := by decide +kernel
theorem dX9_isDone_211 : decode cX9_isDone 211 = .ok (.invokevirtual 113, 3) := by decide +kernel
theorem dX9_isDone_214 : decode cX9_isDone 214 = .ok (.ifCond .eq 9, 3) := by decide +kernel
theorem dX9_isDone_217 : decode cX9_isDone 217 = .ok (.iload_n 3, 1) := by decide +kernel
theorem dX9_isDone_218 : decode cX9_isDone 218 = .ok (.bipush 30, 2) := by decide +kernel
theorem dX9_isDone_220 : decode cX9_isDone 220 = .ok (.if_icmp .le 5, 3) := by decide +kernel
theorem dX9_isDone_223 : decode cX9_isDone 223 = .ok (.iconst 0, 1) := by decide +kernel
theorem dX9_isDone_224 : decode cX9_isDone 224 = .ok (.ireturn, 1) := by decide +kernel
theorem dX9_isDone_225 : decode cX9_isDone 225 = .ok (.aload_n 0, 1) := by decide +kernel
theorem dX9_isDone_226 : decode cX9_isDone 226 = .ok (.getfield 9, 3) := by decide +kernel
theorem dX9_isDone_229 : decode cX9_isDone 229 = .ok (.iload_n 2, 1) := by decide +kernel
theorem dX9_isDone_230 : decode cX9_isDone 230 = .ok (.iconst 3, 1) := by decide +kernel
theorem dX9_isDone_231 : decode cX9_isDone 231 = .ok (.invokestatic 44, 3) := by decide +kernel
theorem dX9_isDone_234 : decode cX9_isDone 234 = .ok (.iload_n 3, 1) := by decide +kernel
theorem dX9_isDone_235 : decode cX9_isDone 235 = .ok (.iastore, 1) := by decide +kernel
theorem dX9_isDone_236 : decode cX9_isDone 236 = .ok (.iconst 1, 1) := by decide +kernel
theorem dX9_isDone_237 : decode cX9_isDone 237 = .ok (.ireturn, 1) := by decide +kernel
theorem dX9_isDone_238 : decode cX9_isDone 238 = .ok (.aload_n 0, 1) := by decide +kernel
theorem dX9_isDone_239 : decode cX9_isDone 239 = .ok (.iload_n 2, 1) := by decide +kernel
theorem dX9_isDone_240 : decode cX9_isDone 240 = .ok (.invokevirtual 113, 3) := by decide +kernel
theorem dX9_isDone_243 : decode cX9_isDone 243 = .ok (.ifCond .eq 43, 3) := by decide +kernel
theorem dX9_isDone_246 : decode cX9_isDone 246 = .ok (.aload_n 0, 1) := by decide +kernel
theorem dX9_isDone_247 : decode cX9_isDone 247 = .ok (.iload_n 3, 1) := by decide +kernel
theorem dX9_isDone_248 : decode cX9_isDone 248 = .ok (.invokevirtual 113, 3) := by decide +kernel
theorem dX9_isDone_251 : decode cX9_isDone 251 = .ok (.ifCond .eq 35, 3) := by decide +kernel
theorem dX9_isDone_254 : decode cX9_isDone 254 = .ok (.iload_n 2, 1) := by decide +kernel
theorem dX9_isDone_255 : decode cX9_isDone 255 = .ok (.iload_n 3, 1) := by decide +kernel
theorem dX9_isDone_256 : decode cX9_isDone 256 = .ok (.if_icmp .eq 30, 3) := by decide +kernel
theorem dX9_isDone_259 : decode cX9_isDone 259 = .ok (.aload_n 0, 1) := by decide +kernel
theorem dX9_isDone_260 : decode cX9_isDone 260 = .ok (.getfield 31, 3) := by decide +kernel
theorem dX9_isDone_263 : decode cX9_isDone 263 = .ok (.iconst 2, 1) := by decide +kernel
theorem dX9_isDone_264 : decode cX9_isDone 264 = .ok (.iaload, 1) := by decide +kernel
theorem dX9_isDone_265 : decode cX9_isDone 265 = .ok (.invokestatic 117, 3) := by decide +kernel
theorem dX9_isDone_268 : decode cX9_isDone 268 = .ok (.ifCond .eq 18, 3) := by decide +kernel
theorem dX9_isDone_271 : decode cX9_isDone 271 = .ok (.aload_n 0, 1) := by decide +kernel
theorem dX9_isDone_272 : decode cX9_isDone 272 = .ok (.iload_n 2, 1) := by decide +kernel
theorem dX9_isDone_273 : decode cX9_isDone 273 = .ok (.iload_n 3, 1) := by decide +kernel
theorem dX9_isDone_274 : decode cX9_isDone 274 = .ok (.aload_n 0, 1) := by decide +kernel
theorem dX9_isDone_275 : decode cX9_isDone 275 = .ok (.getfield 31, 3) := by decide +kernel
theorem dX9_isDone_278 : decode cX9_isDone 278 = .ok (.iconst 2, 1) := by decide +kernel
theorem dX9_isDone_279 : decode cX9_isDone 279 = .ok (.iaload, 1) := by decide +kernel
theorem dX9_isDone_280 : decode cX9_isDone 280 = .ok (.invokevirtual 120, 3) := by decide +kernel
theorem dX9_isDone_283 : decode cX9_isDone 283 = .ok (.ifCond .ne 5, 3) := by decide +kernel
theorem dX9_isDone_286 : decode cX9_isDone 286 = .ok (.iconst 0, 1) := by decide +kernel
theorem dX9_isDone_287 : decode cX9_isDone 287 = .ok (.ireturn, 1) := by decide +kernel
theorem dX9_isDone_288 : decode cX9_isDone 288 = .ok (.aload_n 0, 1) := by decide +kernel
theorem dX9_isDone_289 : decode cX9_isDone 289 = .ok (.getfield 9, 3) := by decide +kernel
theorem dX9_isDone_292 : decode cX9_isDone 292 = .ok (.iload_n 2, 1) := by decide +kernel
theorem dX9_isDone_293 : decode cX9_isDone 293 = .ok (.iload_n 3, 1) := by decide +kernel
theorem dX9_isDone_294 : decode cX9_isDone 294 = .ok (.aload_n 0, 1) := by decide +kernel
theorem dX9_isDone_295 : decode cX9_isDone 295 = .ok (.getfield 31, 3) := by decide +kernel
theorem dX9_isDone_298 : decode cX9_isDone 298 = .ok (.iconst 2, 1) := by decide +kernel
theorem dX9_isDone_299 : decode cX9_isDone 299 = .ok (.iaload, 1) := by decide +kernel
theorem dX9_isDone_300 : decode cX9_isDone 300 = .ok (.invokestatic 75, 3) := by decide +kernel
theorem dX9_isDone_303 : decode cX9_isDone 303 = .ok (.iconst 1, 1) := by decide +kernel
theorem dX9_isDone_304 : decode cX9_isDone 304 = .ok (.ireturn, 1) := by decide +kernel
theorem dX9_isDone_305 : decode cX9_isDone 305 = .ok (.iload_n 2, 1) := by decide +kernel
theorem dX9_isDone_306 : decode cX9_isDone 306 = .ok (.iconst 1, 1) := by decide +kernel
theorem dX9_isDone_307 : decode cX9_isDone 307 = .ok (.bipush 60, 2) := by decide +kernel
theorem dX9_isDone_309 : decode cX9_isDone 309 = .ok (.invokestatic 40, 3) := by decide +kernel
theorem dX9_isDone_312 : decode cX9_isDone 312 = .ok (.ifCond .eq 17, 3) := by decide +kernel
theorem dX9_isDone_315 : decode cX9_isDone 315 = .ok (.aload_n 0, 1) := by decide +kernel
theorem dX9_isDone_316 : decode cX9_isDone 316 = .ok (.getfield 9, 3) := by decide +kernel
theorem dX9_isDone_319 : decode cX9_isDone 319 = .ok (.iconst 1, 1) := by decide +kernel
theorem dX9_isDone_320 : decode cX9_isDone 320 = .ok (.iaload, 1) := by decide +kernel
theorem dX9_isDone_321 : decode cX9_isDone 321 = .ok (.iload_n 2, 1) := by decide +kernel
theorem dX9_isDone_322 : decode cX9_isDone 322 = .ok (.iadd, 1) := by decide +kernel
theorem dX9_isDone_323 : decode cX9_isDone 323 = .ok (.sipush 999, 3) := by decide +kernel
theorem dX9_isDone_326 : decode cX9_isDone 326 = .ok (.if_icmp .le 5, 3) := by decide +kernel
theorem dX9_isDone_329 : decode cX9_isDone 329 = .ok (.iconst 0, 1) := by decide +kernel
theorem dX9_isDone_330 : decode cX9_isDone 330 = .ok (.ireturn, 1) := by decide +kernel
theorem dX9_isDone_331 : decode cX9_isDone 331 = .ok (.aload_n 0, 1) := by decide +kernel
theorem dX9_isDone_332 : decode cX9_isDone 332 = .ok (.getfield 9, 3) := by decide +kernel
theorem dX9_isDone_335 : decode cX9_isDone 335 = .ok (.iload_n 2, 1) := by decide +kernel
theorem dX9_isDone_336 : decode cX9_isDone 336 = .ok (.invokestatic 123, 3) := by decide +kernel
theorem dX9_isDone_339 : decode cX9_isDone 339 = .ok (.iconst 1, 1) := by decide +kernel
theorem dX9_isDone_340 : decode cX9_isDone 340 = .ok (.ireturn, 1) := by decide +kernel
theorem dX9_works_0 : decode cX9_works 0 = .ok (.aload_n 0, 1) := by decide +kernel
theorem dX9_works_1 : decode cX9_works 1 = .ok (.iconst 0, 1) := by decide +kernel
theorem dX9_works_2 : decode cX9_works 2 = .ok (.putfield 96, 3) := by decide +kernel
theorem dX9_works_5 : decode cX9_works 5 = .ok (.iconst 0, 1) := by decide +kernel
theorem dX9_works_6 : decode cX9_works 6 = .ok (.istore_n 1, 1) := by decide +kernel
theorem dX9_works_7 : decode cX9_works 7 = .ok (.bipush (-9), 2) := by decide +kernel
theorem dX9_works_9 : decode cX9_works 9 = .ok (.istore_n 2, 1) := by decide +kernel
theorem dX9_works_10 : decode cX9_works 10 = .ok (.aload_n 0, 1) := by decide +kernel
theorem dX9_works_11 : decode cX9_works 11 = .ok (.invokevirtual 126, 3) := by decide +kernel
theorem dX9_works_14 : decode cX9_works 14 = .ok (.ifCond .ne 12, 3) := by decide +kernel
theorem dX9_works_17 : decode cX9_works 17 = .ok (.sipush (-1000), 3) := by decide +kernel
theorem dX9_works_20 : decode cX9_works 20 = .ok (.aload_n 0, 1) := by decide +kernel
theorem dX9_works_21 : decode cX9_works 21 = .ok (.getfield 96, 3) := by decide +kernel
theorem dX9_works_24 : decode cX9_works 24 = .ok (.isub, 1) := by decide +kernel
theorem dX9_works_25 : decode cX9_works 25 = .ok (.istore_n 2, 1) := by decide +kernel
theorem dX9_works_26 : decode cX9_works 26 = .ok (.iinc 1 1, 3) := by decide +kernel
theorem dX9_works_29 : decode cX9_works 29 = .ok (.iload_n 2, 1) := by decide +kernel
theorem dX9_works_30 : decode cX9_works 30 = .ok (.bipush (-9), 2) := by decide +kernel
theorem dX9_works_32 : decode cX9_works 32 = .ok (.if_icmp .ne 14, 3) := by decide +kernel
theorem dX9_works_35 : decode cX9_works 35 = .ok (.aload_n 0, 1) := by decide +kernel
theorem dX9_works_36 : decode cX9_works 36 = .ok (.getfield 96, 3) := by decide +kernel
theorem dX9_works_39 : decode cX9_works 39 = .ok (.aload_n 0, 1) := by decide +kernel
theorem dX9_works_40 : decode cX9_works 40 = .ok (.getfield 92, 3) := by decide +kernel
theorem dX9_works_43 : decode cX9_works 43 = .ok (.if_icmp .lt (-33), 3) := by decide +kernel
theorem dX9_works_46 : decode cX9_works 46 = .ok (.aload_n 0, 1) := by decide +kernel
theorem dX9_works_47 : decode cX9_works 47 = .ok (.getfield 9, 3) := by decide +kernel
theorem dX9_works_50 : decode cX9_works 50 = .ok (.aload_n 0, 1) := by decide +kernel
theorem dX9_works_51 : decode cX9_works 51 = .ok (.getfield 19, 3) := by decide +kernel
theorem dX9_works_54 : decode cX9_works 54 = .ok (.invokestatic 129, 3) := by decide +kernel
theorem dX9_works_57 : decode cX9_works 57 = .ok (.aload_n 0, 1) := by decide +kernel
theorem dX9_works_58 : decode cX9_works 58 = .ok (.iconst 0, 1) := by decide +kernel
theorem dX9_works_59 : decode cX9_works 59 = .ok (.putfield 96, 3) := by decide +kernel
theorem dX9_works_62 : decode cX9_works 62 = .ok (.iload_n 2, 1) := by decide +kernel
theorem dX9_works_63 : decode cX9_works 63 = .ok (.bipush (-9), 2) := by decide +kernel
theorem dX9_works_65 : decode cX9_works 65 = .ok (.if_icmp .ne 63, 3) := by decide +kernel
theorem dX9_works_68 : decode cX9_works 68 = .ok (.aload_n 0, 1) := by decide +kernel
theorem dX9_works_69 : decode cX9_works 69 = .ok (.getfield 96, 3) := by decide +kernel
theorem dX9_works_72 : decode cX9_works 72 = .ok (.aload_n 0, 1) := by decide +kernel
theorem dX9_works_73 : decode cX9_works 73 = .ok (.getfield 92, 3) := by decide +kernel
theorem dX9_works_76 : decode cX9_works 76 = .ok (.if_icmp .ge 52, 3) := by decide +kernel
theorem dX9_works_79 : decode cX9_works 79 = .ok (.aload_n 0, 1) := by decide +kernel
theorem dX9_works_80 : decode cX9_works 80 = .ok (.getfield 96, 3) := by decide +kernel
theorem dX9_works_83 : decode cX9_works 83 = .ok (.istore_n 3, 1) := by decide +kernel
theorem dX9_works_84 : decode cX9_works 84 = .ok (.aload_n 0, 1) := by decide +kernel
theorem dX9_works_85 : decode cX9_works 85 = .ok (.invokevirtual 99, 3) := by decide +kernel
theorem dX9_works_88 : decode cX9_works 88 = .ok (.istore 4, 2) := by decide +kernel
theorem dX9_works_90 : decode cX9_works 90 = .ok (.aload_n 0, 1) := by decide +kernel
theorem dX9_works_91 : decode cX9_works 91 = .ok (.invokevirtual 126, 3) := by decide +kernel
theorem dX9_works_94 : decode cX9_works 94 = .ok (.istore 5, 2) := by decide +kernel
theorem dX9_works_96 : decode cX9_works 96 = .ok (.aload_n 0, 1) := by decide +kernel
theorem dX9_works_97 : decode cX9_works 97 = .ok (.iload 4, 2) := by decide +kernel
theorem dX9_works_99 : decode cX9_works 99 = .ok (.invokevirtual 133, 3) := by decide +kernel
theorem dX9_works_102 : decode cX9_works 102 = .ok (.ifCond .eq 6, 3) := by decide +kernel
theorem dX9_works_105 : decode cX9_works 105 = .ok (.goto (-43), 3) := by decide +kernel
theorem dX9_works_108 : decode cX9_works 108 = .ok (.sipush (-2000), 3) := by decide +kernel
theorem dX9_works_111 : decode cX9_works 111 = .ok (.iload_n 3, 1) := by decide +kernel
theorem dX9_works_112 : decode cX9_works 112 = .ok (.isub, 1) := by decide +kernel
theorem dX9_works_113 : decode cX9_works 113 = .ok (.istore_n 2, 1) := by decide +kernel
theorem dX9_works_114 : decode cX9_works 114 = .ok (.aload_n 0, 1) := by decide +kernel
theorem dX9_works_115 : decode cX9_works 115 = .ok (.getfield 19, 3) := by decide +kernel
theorem dX9_works_118 : decode cX9_works 118 = .ok (.aload_n 0, 1) := by decide +kernel
theorem dX9_works_119 : decode cX9_works 119 = .ok (.getfield 9, 3) := by decide +kernel
theorem dX9_works_122 : decode cX9_works 122 = .ok (.invokestatic 129, 3) := by decide +kernel
theorem dX9_works_125 : decode cX9_works 125 = .ok (.goto (-63), 3) := by decide +kernel
theorem dX9_works_128 : decode cX9_works 128 = .ok (.aload_n 0, 1) := by decide +kernel
theorem dX9_works_129 : decode cX9_works 129 = .ok (.iconst 0, 1) := by decide +kernel
theorem dX9_works_130 : decode cX9_works 130 = .ok (.putfield 92, 3) := by decide +kernel
theorem dX9_works_133 : decode cX9_works 133 = .ok (.iload_n 2, 1) := by decide +kernel
theorem dX9_works_134 : decode cX9_works 134 = .ok (.bipush (-9), 2) := by decide +kernel
theorem dX9_works_136 : decode cX9_works 136 = .ok (.if_icmp .ne 7, 3) := by decide +kernel
theorem dX9_works_139 : decode cX9_works 139 = .ok (.iload_n 1, 1) := by decide +kernel
theorem dX9_works_140 : decode cX9_works 140 = .ok (.goto 4, 3) := by decide +kernel
theorem dX9_works_143 : decode cX9_works 143 = .ok (.iload_n 2, 1) := by decide +kernel
theorem dX9_works_144 : decode cX9_works 144 = .ok (.ireturn, 1) := by decide +kernel
theorem dX9_worker_0 : decode cX9_worker 0 = .ok (.aload_n 0, 1) := by decide +kernel
theorem dX9_worker_1 : decode cX9_worker 1 = .ok (.iload_n 1, 1) := by decide +kernel
theorem dX9_worker_2 : decode cX9_worker 2 = .ok (.invokevirtual 113, 3) := by decide +kernel
theorem dX9_worker_5 : decode cX9_worker 5 = .ok (.ifCond .ne 9, 3) := by decide +kernel
theorem dX9_worker_8 : decode cX9_worker 8 = .ok (.aload_n 0, 1) := by decide +kernel
theorem dX9_worker_9 : decode cX9_worker 9 = .ok (.iconst (-1), 1) := by decide +kernel
theorem dX9_worker_10 : decode cX9_worker 10 = .ok (.invokevirtual 36, 3) := by decide +kernel
theorem dX9_worker_13 : decode cX9_worker 13 = .ok (.ireturn, 1) := by decide +kernel
theorem dX9_worker_14 : decode cX9_worker 14 = .ok (.iload_n 2, 1) := by decide +kernel
theorem dX9_worker_15 : decode cX9_worker 15 = .ok (.iconst 0, 1) := by decide +kernel
theorem dX9_worker_16 : decode cX9_worker 16 = .ok (.iconst 4, 1) := by decide +kernel
theorem dX9_worker_17 : decode cX9_worker 17 = .ok (.invokestatic 40, 3) := by decide +kernel
theorem dX9_worker_20 : decode cX9_worker 20 = .ok (.ifCond .eq 14, 3) := by decide +kernel
theorem dX9_worker_23 : decode cX9_worker 23 = .ok (.aload_n 0, 1) := by decide +kernel
theorem dX9_worker_24 : decode cX9_worker 24 = .ok (.getfield 9, 3) := by decide +kernel
theorem dX9_worker_27 : decode cX9_worker 27 = .ok (.iload_n 1, 1) := by decide +kernel
theorem dX9_worker_28 : decode cX9_worker 28 = .ok (.iload_n 2, 1) := by decide +kernel
theorem dX9_worker_29 : decode cX9_worker 29 = .ok (.invokestatic 44, 3) := by decide +kernel
theorem dX9_worker_32 : decode cX9_worker 32 = .ok (.iaload, 1) := by decide +kernel
theorem dX9_worker_33 : decode cX9_worker 33 = .ok (.ireturn, 1) := by decide +kernel
theorem dX9_worker_34 : decode cX9_worker 34 = .ok (.iload_n 2, 1) := by decide +kernel
theorem dX9_worker_35 : decode cX9_worker 35 = .ok (.iconst 5, 1) := by decide +kernel
theorem dX9_worker_36 : decode cX9_worker 36 = .ok (.if_icmp .ne 29, 3) := by decide +kernel
theorem dX9_worker_39 : decode cX9_worker 39 = .ok (.aload_n 0, 1) := by decide +kernel
theorem dX9_worker_40 : decode cX9_worker 40 = .ok (.getfield 9, 3) := by decide +kernel
theorem dX9_worker_43 : decode cX9_worker 43 = .ok (.iload_n 1, 1) := by decide +kernel
theorem dX9_worker_44 : decode cX9_worker 44 = .ok (.iconst 0, 1) := by decide +kernel
theorem dX9_worker_45 : decode cX9_worker 45 = .ok (.invokestatic 44, 3) := by decide +kernel
theorem dX9_worker_48 : decode cX9_worker 48 = .ok (.iaload, 1) := by decide +kernel
theorem dX9_worker_49 : decode cX9_worker 49 = .ok (.aload_n 0, 1) := by decide +kernel
theorem dX9_worker_50 : decode cX9_worker 50 = .ok (.getfield 9, 3) := by decide +kernel
theorem dX9_worker_53 : decode cX9_worker 53 = .ok (.iload_n 1, 1) := by decide +kernel
theorem dX9_worker_54 : decode cX9_worker 54 = .ok (.iconst 1, 1) := by decide +kernel
theorem dX9_worker_55 : decode cX9_worker 55 = .ok (.invokestatic 44, 3) := by decide +kernel
theorem dX9_worker_58 : decode cX9_worker 58 = .ok (.iaload, 1) := by decide +kernel
theorem dX9_worker_59 : decode cX9_worker 59 = .ok (.invokestatic 82, 3) := by decide +kernel
theorem dX9_worker_62 : decode cX9_worker 62 = .ok (.goto 9, 3) := by decide +kernel
theorem dX9_worker_65 : decode cX9_worker 65 = .ok (.aload_n 0, 1) := by decide +kernel
theorem dX9_worker_66 : decode cX9_worker 66 = .ok (.bipush (-2), 2) := by decide +kernel
theorem dX9_worker_68 : decode cX9_worker 68 = .ok (.invokevirtual 36, 3) := by decide +kernel
theorem dX9_worker_71 : decode cX9_worker 71 = .ok (.ireturn, 1) := by decide +kernel
theorem dX9_from_0 : decode cX9_from 0 = .ok (.aload_n 0, 1) := by decide +kernel
theorem dX9_from_1 : decode cX9_from 1 = .ok (.iload_n 1, 1) := by decide +kernel
theorem dX9_from_2 : decode cX9_from 2 = .ok (.invokevirtual 113, 3) := by decide +kernel
theorem dX9_from_5 : decode cX9_from 5 = .ok (.ifCond .ne 9, 3) := by decide +kernel
theorem dX9_from_8 : decode cX9_from 8 = .ok (.aload_n 0, 1) := by decide +kernel
theorem dX9_from_9 : decode cX9_from 9 = .ok (.iconst (-1), 1) := by decide +kernel
theorem dX9_from_10 : decode cX9_from 10 = .ok (.invokevirtual 36, 3) := by decide +kernel
theorem dX9_from_13 : decode cX9_from 13 = .ok (.ireturn, 1) := by decide +kernel
theorem dX9_from_14 : decode cX9_from 14 = .ok (.iload_n 2, 1) := by decide +kernel
theorem dX9_from_15 : decode cX9_from 15 = .ok (.iconst 0, 1) := by decide +kernel
theorem dX9_from_16 : decode cX9_from 16 = .ok (.iconst 1, 1) := by decide +kernel
theorem dX9_from_17 : decode cX9_from 17 = .ok (.invokestatic 40, 3) := by decide +kernel
theorem dX9_from_20 : decode cX9_from 20 = .ok (.ifCond .ne 10, 3) := by decide +kernel
theorem dX9_from_23 : decode cX9_from 23 = .ok (.aload_n 0, 1) := by decide +kernel
theorem dX9_from_24 : decode cX9_from 24 = .ok (.bipush (-2), 2) := by decide +kernel
theorem dX9_from_26 : decode cX9_from 26 = .ok (.invokevirtual 36, 3) := by decide +kernel
theorem dX9_from_29 : decode cX9_from 29 = .ok (.ireturn, 1) := by decide +kernel
theorem dX9_from_30 : decode cX9_from 30 = .ok (.aload_n 0, 1) := by decide +kernel
theorem dX9_from_31 : decode cX9_from 31 = .ok (.getfield 9, 3) := by decide +kernel
theorem dX9_from_34 : decode cX9_from 34 = .ok (.iload_n 1, 1) := by decide +kernel
theorem dX9_from_35 : decode cX9_from 35 = .ok (.invokestatic 69, 3) := by decide +kernel
theorem dX9_from_38 : decode cX9_from 38 = .ok (.istore_n 3, 1) := by decide +kernel
theorem dX9_from_39 : decode cX9_from 39 = .ok (.iload_n 3, 1) := by decide +kernel
theorem dX9_from_40 : decode cX9_from 40 = .ok (.ifCond .lt 7, 3) := by decide +kernel
theorem dX9_from_43 : decode cX9_from 43 = .ok (.iload_n 2, 1) := by decide +kernel
theorem dX9_from_44 : decode cX9_from 44 = .ok (.ifCond .ne 7, 3) := by decide +kernel
theorem dX9_from_47 : decode cX9_from 47 = .ok (.iload_n 3, 1) := by decide +kernel
theorem dX9_from_48 : decode cX9_from 48 = .ok (.goto 12, 3) := by decide +kernel
theorem dX9_from_51 : decode cX9_from 51 = .ok (.aload_n 0, 1) := by decide +kernel
theorem dX9_from_52 : decode cX9_from 52 = .ok (.getfield 9, 3) := by decide +kernel
theorem dX9_from_55 : decode cX9_from 55 = .ok (.iload_n 1, 1) := by decide +kernel
theorem dX9_from_56 : decode cX9_from 56 = .ok (.iload_n 3, 1) := by decide +kernel
theorem dX9_from_57 : decode cX9_from 57 = .ok (.invokestatic 72, 3) := by decide +kernel
theorem dX9_from_60 : decode cX9_from 60 = .ok (.ireturn, 1) := by decide +kernel
theorem dX9_frees_0 : decode cX9_frees 0 = .ok (.aload_n 0, 1) := by decide +kernel
theorem dX9_frees_1 : decode cX9_frees 1 = .ok (.iload_n 1, 1) := by decide +kernel
theorem dX9_frees_2 : decode cX9_frees 2 = .ok (.invokevirtual 113, 3) := by decide +kernel
theorem dX9_frees_5 : decode cX9_frees 5 = .ok (.ifCond .eq 10, 3) := by decide +kernel
theorem dX9_frees_8 : decode cX9_frees 8 = .ok (.iload_n 2, 1) := by decide +kernel
theorem dX9_frees_9 : decode cX9_frees 9 = .ok (.invokestatic 117, 3) := by decide +kernel
theorem dX9_frees_12 : decode cX9_frees 12 = .ok (.ifCond .ne 9, 3) := by decide +kernel
theorem dX9_frees_15 : decode cX9_frees 15 = .ok (.aload_n 0, 1) := by decide +kernel
theorem dX9_frees_16 : decode cX9_frees 16 = .ok (.iconst (-1), 1) := by decide +kernel
theorem dX9_frees_17 : decode cX9_frees 17 = .ok (.invokevirtual 36, 3) := by decide +kernel
theorem dX9_frees_20 : decode cX9_frees 20 = .ok (.ireturn, 1) := by decide +kernel
theorem dX9_frees_21 : decode cX9_frees 21 = .ok (.aload_n 0, 1) := by decide +kernel
theorem dX9_frees_22 : decode cX9_frees 22 = .ok (.getfield 9, 3) := by decide +kernel
theorem dX9_frees_25 : decode cX9_frees 25 = .ok (.iload_n 1, 1) := by decide +kernel
theorem dX9_frees_26 : decode cX9_frees 26 = .ok (.iconst 2, 1) := by decide +kernel
theorem dX9_frees_27 : decode cX9_frees 27 = .ok (.invokestatic 44, 3) := by decide +kernel
theorem dX9_frees_30 : decode cX9_frees 30 = .ok (.dup2, 1) := by decide +kernel
theorem dX9_frees_31 : decode cX9_frees 31 = .ok (.iaload, 1) := by decide +kernel
theorem dX9_frees_32 : decode cX9_frees 32 = .ok (.iconst 1, 1) := by decide +kernel
theorem dX9_frees_33 : decode cX9_frees 33 = .ok (.iload_n 2, 1) := by decide +kernel
theorem dX9_frees_34 : decode cX9_frees 34 = .ok (.ishl, 1) := by decide +kernel
theorem dX9_frees_35 : decode cX9_frees 35 = .ok (.ixor, 1) := by decide +kernel
theorem dX9_frees_36 : decode cX9_frees 36 = .ok (.iastore, 1) := by decide +kernel
theorem dX9_frees_37 : decode cX9_frees 37 = .ok (.aload_n 0, 1) := by decide +kernel
theorem dX9_frees_38 : decode cX9_frees 38 = .ok (.getfield 9, 3) := by decide +kernel
theorem dX9_frees_41 : decode cX9_frees 41 = .ok (.iload_n 1, 1) := by decide +kernel
theorem dX9_frees_42 : decode cX9_frees 42 = .ok (.iconst 2, 1) := by decide +kernel
theorem dX9_frees_43 : decode cX9_frees 43 = .ok (.invokestatic 44, 3) := by decide +kernel
theorem dX9_frees_46 : decode cX9_frees 46 = .ok (.iaload, 1) := by decide +kernel
theorem dX9_frees_47 : decode cX9_frees 47 = .ok (.ireturn, 1) := by decide +kernel
theorem dX9_gives_0 : decode cX9_gives 0 = .ok (.aload_n 0, 1) := by decide +kernel
theorem dX9_gives_1 : decode cX9_gives 1 = .ok (.iload_n 1, 1) := by decide +kernel
theorem dX9_gives_2 : decode cX9_gives 2 = .ok (.invokevirtual 113, 3) := by decide +kernel
theorem dX9_gives_5 : decode cX9_gives 5 = .ok (.ifCond .eq 23, 3) := by decide +kernel
theorem dX9_gives_8 : decode cX9_gives 8 = .ok (.aload_n 0, 1) := by decide +kernel
theorem dX9_gives_9 : decode cX9_gives 9 = .ok (.iload_n 2, 1) := by decide +kernel
theorem dX9_gives_10 : decode cX9_gives 10 = .ok (.invokevirtual 113, 3) := by decide +kernel
theorem dX9_gives_13 : decode cX9_gives 13 = .ok (.ifCond .eq 15, 3) := by decide +kernel
theorem dX9_gives_16 : decode cX9_gives 16 = .ok (.iload_n 1, 1) := by decide +kernel
theorem dX9_gives_17 : decode cX9_gives 17 = .ok (.iload_n 2, 1) := by decide +kernel
theorem dX9_gives_18 : decode cX9_gives 18 = .ok (.if_icmp .eq 10, 3) := by decide +kernel
theorem dX9_gives_21 : decode cX9_gives 21 = .ok (.iload_n 3, 1) := by decide +kernel
theorem dX9_gives_22 : decode cX9_gives 22 = .ok (.invokestatic 117, 3) := by decide +kernel
theorem dX9_gives_25 : decode cX9_gives 25 = .ok (.ifCond .ne 9, 3) := by decide +kernel
theorem dX9_gives_28 : decode cX9_gives 28 = .ok (.aload_n 0, 1) := by decide +kernel
theorem dX9_gives_29 : decode cX9_gives 29 = .ok (.iconst (-1), 1) := by decide +kernel
theorem dX9_gives_30 : decode cX9_gives 30 = .ok (.invokevirtual 36, 3) := by decide +kernel
theorem dX9_gives_33 : decode cX9_gives 33 = .ok (.ireturn, 1) := by decide +kernel
theorem dX9_gives_34 : decode cX9_gives 34 = .ok (.aload_n 0, 1) := by decide +kernel
theorem dX9_gives_35 : decode cX9_gives 35 = .ok (.iload_n 1, 1) := by decide +kernel
theorem dX9_gives_36 : decode cX9_gives 36 = .ok (.iload_n 2, 1) := by decide +kernel
theorem dX9_gives_37 : decode cX9_gives 37 = .ok (.iload_n 3, 1) := by decide +kernel
theorem dX9_gives_38 : decode cX9_gives 38 = .ok (.invokevirtual 120, 3) := by decide +kernel
theorem dX9_gives_41 : decode cX9_gives 41 = .ok (.ifCond .ne 10, 3) := by decide +kernel
theorem dX9_gives_44 : decode cX9_gives 44 = .ok (.aload_n 0, 1) := by decide +kernel
theorem dX9_gives_45 : decode cX9_gives 45 = .ok (.bipush (-3), 2) := by decide +kernel
theorem dX9_gives_47 : decode cX9_gives 47 = .ok (.invokevirtual 36, 3) := by decide +kernel
theorem dX9_gives_50 : decode cX9_gives 50 = .ok (.ireturn, 1) := by decide +kernel
theorem dX9_gives_51 : decode cX9_gives 51 = .ok (.aload_n 0, 1) := by decide +kernel
theorem dX9_gives_52 : decode cX9_gives 52 = .ok (.getfield 9, 3) := by decide +kernel
theorem dX9_gives_55 : decode cX9_gives 55 = .ok (.iload_n 1, 1) := by decide +kernel
theorem dX9_gives_56 : decode cX9_gives 56 = .ok (.iload_n 2, 1) := by decide +kernel
theorem dX9_gives_57 : decode cX9_gives 57 = .ok (.iload_n 3, 1) := by decide +kernel
theorem dX9_gives_58 : decode cX9_gives 58 = .ok (.invokestatic 75, 3) := by decide +kernel
theorem dX9_gives_61 : decode cX9_gives 61 = .ok (.aload_n 0, 1) := by decide +kernel
theorem dX9_gives_62 : decode cX9_gives 62 = .ok (.getfield 9, 3) := by decide +kernel
theorem dX9_gives_65 : decode cX9_gives 65 = .ok (.iload_n 2, 1) := by decide +kernel
theorem dX9_gives_66 : decode cX9_gives 66 = .ok (.iconst 2, 1) := by decide +kernel
theorem dX9_gives_67 : decode cX9_gives 67 = .ok (.invokestatic 44, 3) := by decide +kernel
theorem dX9_gives_70 : decode cX9_gives 70 = .ok (.iaload, 1) := by decide +kernel
theorem dX9_gives_71 : decode cX9_gives 71 = .ok (.ireturn, 1) := by decide +kernel
theorem dX9_wrongBy_0 : decode cX9_wrongBy 0 = .ok (.iload_n 0, 1) := by decide +kernel
theorem dX9_wrongBy_1 : decode cX9_wrongBy 1 = .ok (.iload_n 1, 1) := by decide +kernel
theorem dX9_wrongBy_2 : decode cX9_wrongBy 2 = .ok (.if_icmp .ge 8, 3) := by decide +kernel
theorem dX9_wrongBy_5 : decode cX9_wrongBy 5 = .ok (.bipush (-4), 2) := by decide +kernel
theorem dX9_wrongBy_7 : decode cX9_wrongBy 7 = .ok (.goto 14, 3) := by decide +kernel
theorem dX9_wrongBy_10 : decode cX9_wrongBy 10 = .ok (.iload_n 0, 1) := by decide +kernel
theorem dX9_wrongBy_11 : decode cX9_wrongBy 11 = .ok (.iload_n 2, 1) := by decide +kernel
theorem dX9_wrongBy_12 : decode cX9_wrongBy 12 = .ok (.if_icmp .le 8, 3) := by decide +kernel
theorem dX9_wrongBy_15 : decode cX9_wrongBy 15 = .ok (.bipush (-6), 2) := by decide +kernel
theorem dX9_wrongBy_17 : decode cX9_wrongBy 17 = .ok (.goto 4, 3) := by decide +kernel
theorem dX9_wrongBy_20 : decode cX9_wrongBy 20 = .ok (.iconst 0, 1) := by decide +kernel
theorem dX9_wrongBy_21 : decode cX9_wrongBy 21 = .ok (.ireturn, 1) := by decide +kernel
theorem dX9_rests_0 : decode cX9_rests 0 = .ok (.aload_n 0, 1) := by decide +kernel
theorem dX9_rests_1 : decode cX9_rests 1 = .ok (.iload_n 1, 1) := by decide +kernel
theorem dX9_rests_2 : decode cX9_rests 2 = .ok (.invokevirtual 113, 3) := by decide +kernel
theorem dX9_rests_5 : decode cX9_rests 5 = .ok (.ifCond .eq 13, 3) := by decide +kernel
theorem dX9_rests_8 : decode cX9_rests 8 = .ok (.iload_n 2, 1) := by decide +kernel
theorem dX9_rests_9 : decode cX9_rests 9 = .ok (.iconst 0, 1) := by decide +kernel
theorem dX9_rests_10 : decode cX9_rests 10 = .ok (.bipush 30, 2) := by decide +kernel
theorem dX9_rests_12 : decode cX9_rests 12 = .ok (.invokestatic 136, 3) := by decide +kernel
theorem dX9_rests_15 : decode cX9_rests 15 = .ok (.goto 4, 3) := by decide +kernel
theorem dX9_rests_18 : decode cX9_rests 18 = .ok (.iconst (-1), 1) := by decide +kernel
theorem dX9_rests_19 : decode cX9_rests 19 = .ok (.istore_n 3, 1) := by decide +kernel
theorem dX9_rests_20 : decode cX9_rests 20 = .ok (.iload_n 3, 1) := by decide +kernel
theorem dX9_rests_21 : decode cX9_rests 21 = .ok (.ifCond .eq 9, 3) := by decide +kernel
theorem dX9_rests_24 : decode cX9_rests 24 = .ok (.aload_n 0, 1) := by decide +kernel
theorem dX9_rests_25 : decode cX9_rests 25 = .ok (.iload_n 3, 1) := by decide +kernel
theorem dX9_rests_26 : decode cX9_rests 26 = .ok (.invokevirtual 36, 3) := by decide +kernel
theorem dX9_rests_29 : decode cX9_rests 29 = .ok (.ireturn, 1) := by decide +kernel
theorem dX9_rests_30 : decode cX9_rests 30 = .ok (.aload_n 0, 1) := by decide +kernel
theorem dX9_rests_31 : decode cX9_rests 31 = .ok (.getfield 9, 3) := by decide +kernel
theorem dX9_rests_34 : decode cX9_rests 34 = .ok (.iload_n 1, 1) := by decide +kernel
theorem dX9_rests_35 : decode cX9_rests 35 = .ok (.iconst 3, 1) := by decide +kernel
theorem dX9_rests_36 : decode cX9_rests 36 = .ok (.invokestatic 44, 3) := by decide +kernel
theorem dX9_rests_39 : decode cX9_rests 39 = .ok (.iaload, 1) := by decide +kernel
theorem dX9_rests_40 : decode cX9_rests 40 = .ok (.istore 4, 2) := by decide +kernel
theorem dX9_rests_42 : decode cX9_rests 42 = .ok (.aload_n 0, 1) := by decide +kernel
theorem dX9_rests_43 : decode cX9_rests 43 = .ok (.getfield 9, 3) := by decide +kernel
theorem dX9_rests_46 : decode cX9_rests 46 = .ok (.iload_n 1, 1) := by decide +kernel
theorem dX9_rests_47 : decode cX9_rests 47 = .ok (.iconst 3, 1) := by decide +kernel
theorem dX9_rests_48 : decode cX9_rests 48 = .ok (.invokestatic 44, 3) := by decide +kernel
theorem dX9_rests_51 : decode cX9_rests 51 = .ok (.iload_n 2, 1) := by decide +kernel
theorem dX9_rests_52 : decode cX9_rests 52 = .ok (.iastore, 1) := by decide +kernel
theorem dX9_rests_53 : decode cX9_rests 53 = .ok (.iload 4, 2) := by decide +kernel
theorem dX9_rests_55 : decode cX9_rests 55 = .ok (.ireturn, 1) := by decide +kernel
theorem dX9_turn_0 : decode cX9_turn 0 = .ok (.aload_n 0, 1) := by decide +kernel
theorem dX9_turn_1 : decode cX9_turn 1 = .ok (.iload_n 1, 1) := by decide +kernel
theorem dX9_turn_2 : decode cX9_turn 2 = .ok (.invokevirtual 113, 3) := by decide +kernel
theorem dX9_turn_5 : decode cX9_turn 5 = .ok (.ifCond .ne 7, 3) := by decide +kernel
theorem dX9_turn_8 : decode cX9_turn 8 = .ok (.iconst (-1), 1) := by decide +kernel
theorem dX9_turn_9 : decode cX9_turn 9 = .ok (.goto 24, 3) := by decide +kernel
theorem dX9_turn_12 : decode cX9_turn 12 = .ok (.iload_n 2, 1) := by decide +kernel
theorem dX9_turn_13 : decode cX9_turn 13 = .ok (.iconst 0, 1) := by decide +kernel
theorem dX9_turn_14 : decode cX9_turn 14 = .ok (.iconst 5, 1) := by decide +kernel
theorem dX9_turn_15 : decode cX9_turn 15 = .ok (.invokestatic 40, 3) := by decide +kernel
theorem dX9_turn_18 : decode cX9_turn 18 = .ok (.ifCond .ne 8, 3) := by decide +kernel
theorem dX9_turn_21 : decode cX9_turn 21 = .ok (.bipush (-2), 2) := by decide +kernel
theorem dX9_turn_23 : decode cX9_turn 23 = .ok (.goto 10, 3) := by decide +kernel
theorem dX9_turn_26 : decode cX9_turn 26 = .ok (.iload_n 3, 1) := by decide +kernel
theorem dX9_turn_27 : decode cX9_turn 27 = .ok (.iconst 0, 1) := by decide +kernel
theorem dX9_turn_28 : decode cX9_turn 28 = .ok (.bipush 9, 2) := by decide +kernel
theorem dX9_turn_30 : decode cX9_turn 30 = .ok (.invokestatic 136, 3) := by decide +kernel
theorem dX9_turn_33 : decode cX9_turn 33 = .ok (.istore 4, 2) := by decide +kernel
theorem dX9_turn_35 : decode cX9_turn 35 = .ok (.iload 4, 2) := by decide +kernel
theorem dX9_turn_37 : decode cX9_turn 37 = .ok (.ifCond .eq 10, 3) := by decide +kernel
theorem dX9_turn_40 : decode cX9_turn 40 = .ok (.aload_n 0, 1) := by decide +kernel
theorem dX9_turn_41 : decode cX9_turn 41 = .ok (.iload 4, 2) := by decide +kernel
theorem dX9_turn_43 : decode cX9_turn 43 = .ok (.invokevirtual 36, 3) := by decide +kernel
theorem dX9_turn_46 : decode cX9_turn 46 = .ok (.ireturn, 1) := by decide +kernel
theorem dX9_turn_47 : decode cX9_turn 47 = .ok (.bipush 10, 2) := by decide +kernel
theorem dX9_turn_49 : decode cX9_turn 49 = .ok (.aload_n 0, 1) := by decide +kernel
theorem dX9_turn_50 : decode cX9_turn 50 = .ok (.getfield 9, 3) := by decide +kernel
theorem dX9_turn_53 : decode cX9_turn 53 = .ok (.iload_n 1, 1) := by decide +kernel
theorem dX9_turn_54 : decode cX9_turn 54 = .ok (.iconst 0, 1) := by decide +kernel
theorem dX9_turn_55 : decode cX9_turn 55 = .ok (.invokestatic 44, 3) := by decide +kernel
theorem dX9_turn_58 : decode cX9_turn 58 = .ok (.iaload, 1) := by decide +kernel
theorem dX9_turn_59 : decode cX9_turn 59 = .ok (.imul, 1) := by decide +kernel
theorem dX9_turn_60 : decode cX9_turn 60 = .ok (.aload_n 0, 1) := by decide +kernel
theorem dX9_turn_61 : decode cX9_turn 61 = .ok (.getfield 9, 3) := by decide +kernel
theorem dX9_turn_64 : decode cX9_turn 64 = .ok (.iload_n 1, 1) := by decide +kernel
theorem dX9_turn_65 : decode cX9_turn 65 = .ok (.iconst 1, 1) := by decide +kernel
theorem dX9_turn_66 : decode cX9_turn 66 = .ok (.invokestatic 44, 3) := by decide +kernel
theorem dX9_turn_69 : decode cX9_turn 69 = .ok (.iaload, 1) := by decide +kernel
theorem dX9_turn_70 : decode cX9_turn 70 = .ok (.iadd, 1) := by decide +kernel
theorem dX9_turn_71 : decode cX9_turn 71 = .ok (.istore 5, 2) := by decide +kernel
theorem dX9_turn_73 : decode cX9_turn 73 = .ok (.aload_n 0, 1) := by decide +kernel
theorem dX9_turn_74 : decode cX9_turn 74 = .ok (.getfield 9, 3) := by decide +kernel
theorem dX9_turn_77 : decode cX9_turn 77 = .ok (.iload_n 1, 1) := by decide +kernel
theorem dX9_turn_78 : decode cX9_turn 78 = .ok (.iconst 0, 1) := by decide +kernel
theorem dX9_turn_79 : decode cX9_turn 79 = .ok (.invokestatic 44, 3) := by decide +kernel
theorem dX9_turn_82 : decode cX9_turn 82 = .ok (.iload_n 2, 1) := by decide +kernel
theorem dX9_turn_83 : decode cX9_turn 83 = .ok (.iastore, 1) := by decide +kernel
theorem dX9_turn_84 : decode cX9_turn 84 = .ok (.aload_n 0, 1) := by decide +kernel
theorem dX9_turn_85 : decode cX9_turn 85 = .ok (.getfield 9, 3) := by decide +kernel
theorem dX9_turn_88 : decode cX9_turn 88 = .ok (.iload_n 1, 1) := by decide +kernel
theorem dX9_turn_89 : decode cX9_turn 89 = .ok (.iconst 1, 1) := by decide +kernel
theorem dX9_turn_90 : decode cX9_turn 90 = .ok (.invokestatic 44, 3) := by decide +kernel
theorem dX9_turn_93 : decode cX9_turn 93 = .ok (.iload_n 3, 1) := by decide +kernel
theorem dX9_turn_94 : decode cX9_turn 94 = .ok (.iastore, 1) := by decide +kernel
theorem dX9_turn_95 : decode cX9_turn 95 = .ok (.iload 5, 2) := by decide +kernel
theorem dX9_turn_97 : decode cX9_turn 97 = .ok (.ireturn, 1) := by decide +kernel
theorem dX9_days_0 : decode cX9_days 0 = .ok (.iload_n 1, 1) := by decide +kernel
theorem dX9_days_1 : decode cX9_days 1 = .ok (.iconst 1, 1) := by decide +kernel
theorem dX9_days_2 : decode cX9_days 2 = .ok (.if_icmp .ge 10, 3) := by decide +kernel
theorem dX9_days_5 : decode cX9_days 5 = .ok (.aload_n 0, 1) := by decide +kernel
theorem dX9_days_6 : decode cX9_days 6 = .ok (.bipush (-4), 2) := by decide +kernel
theorem dX9_days_8 : decode cX9_days 8 = .ok (.invokevirtual 36, 3) := by decide +kernel
theorem dX9_days_11 : decode cX9_days 11 = .ok (.ireturn, 1) := by decide +kernel
theorem dX9_days_12 : decode cX9_days 12 = .ok (.iload_n 1, 1) := by decide +kernel
theorem dX9_days_13 : decode cX9_days 13 = .ok (.bipush 60, 2) := by decide +kernel
theorem dX9_days_15 : decode cX9_days 15 = .ok (.if_icmp .gt 17, 3) := by decide +kernel
theorem dX9_days_18 : decode cX9_days 18 = .ok (.aload_n 0, 1) := by decide +kernel
theorem dX9_days_19 : decode cX9_days 19 = .ok (.getfield 9, 3) := by decide +kernel
theorem dX9_days_22 : decode cX9_days 22 = .ok (.iconst 1, 1) := by decide +kernel
theorem dX9_days_23 : decode cX9_days 23 = .ok (.iaload, 1) := by decide +kernel
theorem dX9_days_24 : decode cX9_days 24 = .ok (.iload_n 1, 1) := by decide +kernel
theorem dX9_days_25 : decode cX9_days 25 = .ok (.iadd, 1) := by decide +kernel
theorem dX9_days_26 : decode cX9_days 26 = .ok (.sipush 999, 3) := by decide +kernel
theorem dX9_days_29 : decode cX9_days 29 = .ok (.if_icmp .le 10, 3) := by decide +kernel
theorem dX9_days_32 : decode cX9_days 32 = .ok (.aload_n 0, 1) := by decide +kernel
theorem dX9_days_33 : decode cX9_days 33 = .ok (.bipush (-6), 2) := by decide +kernel
theorem dX9_days_35 : decode cX9_days 35 = .ok (.invokevirtual 36, 3) := by decide +kernel
theorem dX9_days_38 : decode cX9_days 38 = .ok (.ireturn, 1) := by decide +kernel
theorem dX9_days_39 : decode cX9_days 39 = .ok (.aload_n 0, 1) := by decide +kernel
theorem dX9_days_40 : decode cX9_days 40 = .ok (.getfield 9, 3) := by decide +kernel
theorem dX9_days_43 : decode cX9_days 43 = .ok (.iload_n 1, 1) := by decide +kernel
theorem dX9_days_44 : decode cX9_days 44 = .ok (.invokestatic 123, 3) := by decide +kernel
theorem dX9_days_47 : decode cX9_days 47 = .ok (.aload_n 0, 1) := by decide +kernel
theorem dX9_days_48 : decode cX9_days 48 = .ok (.getfield 9, 3) := by decide +kernel
theorem dX9_days_51 : decode cX9_days 51 = .ok (.iconst 2, 1) := by decide +kernel
theorem dX9_days_52 : decode cX9_days 52 = .ok (.iaload, 1) := by decide +kernel
theorem dX9_days_53 : decode cX9_days 53 = .ok (.ireturn, 1) := by decide +kernel
theorem dX9_takes_0 : decode cX9_takes 0 = .ok (.aload_n 0, 1) := by decide +kernel
theorem dX9_takes_1 : decode cX9_takes 1 = .ok (.getfield 9, 3) := by decide +kernel
theorem dX9_takes_4 : decode cX9_takes 4 = .ok (.aload_n 0, 1) := by decide +kernel
theorem dX9_takes_5 : decode cX9_takes 5 = .ok (.getfield 13, 3) := by decide +kernel
theorem dX9_takes_8 : decode cX9_takes 8 = .ok (.invokestatic 129, 3) := by decide +kernel
theorem dX9_takes_11 : decode cX9_takes 11 = .ok (.aload_n 0, 1) := by decide +kernel
theorem dX9_takes_12 : decode cX9_takes 12 = .ok (.getfield 13, 3) := by decide +kernel
theorem dX9_takes_15 : decode cX9_takes 15 = .ok (.iload_n 1, 1) := by decide +kernel
theorem dX9_takes_16 : decode cX9_takes 16 = .ok (.invokestatic 123, 3) := by decide +kernel
theorem dX9_takes_19 : decode cX9_takes 19 = .ok (.return_, 1) := by decide +kernel
theorem dX9_workerThen_0 : decode cX9_workerThen 0 = .ok (.aload_n 0, 1) := by decide +kernel
theorem dX9_workerThen_1 : decode cX9_workerThen 1 = .ok (.iload_n 1, 1) := by decide +kernel
theorem dX9_workerThen_2 : decode cX9_workerThen 2 = .ok (.invokevirtual 113, 3) := by decide +kernel
theorem dX9_workerThen_5 : decode cX9_workerThen 5 = .ok (.ifCond .eq 13, 3) := by decide +kernel
theorem dX9_workerThen_8 : decode cX9_workerThen 8 = .ok (.iload_n 2, 1) := by decide +kernel
theorem dX9_workerThen_9 : decode cX9_workerThen 9 = .ok (.iconst 0, 1) := by decide +kernel
theorem dX9_workerThen_10 : decode cX9_workerThen 10 = .ok (.bipush 60, 2) := by decide +kernel
theorem dX9_workerThen_12 : decode cX9_workerThen 12 = .ok (.invokestatic 136, 3) := by decide +kernel
theorem dX9_workerThen_15 : decode cX9_workerThen 15 = .ok (.goto 4, 3) := by decide +kernel
theorem dX9_workerThen_18 : decode cX9_workerThen 18 = .ok (.iconst (-1), 1) := by decide +kernel
theorem dX9_workerThen_19 : decode cX9_workerThen 19 = .ok (.istore 4, 2) := by decide +kernel
theorem dX9_workerThen_21 : decode cX9_workerThen 21 = .ok (.iload 4, 2) := by decide +kernel
theorem dX9_workerThen_23 : decode cX9_workerThen 23 = .ok (.ifCond .ne 16, 3) := by decide +kernel
theorem dX9_workerThen_26 : decode cX9_workerThen 26 = .ok (.iload_n 3, 1) := by decide +kernel
theorem dX9_workerThen_27 : decode cX9_workerThen 27 = .ok (.iconst 0, 1) := by decide +kernel
theorem dX9_workerThen_28 : decode cX9_workerThen 28 = .ok (.iconst 2, 1) := by decide +kernel
theorem dX9_workerThen_29 : decode cX9_workerThen 29 = .ok (.invokestatic 40, 3) := by decide +kernel
theorem dX9_workerThen_32 : decode cX9_workerThen 32 = .ok (.ifCond .ne 7, 3) := by decide +kernel
theorem dX9_workerThen_35 : decode cX9_workerThen 35 = .ok (.bipush (-2), 2) := by decide +kernel
theorem dX9_workerThen_37 : decode cX9_workerThen 37 = .ok (.istore 4, 2) := by decide +kernel
theorem dX9_workerThen_39 : decode cX9_workerThen 39 = .ok (.iload 4, 2) := by decide +kernel
theorem dX9_workerThen_41 : decode cX9_workerThen 41 = .ok (.ifCond .eq 10, 3) := by decide +kernel
theorem dX9_workerThen_44 : decode cX9_workerThen 44 = .ok (.aload_n 0, 1) := by decide +kernel
theorem dX9_workerThen_45 : decode cX9_workerThen 45 = .ok (.iload 4, 2) := by decide +kernel
theorem dX9_workerThen_47 : decode cX9_workerThen 47 = .ok (.invokevirtual 36, 3) := by decide +kernel
theorem dX9_workerThen_50 : decode cX9_workerThen 50 = .ok (.ireturn, 1) := by decide +kernel
theorem dX9_workerThen_51 : decode cX9_workerThen 51 = .ok (.aload_n 0, 1) := by decide +kernel
theorem dX9_workerThen_52 : decode cX9_workerThen 52 = .ok (.iload_n 2, 1) := by decide +kernel
theorem dX9_workerThen_53 : decode cX9_workerThen 53 = .ok (.invokevirtual 140, 3) := by decide +kernel
theorem dX9_workerThen_56 : decode cX9_workerThen 56 = .ok (.aload_n 0, 1) := by decide +kernel
theorem dX9_workerThen_57 : decode cX9_workerThen 57 = .ok (.getfield 13, 3) := by decide +kernel
theorem dX9_workerThen_60 : decode cX9_workerThen 60 = .ok (.iload_n 1, 1) := by decide +kernel
theorem dX9_workerThen_61 : decode cX9_workerThen 61 = .ok (.iconst 2, 1) := by decide +kernel
theorem dX9_workerThen_62 : decode cX9_workerThen 62 = .ok (.iload_n 3, 1) := by decide +kernel
theorem dX9_workerThen_63 : decode cX9_workerThen 63 = .ok (.iadd, 1) := by decide +kernel
theorem dX9_workerThen_64 : decode cX9_workerThen 64 = .ok (.invokestatic 44, 3) := by decide +kernel
theorem dX9_workerThen_67 : decode cX9_workerThen 67 = .ok (.iaload, 1) := by decide +kernel
theorem dX9_workerThen_68 : decode cX9_workerThen 68 = .ok (.ireturn, 1) := by decide +kernel
theorem dX9_then_0 : decode cX9_then 0 = .ok (.iload_n 1, 1) := by decide +kernel
theorem dX9_then_1 : decode cX9_then 1 = .ok (.iconst 0, 1) := by decide +kernel
theorem dX9_then_2 : decode cX9_then 2 = .ok (.bipush 60, 2) := by decide +kernel
theorem dX9_then_4 : decode cX9_then 4 = .ok (.invokestatic 136, 3) := by decide +kernel
theorem dX9_then_7 : decode cX9_then 7 = .ok (.istore_n 3, 1) := by decide +kernel
theorem dX9_then_8 : decode cX9_then 8 = .ok (.iload_n 3, 1) := by decide +kernel
theorem dX9_then_9 : decode cX9_then 9 = .ok (.ifCond .ne 15, 3) := by decide +kernel
theorem dX9_then_12 : decode cX9_then 12 = .ok (.iload_n 2, 1) := by decide +kernel
theorem dX9_then_13 : decode cX9_then 13 = .ok (.iconst 0, 1) := by decide +kernel
theorem dX9_then_14 : decode cX9_then 14 = .ok (.iconst 1, 1) := by decide +kernel
theorem dX9_then_15 : decode cX9_then 15 = .ok (.invokestatic 40, 3) := by decide +kernel
theorem dX9_then_18 : decode cX9_then 18 = .ok (.ifCond .ne 6, 3) := by decide +kernel
theorem dX9_then_21 : decode cX9_then 21 = .ok (.bipush (-2), 2) := by decide +kernel
theorem dX9_then_23 : decode cX9_then 23 = .ok (.istore_n 3, 1) := by decide +kernel
theorem dX9_then_24 : decode cX9_then 24 = .ok (.iload_n 3, 1) := by decide +kernel
theorem dX9_then_25 : decode cX9_then 25 = .ok (.ifCond .eq 9, 3) := by decide +kernel
theorem dX9_then_28 : decode cX9_then 28 = .ok (.aload_n 0, 1) := by decide +kernel
theorem dX9_then_29 : decode cX9_then 29 = .ok (.iload_n 3, 1) := by decide +kernel
theorem dX9_then_30 : decode cX9_then 30 = .ok (.invokevirtual 36, 3) := by decide +kernel
theorem dX9_then_33 : decode cX9_then 33 = .ok (.ireturn, 1) := by decide +kernel
theorem dX9_then_34 : decode cX9_then 34 = .ok (.aload_n 0, 1) := by decide +kernel
theorem dX9_then_35 : decode cX9_then 35 = .ok (.iload_n 1, 1) := by decide +kernel
theorem dX9_then_36 : decode cX9_then 36 = .ok (.invokevirtual 140, 3) := by decide +kernel
theorem dX9_then_39 : decode cX9_then 39 = .ok (.iload_n 2, 1) := by decide +kernel
theorem dX9_then_40 : decode cX9_then 40 = .ok (.ifCond .ne 12, 3) := by decide +kernel
theorem dX9_then_43 : decode cX9_then 43 = .ok (.aload_n 0, 1) := by decide +kernel
theorem dX9_then_44 : decode cX9_then 44 = .ok (.getfield 13, 3) := by decide +kernel
theorem dX9_then_47 : decode cX9_then 47 = .ok (.iconst 2, 1) := by decide +kernel
theorem dX9_then_48 : decode cX9_then 48 = .ok (.iaload, 1) := by decide +kernel
theorem dX9_then_49 : decode cX9_then 49 = .ok (.goto 19, 3) := by decide +kernel
theorem dX9_then_52 : decode cX9_then 52 = .ok (.aload_n 0, 1) := by decide +kernel
theorem dX9_then_53 : decode cX9_then 53 = .ok (.getfield 13, 3) := by decide +kernel
theorem dX9_then_56 : decode cX9_then 56 = .ok (.aload_n 0, 1) := by decide +kernel
theorem dX9_then_57 : decode cX9_then 57 = .ok (.getfield 13, 3) := by decide +kernel
theorem dX9_then_60 : decode cX9_then 60 = .ok (.iconst 1, 1) := by decide +kernel
theorem dX9_then_61 : decode cX9_then 61 = .ok (.iaload, 1) := by decide +kernel
theorem dX9_then_62 : decode cX9_then 62 = .ok (.bipush 7, 2) := by decide +kernel
theorem dX9_then_64 : decode cX9_then 64 = .ok (.irem, 1) := by decide +kernel
theorem dX9_then_65 : decode cX9_then 65 = .ok (.invokestatic 144, 3) := by decide +kernel
theorem dX9_then_68 : decode cX9_then 68 = .ok (.ireturn, 1) := by decide +kernel
theorem dX9_fallsOf_0 : decode cX9_fallsOf 0 = .ok (.aload_n 0, 1) := by decide +kernel
theorem dX9_fallsOf_1 : decode cX9_fallsOf 1 = .ok (.getfield 9, 3) := by decide +kernel
theorem dX9_fallsOf_4 : decode cX9_fallsOf 4 = .ok (.aload_n 0, 1) := by decide +kernel
theorem dX9_fallsOf_5 : decode cX9_fallsOf 5 = .ok (.getfield 13, 3) := by decide +kernel
theorem dX9_fallsOf_8 : decode cX9_fallsOf 8 = .ok (.invokestatic 129, 3) := by decide +kernel
theorem dX9_fallsOf_11 : decode cX9_fallsOf 11 = .ok (.iconst 0, 1) := by decide +kernel
theorem dX9_fallsOf_12 : decode cX9_fallsOf 12 = .ok (.istore_n 2, 1) := by decide +kernel
theorem dX9_fallsOf_13 : decode cX9_fallsOf 13 = .ok (.iload_n 2, 1) := by decide +kernel
theorem dX9_fallsOf_14 : decode cX9_fallsOf 14 = .ok (.bipush 60, 2) := by decide +kernel
theorem dX9_fallsOf_16 : decode cX9_fallsOf 16 = .ok (.if_icmp .gt 34, 3) := by decide +kernel
theorem dX9_fallsOf_19 : decode cX9_fallsOf 19 = .ok (.aload_n 0, 1) := by decide +kernel
theorem dX9_fallsOf_20 : decode cX9_fallsOf 20 = .ok (.getfield 13, 3) := by decide +kernel
theorem dX9_fallsOf_23 : decode cX9_fallsOf 23 = .ok (.iload_n 1, 1) := by decide +kernel
theorem dX9_fallsOf_24 : decode cX9_fallsOf 24 = .ok (.iconst 3, 1) := by decide +kernel
theorem dX9_fallsOf_25 : decode cX9_fallsOf 25 = .ok (.invokestatic 44, 3) := by decide +kernel
theorem dX9_fallsOf_28 : decode cX9_fallsOf 28 = .ok (.iaload, 1) := by decide +kernel
theorem dX9_fallsOf_29 : decode cX9_fallsOf 29 = .ok (.bipush 20, 2) := by decide +kernel
theorem dX9_fallsOf_31 : decode cX9_fallsOf 31 = .ok (.if_icmp .lt 5, 3) := by decide +kernel
theorem dX9_fallsOf_34 : decode cX9_fallsOf 34 = .ok (.iload_n 2, 1) := by decide +kernel
theorem dX9_fallsOf_35 : decode cX9_fallsOf 35 = .ok (.ireturn, 1) := by decide +kernel
theorem dX9_fallsOf_36 : decode cX9_fallsOf 36 = .ok (.aload_n 0, 1) := by decide +kernel
theorem dX9_fallsOf_37 : decode cX9_fallsOf 37 = .ok (.getfield 13, 3) := by decide +kernel
theorem dX9_fallsOf_40 : decode cX9_fallsOf 40 = .ok (.iconst 0, 1) := by decide +kernel
theorem dX9_fallsOf_41 : decode cX9_fallsOf 41 = .ok (.invokestatic 89, 3) := by decide +kernel
theorem dX9_fallsOf_44 : decode cX9_fallsOf 44 = .ok (.iinc 2 1, 3) := by decide +kernel
theorem dX9_fallsOf_47 : decode cX9_fallsOf 47 = .ok (.goto (-34), 3) := by decide +kernel
theorem dX9_fallsOf_50 : decode cX9_fallsOf 50 = .ok (.bipush (-9), 2) := by decide +kernel
theorem dX9_fallsOf_52 : decode cX9_fallsOf 52 = .ok (.ireturn, 1) := by decide +kernel
theorem dX9_firstFalls_0 : decode cX9_firstFalls 0 = .ok (.bipush (-9), 2) := by decide +kernel
theorem dX9_firstFalls_2 : decode cX9_firstFalls 2 = .ok (.istore_n 1, 1) := by decide +kernel
theorem dX9_firstFalls_3 : decode cX9_firstFalls 3 = .ok (.ldc 147, 2) := by decide +kernel
theorem dX9_firstFalls_5 : decode cX9_firstFalls 5 = .ok (.istore_n 2, 1) := by decide +kernel
theorem dX9_firstFalls_6 : decode cX9_firstFalls 6 = .ok (.iconst 0, 1) := by decide +kernel
theorem dX9_firstFalls_7 : decode cX9_firstFalls 7 = .ok (.istore_n 3, 1) := by decide +kernel
theorem dX9_firstFalls_8 : decode cX9_firstFalls 8 = .ok (.iload_n 3, 1) := by decide +kernel
theorem dX9_firstFalls_9 : decode cX9_firstFalls 9 = .ok (.aload_n 0, 1) := by decide +kernel
theorem dX9_firstFalls_10 : decode cX9_firstFalls 10 = .ok (.getfield 9, 3) := by decide +kernel
theorem dX9_firstFalls_13 : decode cX9_firstFalls 13 = .ok (.iconst 0, 1) := by decide +kernel
theorem dX9_firstFalls_14 : decode cX9_firstFalls 14 = .ok (.iaload, 1) := by decide +kernel
theorem dX9_firstFalls_15 : decode cX9_firstFalls 15 = .ok (.if_icmp .ge 35, 3) := by decide +kernel
theorem dX9_firstFalls_18 : decode cX9_firstFalls 18 = .ok (.aload_n 0, 1) := by decide +kernel
theorem dX9_firstFalls_19 : decode cX9_firstFalls 19 = .ok (.iload_n 3, 1) := by decide +kernel
theorem dX9_firstFalls_20 : decode cX9_firstFalls 20 = .ok (.invokevirtual 148, 3) := by decide +kernel
theorem dX9_firstFalls_23 : decode cX9_firstFalls 23 = .ok (.istore 4, 2) := by decide +kernel
theorem dX9_firstFalls_25 : decode cX9_firstFalls 25 = .ok (.iload 4, 2) := by decide +kernel
theorem dX9_firstFalls_27 : decode cX9_firstFalls 27 = .ok (.ifCond .lt 17, 3) := by decide +kernel
theorem dX9_firstFalls_30 : decode cX9_firstFalls 30 = .ok (.iload 4, 2) := by decide +kernel
theorem dX9_firstFalls_32 : decode cX9_firstFalls 32 = .ok (.iload_n 2, 1) := by decide +kernel
theorem dX9_firstFalls_33 : decode cX9_firstFalls 33 = .ok (.if_icmp .lt 6, 3) := by decide +kernel
theorem dX9_firstFalls_36 : decode cX9_firstFalls 36 = .ok (.goto 8, 3) := by decide +kernel
theorem dX9_firstFalls_39 : decode cX9_firstFalls 39 = .ok (.iload_n 3, 1) := by decide +kernel
theorem dX9_firstFalls_40 : decode cX9_firstFalls 40 = .ok (.istore_n 1, 1) := by decide +kernel
theorem dX9_firstFalls_41 : decode cX9_firstFalls 41 = .ok (.iload 4, 2) := by decide +kernel
theorem dX9_firstFalls_43 : decode cX9_firstFalls 43 = .ok (.istore_n 2, 1) := by decide +kernel
theorem dX9_firstFalls_44 : decode cX9_firstFalls 44 = .ok (.iinc 3 1, 3) := by decide +kernel
theorem dX9_firstFalls_47 : decode cX9_firstFalls 47 = .ok (.goto (-39), 3) := by decide +kernel
theorem dX9_firstFalls_50 : decode cX9_firstFalls 50 = .ok (.iload_n 1, 1) := by decide +kernel
theorem dX9_firstFalls_51 : decode cX9_firstFalls 51 = .ok (.ireturn, 1) := by decide +kernel
theorem dX9_falls_0 : decode cX9_falls 0 = .ok (.iload_n 1, 1) := by decide +kernel
theorem dX9_falls_1 : decode cX9_falls 1 = .ok (.iconst (-1), 1) := by decide +kernel
theorem dX9_falls_2 : decode cX9_falls 2 = .ok (.if_icmp .ne 10, 3) := by decide +kernel
theorem dX9_falls_5 : decode cX9_falls 5 = .ok (.aload_n 0, 1) := by decide +kernel
theorem dX9_falls_6 : decode cX9_falls 6 = .ok (.invokevirtual 151, 3) := by decide +kernel
theorem dX9_falls_9 : decode cX9_falls 9 = .ok (.goto 24, 3) := by decide +kernel
theorem dX9_falls_12 : decode cX9_falls 12 = .ok (.aload_n 0, 1) := by decide +kernel
theorem dX9_falls_13 : decode cX9_falls 13 = .ok (.iload_n 1, 1) := by decide +kernel
theorem dX9_falls_14 : decode cX9_falls 14 = .ok (.invokevirtual 113, 3) := by decide +kernel
theorem dX9_falls_17 : decode cX9_falls 17 = .ok (.ifCond .eq 11, 3) := by decide +kernel
theorem dX9_falls_20 : decode cX9_falls 20 = .ok (.aload_n 0, 1) := by decide +kernel
theorem dX9_falls_21 : decode cX9_falls 21 = .ok (.iload_n 1, 1) := by decide +kernel
theorem dX9_falls_22 : decode cX9_falls 22 = .ok (.invokevirtual 148, 3) := by decide +kernel
theorem dX9_falls_25 : decode cX9_falls 25 = .ok (.goto 8, 3) := by decide +kernel
theorem dX9_falls_28 : decode cX9_falls 28 = .ok (.aload_n 0, 1) := by decide +kernel
theorem dX9_falls_29 : decode cX9_falls 29 = .ok (.iconst (-1), 1) := by decide +kernel
theorem dX9_falls_30 : decode cX9_falls 30 = .ok (.invokevirtual 36, 3) := by decide +kernel
theorem dX9_falls_33 : decode cX9_falls 33 = .ok (.ireturn, 1) := by decide +kernel
theorem dX9_isPaidDay_0 : decode cX9_isPaidDay 0 = .ok (.aload_n 0, 1) := by decide +kernel
theorem dX9_isPaidDay_1 : decode cX9_isPaidDay 1 = .ok (.getfield 13, 3) := by decide +kernel
theorem dX9_isPaidDay_4 : decode cX9_isPaidDay 4 = .ok (.invokestatic 154, 3) := by decide +kernel
theorem dX9_isPaidDay_7 : decode cX9_isPaidDay 7 = .ok (.istore_n 1, 1) := by decide +kernel
theorem dX9_isPaidDay_8 : decode cX9_isPaidDay 8 = .ok (.aload_n 0, 1) := by decide +kernel
theorem dX9_isPaidDay_9 : decode cX9_isPaidDay 9 = .ok (.getfield 13, 3) := by decide +kernel
theorem dX9_isPaidDay_12 : decode cX9_isPaidDay 12 = .ok (.iconst 2, 1) := by decide +kernel
theorem dX9_isPaidDay_13 : decode cX9_isPaidDay 13 = .ok (.iaload, 1) := by decide +kernel
theorem dX9_isPaidDay_14 : decode cX9_isPaidDay 14 = .ok (.istore_n 2, 1) := by decide +kernel
theorem dX9_isPaidDay_15 : decode cX9_isPaidDay 15 = .ok (.aload_n 0, 1) := by decide +kernel
theorem dX9_isPaidDay_16 : decode cX9_isPaidDay 16 = .ok (.getfield 13, 3) := by decide +kernel
theorem dX9_isPaidDay_19 : decode cX9_isPaidDay 19 = .ok (.iconst 0, 1) := by decide +kernel
theorem dX9_isPaidDay_20 : decode cX9_isPaidDay 20 = .ok (.invokestatic 89, 3) := by decide +kernel
theorem dX9_isPaidDay_23 : decode cX9_isPaidDay 23 = .ok (.aload_n 0, 1) := by decide +kernel
theorem dX9_isPaidDay_24 : decode cX9_isPaidDay 24 = .ok (.getfield 13, 3) := by decide +kernel
theorem dX9_isPaidDay_27 : decode cX9_isPaidDay 27 = .ok (.iconst 2, 1) := by decide +kernel
theorem dX9_isPaidDay_28 : decode cX9_isPaidDay 28 = .ok (.iaload, 1) := by decide +kernel
theorem dX9_isPaidDay_29 : decode cX9_isPaidDay 29 = .ok (.iload_n 2, 1) := by decide +kernel
theorem dX9_isPaidDay_30 : decode cX9_isPaidDay 30 = .ok (.if_icmp .ne 14, 3) := by decide +kernel
theorem dX9_isPaidDay_33 : decode cX9_isPaidDay 33 = .ok (.aload_n 0, 1) := by decide +kernel
theorem dX9_isPaidDay_34 : decode cX9_isPaidDay 34 = .ok (.getfield 13, 3) := by decide +kernel
theorem dX9_isPaidDay_37 : decode cX9_isPaidDay 37 = .ok (.invokestatic 154, 3) := by decide +kernel
theorem dX9_isPaidDay_40 : decode cX9_isPaidDay 40 = .ok (.iload_n 1, 1) := by decide +kernel
theorem dX9_isPaidDay_41 : decode cX9_isPaidDay 41 = .ok (.if_icmp .eq 7, 3) := by decide +kernel
theorem dX9_isPaidDay_44 : decode cX9_isPaidDay 44 = .ok (.iconst 1, 1) := by decide +kernel
theorem dX9_isPaidDay_45 : decode cX9_isPaidDay 45 = .ok (.goto 4, 3) := by decide +kernel
theorem dX9_isPaidDay_48 : decode cX9_isPaidDay 48 = .ok (.iconst 0, 1) := by decide +kernel
theorem dX9_isPaidDay_49 : decode cX9_isPaidDay 49 = .ok (.ireturn, 1) := by decide +kernel
theorem dX9_sumOff_0 : decode cX9_sumOff 0 = .ok (.iconst 0, 1) := by decide +kernel
theorem dX9_sumOff_1 : decode cX9_sumOff 1 = .ok (.istore_n 1, 1) := by decide +kernel
theorem dX9_sumOff_2 : decode cX9_sumOff 2 = .ok (.iconst 0, 1) := by decide +kernel
theorem dX9_sumOff_3 : decode cX9_sumOff 3 = .ok (.istore_n 2, 1) := by decide +kernel
theorem dX9_sumOff_4 : decode cX9_sumOff 4 = .ok (.iload_n 2, 1) := by decide +kernel
theorem dX9_sumOff_5 : decode cX9_sumOff 5 = .ok (.aload_n 0, 1) := by decide +kernel
theorem dX9_sumOff_6 : decode cX9_sumOff 6 = .ok (.iconst 0, 1) := by decide +kernel
theorem dX9_sumOff_7 : decode cX9_sumOff 7 = .ok (.iaload, 1) := by decide +kernel
theorem dX9_sumOff_8 : decode cX9_sumOff 8 = .ok (.if_icmp .ge 23, 3) := by decide +kernel
theorem dX9_sumOff_11 : decode cX9_sumOff 11 = .ok (.sipush 131, 3) := by decide +kernel
theorem dX9_sumOff_14 : decode cX9_sumOff 14 = .ok (.iload_n 1, 1) := by decide +kernel
theorem dX9_sumOff_15 : decode cX9_sumOff 15 = .ok (.imul, 1) := by decide +kernel
theorem dX9_sumOff_16 : decode cX9_sumOff 16 = .ok (.aload_n 0, 1) := by decide +kernel
theorem dX9_sumOff_17 : decode cX9_sumOff 17 = .ok (.iload_n 2, 1) := by decide +kernel
theorem dX9_sumOff_18 : decode cX9_sumOff 18 = .ok (.iconst 2, 1) := by decide +kernel
theorem dX9_sumOff_19 : decode cX9_sumOff 19 = .ok (.invokestatic 44, 3) := by decide +kernel
theorem dX9_sumOff_22 : decode cX9_sumOff 22 = .ok (.iaload, 1) := by decide +kernel
theorem dX9_sumOff_23 : decode cX9_sumOff 23 = .ok (.iadd, 1) := by decide +kernel
theorem dX9_sumOff_24 : decode cX9_sumOff 24 = .ok (.istore_n 1, 1) := by decide +kernel
theorem dX9_sumOff_25 : decode cX9_sumOff 25 = .ok (.iinc 2 1, 3) := by decide +kernel
theorem dX9_sumOff_28 : decode cX9_sumOff 28 = .ok (.goto (-24), 3) := by decide +kernel
theorem dX9_sumOff_31 : decode cX9_sumOff 31 = .ok (.iload_n 1, 1) := by decide +kernel
theorem dX9_sumOff_32 : decode cX9_sumOff 32 = .ok (.ireturn, 1) := by decide +kernel
theorem dX9_still_0 : decode cX9_still 0 = .ok (.aload_n 0, 1) := by decide +kernel
theorem dX9_still_1 : decode cX9_still 1 = .ok (.getfield 9, 3) := by decide +kernel
theorem dX9_still_4 : decode cX9_still 4 = .ok (.aload_n 0, 1) := by decide +kernel
theorem dX9_still_5 : decode cX9_still 5 = .ok (.getfield 13, 3) := by decide +kernel
theorem dX9_still_8 : decode cX9_still 8 = .ok (.invokestatic 129, 3) := by decide +kernel
theorem dX9_still_11 : decode cX9_still 11 = .ok (.iconst 0, 1) := by decide +kernel
theorem dX9_still_12 : decode cX9_still 12 = .ok (.istore_n 1, 1) := by decide +kernel
theorem dX9_still_13 : decode cX9_still 13 = .ok (.iconst 0, 1) := by decide +kernel
theorem dX9_still_14 : decode cX9_still 14 = .ok (.istore_n 2, 1) := by decide +kernel
theorem dX9_still_15 : decode cX9_still 15 = .ok (.iload_n 2, 1) := by decide +kernel
theorem dX9_still_16 : decode cX9_still 16 = .ok (.bipush 74, 2) := by decide +kernel
theorem dX9_still_18 : decode cX9_still 18 = .ok (.if_icmp .ge 35, 3) := by decide +kernel
theorem dX9_still_21 : decode cX9_still 21 = .ok (.aload_n 0, 1) := by decide +kernel
theorem dX9_still_22 : decode cX9_still 22 = .ok (.invokevirtual 158, 3) := by decide +kernel
theorem dX9_still_25 : decode cX9_still 25 = .ok (.ifCond .eq 7, 3) := by decide +kernel
theorem dX9_still_28 : decode cX9_still 28 = .ok (.iconst 0, 1) := by decide +kernel
theorem dX9_still_29 : decode cX9_still 29 = .ok (.goto 6, 3) := by decide +kernel
theorem dX9_still_32 : decode cX9_still 32 = .ok (.iload_n 1, 1) := by decide +kernel
theorem dX9_still_33 : decode cX9_still 33 = .ok (.iconst 1, 1) := by decide +kernel
theorem dX9_still_34 : decode cX9_still 34 = .ok (.iadd, 1) := by decide +kernel
theorem dX9_still_35 : decode cX9_still 35 = .ok (.istore_n 1, 1) := by decide +kernel
theorem dX9_still_36 : decode cX9_still 36 = .ok (.iload_n 1, 1) := by decide +kernel
theorem dX9_still_37 : decode cX9_still 37 = .ok (.bipush 14, 2) := by decide +kernel
theorem dX9_still_39 : decode cX9_still 39 = .ok (.if_icmp .ne 8, 3) := by decide +kernel
theorem dX9_still_42 : decode cX9_still 42 = .ok (.iload_n 2, 1) := by decide +kernel
theorem dX9_still_43 : decode cX9_still 43 = .ok (.bipush 13, 2) := by decide +kernel
theorem dX9_still_45 : decode cX9_still 45 = .ok (.isub, 1) := by decide +kernel
theorem dX9_still_46 : decode cX9_still 46 = .ok (.ireturn, 1) := by decide +kernel
theorem dX9_still_47 : decode cX9_still 47 = .ok (.iinc 2 1, 3) := by decide +kernel
theorem dX9_still_50 : decode cX9_still 50 = .ok (.goto (-35), 3) := by decide +kernel
theorem dX9_still_53 : decode cX9_still 53 = .ok (.bipush (-9), 2) := by decide +kernel
theorem dX9_still_55 : decode cX9_still 55 = .ok (.ireturn, 1) := by decide +kernel
theorem dX9_offOn_0 : decode cX9_offOn 0 = .ok (.aload_n 0, 1) := by decide +kernel
theorem dX9_offOn_1 : decode cX9_offOn 1 = .ok (.getfield 9, 3) := by decide +kernel
theorem dX9_offOn_4 : decode cX9_offOn 4 = .ok (.iconst 0, 1) := by decide +kernel
theorem dX9_offOn_5 : decode cX9_offOn 5 = .ok (.iaload, 1) := by decide +kernel
theorem dX9_offOn_6 : decode cX9_offOn 6 = .ok (.aload_n 0, 1) := by decide +kernel
theorem dX9_offOn_7 : decode cX9_offOn 7 = .ok (.getfield 9, 3) := by decide +kernel
theorem dX9_offOn_10 : decode cX9_offOn 10 = .ok (.iload_n 1, 1) := by decide +kernel
theorem dX9_offOn_11 : decode cX9_offOn 11 = .ok (.invokestatic 144, 3) := by decide +kernel
theorem dX9_offOn_14 : decode cX9_offOn 14 = .ok (.invokestatic 52, 3) := by decide +kernel
theorem dX9_offOn_17 : decode cX9_offOn 17 = .ok (.isub, 1) := by decide +kernel
theorem dX9_offOn_18 : decode cX9_offOn 18 = .ok (.ireturn, 1) := by decide +kernel
theorem dX9_strike_0 : decode cX9_strike 0 = .ok (.iload_n 1, 1) := by decide +kernel
theorem dX9_strike_1 : decode cX9_strike 1 = .ok (.iconst 0, 1) := by decide +kernel
theorem dX9_strike_2 : decode cX9_strike 2 = .ok (.iconst 3, 1) := by decide +kernel
theorem dX9_strike_3 : decode cX9_strike 3 = .ok (.invokestatic 40, 3) := by decide +kernel
theorem dX9_strike_6 : decode cX9_strike 6 = .ok (.ifCond .ne 10, 3) := by decide +kernel
theorem dX9_strike_9 : decode cX9_strike 9 = .ok (.aload_n 0, 1) := by decide +kernel
theorem dX9_strike_10 : decode cX9_strike 10 = .ok (.bipush (-2), 2) := by decide +kernel
theorem dX9_strike_12 : decode cX9_strike 12 = .ok (.invokevirtual 36, 3) := by decide +kernel
theorem dX9_strike_15 : decode cX9_strike 15 = .ok (.ireturn, 1) := by decide +kernel
theorem dX9_strike_16 : decode cX9_strike 16 = .ok (.iconst 0, 1) := by decide +kernel
theorem dX9_strike_17 : decode cX9_strike 17 = .ok (.istore_n 2, 1) := by decide +kernel
theorem dX9_strike_18 : decode cX9_strike 18 = .ok (.iconst 0, 1) := by decide +kernel
theorem dX9_strike_19 : decode cX9_strike 19 = .ok (.istore_n 3, 1) := by decide +kernel
theorem dX9_strike_20 : decode cX9_strike 20 = .ok (.iconst 0, 1) := by decide +kernel
theorem dX9_strike_21 : decode cX9_strike 21 = .ok (.istore 4, 2) := by decide +kernel
theorem dX9_strike_23 : decode cX9_strike 23 = .ok (.iload 4, 2) := by decide +kernel
theorem dX9_strike_25 : decode cX9_strike 25 = .ok (.bipush 7, 2) := by decide +kernel
theorem dX9_strike_27 : decode cX9_strike 27 = .ok (.if_icmp .ge 49, 3) := by decide +kernel
theorem dX9_strike_30 : decode cX9_strike 30 = .ok (.aload_n 0, 1) := by decide +kernel
theorem dX9_strike_31 : decode cX9_strike 31 = .ok (.iload 4, 2) := by decide +kernel
theorem dX9_strike_33 : decode cX9_strike 33 = .ok (.invokevirtual 161, 3) := by decide +kernel
theorem dX9_strike_36 : decode cX9_strike 36 = .ok (.aload_n 0, 1) := by decide +kernel
theorem dX9_strike_37 : decode cX9_strike 37 = .ok (.iload_n 2, 1) := by decide +kernel
theorem dX9_strike_38 : decode cX9_strike 38 = .ok (.invokevirtual 161, 3) := by decide +kernel
theorem dX9_strike_41 : decode cX9_strike 41 = .ok (.if_icmp .le 6, 3) := by decide +kernel
theorem dX9_strike_44 : decode cX9_strike 44 = .ok (.iload 4, 2) := by decide +kernel
theorem dX9_strike_46 : decode cX9_strike 46 = .ok (.istore_n 2, 1) := by decide +kernel
theorem dX9_strike_47 : decode cX9_strike 47 = .ok (.iload_n 3, 1) := by decide +kernel
theorem dX9_strike_48 : decode cX9_strike 48 = .ok (.aload_n 0, 1) := by decide +kernel
theorem dX9_strike_49 : decode cX9_strike 49 = .ok (.getfield 9, 3) := by decide +kernel
theorem dX9_strike_52 : decode cX9_strike 52 = .ok (.iload 4, 2) := by decide +kernel
theorem dX9_strike_54 : decode cX9_strike 54 = .ok (.invokestatic 144, 3) := by decide +kernel
theorem dX9_strike_57 : decode cX9_strike 57 = .ok (.ifCond .ne 10, 3) := by decide +kernel
theorem dX9_strike_60 : decode cX9_strike 60 = .ok (.iconst 1, 1) := by decide +kernel
theorem dX9_strike_61 : decode cX9_strike 61 = .ok (.iload 4, 2) := by decide +kernel
theorem dX9_strike_63 : decode cX9_strike 63 = .ok (.ishl, 1) := by decide +kernel
theorem dX9_strike_64 : decode cX9_strike 64 = .ok (.goto 4, 3) := by decide +kernel
theorem dX9_strike_67 : decode cX9_strike 67 = .ok (.iconst 0, 1) := by decide +kernel
theorem dX9_strike_68 : decode cX9_strike 68 = .ok (.ior, 1) := by decide +kernel
theorem dX9_strike_69 : decode cX9_strike 69 = .ok (.istore_n 3, 1) := by decide +kernel
theorem dX9_strike_70 : decode cX9_strike 70 = .ok (.iinc 4 1, 3) := by decide +kernel
theorem dX9_strike_73 : decode cX9_strike 73 = .ok (.goto (-50), 3) := by decide +kernel
theorem dX9_strike_76 : decode cX9_strike 76 = .ok (.bipush (-9), 2) := by decide +kernel
theorem dX9_strike_78 : decode cX9_strike 78 = .ok (.istore 4, 2) := by decide +kernel
theorem dX9_strike_80 : decode cX9_strike 80 = .ok (.iconst 0, 1) := by decide +kernel
theorem dX9_strike_81 : decode cX9_strike 81 = .ok (.istore 5, 2) := by decide +kernel
theorem dX9_strike_83 : decode cX9_strike 83 = .ok (.iload 5, 2) := by decide +kernel
theorem dX9_strike_85 : decode cX9_strike 85 = .ok (.aload_n 0, 1) := by decide +kernel
theorem dX9_strike_86 : decode cX9_strike 86 = .ok (.getfield 9, 3) := by decide +kernel
theorem dX9_strike_89 : decode cX9_strike 89 = .ok (.iconst 0, 1) := by decide +kernel
theorem dX9_strike_90 : decode cX9_strike 90 = .ok (.iaload, 1) := by decide +kernel
theorem dX9_strike_91 : decode cX9_strike 91 = .ok (.if_icmp .ge 49, 3) := by decide +kernel
theorem dX9_strike_94 : decode cX9_strike 94 = .ok (.iload 4, 2) := by decide +kernel
theorem dX9_strike_96 : decode cX9_strike 96 = .ok (.ifCond .lt 34, 3) := by decide +kernel
theorem dX9_strike_99 : decode cX9_strike 99 = .ok (.aload_n 0, 1) := by decide +kernel
theorem dX9_strike_100 : decode cX9_strike 100 = .ok (.getfield 9, 3) := by decide +kernel
theorem dX9_strike_103 : decode cX9_strike 103 = .ok (.iload 5, 2) := by decide +kernel
theorem dX9_strike_105 : decode cX9_strike 105 = .ok (.iconst 2, 1) := by decide +kernel
theorem dX9_strike_106 : decode cX9_strike 106 = .ok (.invokestatic 44, 3) := by decide +kernel
theorem dX9_strike_109 : decode cX9_strike 109 = .ok (.iaload, 1) := by decide +kernel
theorem dX9_strike_110 : decode cX9_strike 110 = .ok (.invokestatic 52, 3) := by decide +kernel
theorem dX9_strike_113 : decode cX9_strike 113 = .ok (.aload_n 0, 1) := by decide +kernel
theorem dX9_strike_114 : decode cX9_strike 114 = .ok (.getfield 9, 3) := by decide +kernel
theorem dX9_strike_117 : decode cX9_strike 117 = .ok (.iload 4, 2) := by decide +kernel
theorem dX9_strike_119 : decode cX9_strike 119 = .ok (.iconst 2, 1) := by decide +kernel
theorem dX9_strike_120 : decode cX9_strike 120 = .ok (.invokestatic 44, 3) := by decide +kernel
theorem dX9_strike_123 : decode cX9_strike 123 = .ok (.iaload, 1) := by decide +kernel
theorem dX9_strike_124 : decode cX9_strike 124 = .ok (.invokestatic 52, 3) := by decide +kernel
theorem dX9_strike_127 : decode cX9_strike 127 = .ok (.if_icmp .le 7, 3) := by decide +kernel
theorem dX9_strike_130 : decode cX9_strike 130 = .ok (.iload 5, 2) := by decide +kernel
theorem dX9_strike_132 : decode cX9_strike 132 = .ok (.istore 4, 2) := by decide +kernel
theorem dX9_strike_134 : decode cX9_strike 134 = .ok (.iinc 5 1, 3) := by decide +kernel
theorem dX9_strike_137 : decode cX9_strike 137 = .ok (.goto (-54), 3) := by decide +kernel
theorem dX9_strike_140 : decode cX9_strike 140 = .ok (.iload_n 1, 1) := by decide +kernel
theorem dX9_strike_141 : decode cX9_strike 141 = .ok (.ifCond .ne 7, 3) := by decide +kernel
theorem dX9_strike_144 : decode cX9_strike 144 = .ok (.iload_n 2, 1) := by decide +kernel
theorem dX9_strike_145 : decode cX9_strike 145 = .ok (.goto 27, 3) := by decide +kernel
theorem dX9_strike_148 : decode cX9_strike 148 = .ok (.iload_n 1, 1) := by decide +kernel
theorem dX9_strike_149 : decode cX9_strike 149 = .ok (.iconst 1, 1) := by decide +kernel
theorem dX9_strike_150 : decode cX9_strike 150 = .ok (.if_icmp .ne 11, 3) := by decide +kernel
theorem dX9_strike_153 : decode cX9_strike 153 = .ok (.aload_n 0, 1) := by decide +kernel
theorem dX9_strike_154 : decode cX9_strike 154 = .ok (.iload_n 2, 1) := by decide +kernel
theorem dX9_strike_155 : decode cX9_strike 155 = .ok (.invokevirtual 161, 3) := by decide +kernel
theorem dX9_strike_158 : decode cX9_strike 158 = .ok (.goto 14, 3) := by decide +kernel
theorem dX9_strike_161 : decode cX9_strike 161 = .ok (.iload_n 1, 1) := by decide +kernel
theorem dX9_strike_162 : decode cX9_strike 162 = .ok (.iconst 2, 1) := by decide +kernel
theorem dX9_strike_163 : decode cX9_strike 163 = .ok (.if_icmp .ne 7, 3) := by decide +kernel
theorem dX9_strike_166 : decode cX9_strike 166 = .ok (.iload_n 3, 1) := by decide +kernel
theorem dX9_strike_167 : decode cX9_strike 167 = .ok (.goto 5, 3) := by decide +kernel
theorem dX9_strike_170 : decode cX9_strike 170 = .ok (.iload 4, 2) := by decide +kernel
theorem dX9_strike_172 : decode cX9_strike 172 = .ok (.ireturn, 1) := by decide +kernel
theorem dX9_bothIn_0 : decode cX9_bothIn 0 = .ok (.bipush 127, 2) := by decide +kernel
theorem dX9_bothIn_2 : decode cX9_bothIn 2 = .ok (.aload_n 0, 1) := by decide +kernel
theorem dX9_bothIn_3 : decode cX9_bothIn 3 = .ok (.getfield 9, 3) := by decide +kernel
theorem dX9_bothIn_6 : decode cX9_bothIn 6 = .ok (.iload_n 1, 1) := by decide +kernel
theorem dX9_bothIn_7 : decode cX9_bothIn 7 = .ok (.iconst 2, 1) := by decide +kernel
theorem dX9_bothIn_8 : decode cX9_bothIn 8 = .ok (.invokestatic 44, 3) := by decide +kernel
theorem dX9_bothIn_11 : decode cX9_bothIn 11 = .ok (.iaload, 1) := by decide +kernel
theorem dX9_bothIn_12 : decode cX9_bothIn 12 = .ok (.iconst (-1), 1) := by decide +kernel
theorem dX9_bothIn_13 : decode cX9_bothIn 13 = .ok (.ixor, 1) := by decide +kernel
theorem dX9_bothIn_14 : decode cX9_bothIn 14 = .ok (.iand, 1) := by decide +kernel
theorem dX9_bothIn_15 : decode cX9_bothIn 15 = .ok (.aload_n 0, 1) := by decide +kernel
theorem dX9_bothIn_16 : decode cX9_bothIn 16 = .ok (.getfield 9, 3) := by decide +kernel
theorem dX9_bothIn_19 : decode cX9_bothIn 19 = .ok (.iload_n 2, 1) := by decide +kernel
theorem dX9_bothIn_20 : decode cX9_bothIn 20 = .ok (.iconst 2, 1) := by decide +kernel
theorem dX9_bothIn_21 : decode cX9_bothIn 21 = .ok (.invokestatic 44, 3) := by decide +kernel
theorem dX9_bothIn_24 : decode cX9_bothIn 24 = .ok (.iaload, 1) := by decide +kernel
theorem dX9_bothIn_25 : decode cX9_bothIn 25 = .ok (.iconst (-1), 1) := by decide +kernel
theorem dX9_bothIn_26 : decode cX9_bothIn 26 = .ok (.ixor, 1) := by decide +kernel
theorem dX9_bothIn_27 : decode cX9_bothIn 27 = .ok (.iand, 1) := by decide +kernel
theorem dX9_bothIn_28 : decode cX9_bothIn 28 = .ok (.ireturn, 1) := by decide +kernel
theorem dX9_meet_0 : decode cX9_meet 0 = .ok (.aload_n 0, 1) := by decide +kernel
theorem dX9_meet_1 : decode cX9_meet 1 = .ok (.iload_n 1, 1) := by decide +kernel
theorem dX9_meet_2 : decode cX9_meet 2 = .ok (.invokevirtual 113, 3) := by decide +kernel
theorem dX9_meet_5 : decode cX9_meet 5 = .ok (.ifCond .eq 25, 3) := by decide +kernel
theorem dX9_meet_8 : decode cX9_meet 8 = .ok (.aload_n 0, 1) := by decide +kernel
theorem dX9_meet_9 : decode cX9_meet 9 = .ok (.iload_n 2, 1) := by decide +kernel
theorem dX9_meet_10 : decode cX9_meet 10 = .ok (.invokevirtual 113, 3) := by decide +kernel
theorem dX9_meet_13 : decode cX9_meet 13 = .ok (.ifCond .eq 17, 3) := by decide +kernel
theorem dX9_meet_16 : decode cX9_meet 16 = .ok (.iload_n 1, 1) := by decide +kernel
theorem dX9_meet_17 : decode cX9_meet 17 = .ok (.iload_n 2, 1) := by decide +kernel
theorem dX9_meet_18 : decode cX9_meet 18 = .ok (.if_icmp .eq 12, 3) := by decide +kernel
theorem dX9_meet_21 : decode cX9_meet 21 = .ok (.aload_n 0, 1) := by decide +kernel
theorem dX9_meet_22 : decode cX9_meet 22 = .ok (.iload_n 1, 1) := by decide +kernel
theorem dX9_meet_23 : decode cX9_meet 23 = .ok (.iload_n 2, 1) := by decide +kernel
theorem dX9_meet_24 : decode cX9_meet 24 = .ok (.invokevirtual 164, 3) := by decide +kernel
theorem dX9_meet_27 : decode cX9_meet 27 = .ok (.goto 8, 3) := by decide +kernel
theorem dX9_meet_30 : decode cX9_meet 30 = .ok (.aload_n 0, 1) := by decide +kernel
theorem dX9_meet_31 : decode cX9_meet 31 = .ok (.iconst (-1), 1) := by decide +kernel
theorem dX9_meet_32 : decode cX9_meet 32 = .ok (.invokevirtual 36, 3) := by decide +kernel
theorem dX9_meet_35 : decode cX9_meet 35 = .ok (.ireturn, 1) := by decide +kernel
theorem dX9_never_0 : decode cX9_never 0 = .ok (.iload_n 1, 1) := by decide +kernel
theorem dX9_never_1 : decode cX9_never 1 = .ok (.iconst 0, 1) := by decide +kernel
theorem dX9_never_2 : decode cX9_never 2 = .ok (.iconst 1, 1) := by decide +kernel
theorem dX9_never_3 : decode cX9_never 3 = .ok (.invokestatic 40, 3) := by decide +kernel
theorem dX9_never_6 : decode cX9_never 6 = .ok (.ifCond .ne 10, 3) := by decide +kernel
theorem dX9_never_9 : decode cX9_never 9 = .ok (.aload_n 0, 1) := by decide +kernel
theorem dX9_never_10 : decode cX9_never 10 = .ok (.bipush (-2), 2) := by decide +kernel
theorem dX9_never_12 : decode cX9_never 12 = .ok (.invokevirtual 36, 3) := by decide +kernel
theorem dX9_never_15 : decode cX9_never 15 = .ok (.ireturn, 1) := by decide +kernel
theorem dX9_never_16 : decode cX9_never 16 = .ok (.iconst 0, 1) := by decide +kernel
theorem dX9_never_17 : decode cX9_never 17 = .ok (.istore_n 2, 1) := by decide +kernel
theorem dX9_never_18 : decode cX9_never 18 = .ok (.bipush (-9), 2) := by decide +kernel
theorem dX9_never_20 : decode cX9_never 20 = .ok (.istore_n 3, 1) := by decide +kernel
theorem dX9_never_21 : decode cX9_never 21 = .ok (.iconst 0, 1) := by decide +kernel
theorem dX9_never_22 : decode cX9_never 22 = .ok (.istore 4, 2) := by decide +kernel
theorem dX9_never_24 : decode cX9_never 24 = .ok (.iload 4, 2) := by decide +kernel
theorem dX9_never_26 : decode cX9_never 26 = .ok (.aload_n 0, 1) := by decide +kernel
theorem dX9_never_27 : decode cX9_never 27 = .ok (.getfield 9, 3) := by decide +kernel
theorem dX9_never_30 : decode cX9_never 30 = .ok (.iconst 0, 1) := by decide +kernel
theorem dX9_never_31 : decode cX9_never 31 = .ok (.iaload, 1) := by decide +kernel
theorem dX9_never_32 : decode cX9_never 32 = .ok (.if_icmp .ge 66, 3) := by decide +kernel
theorem dX9_never_35 : decode cX9_never 35 = .ok (.iload 4, 2) := by decide +kernel
theorem dX9_never_37 : decode cX9_never 37 = .ok (.iconst 1, 1) := by decide +kernel
theorem dX9_never_38 : decode cX9_never 38 = .ok (.iadd, 1) := by decide +kernel
theorem dX9_never_39 : decode cX9_never 39 = .ok (.istore 5, 2) := by decide +kernel
theorem dX9_never_41 : decode cX9_never 41 = .ok (.iload 5, 2) := by decide +kernel
theorem dX9_never_43 : decode cX9_never 43 = .ok (.aload_n 0, 1) := by decide +kernel
theorem dX9_never_44 : decode cX9_never 44 = .ok (.getfield 9, 3) := by decide +kernel
theorem dX9_never_47 : decode cX9_never 47 = .ok (.iconst 0, 1) := by decide +kernel
theorem dX9_never_48 : decode cX9_never 48 = .ok (.iaload, 1) := by decide +kernel
theorem dX9_never_49 : decode cX9_never 49 = .ok (.if_icmp .ge 43, 3) := by decide +kernel
theorem dX9_never_52 : decode cX9_never 52 = .ok (.aload_n 0, 1) := by decide +kernel
theorem dX9_never_53 : decode cX9_never 53 = .ok (.iload 4, 2) := by decide +kernel
theorem dX9_never_55 : decode cX9_never 55 = .ok (.iload 5, 2) := by decide +kernel
theorem dX9_never_57 : decode cX9_never 57 = .ok (.invokevirtual 164, 3) := by decide +kernel
theorem dX9_never_60 : decode cX9_never 60 = .ok (.ifCond .eq 6, 3) := by decide +kernel
theorem dX9_never_63 : decode cX9_never 63 = .ok (.goto 23, 3) := by decide +kernel
theorem dX9_never_66 : decode cX9_never 66 = .ok (.iload_n 2, 1) := by decide +kernel
theorem dX9_never_67 : decode cX9_never 67 = .ok (.ifCond .ne 14, 3) := by decide +kernel
theorem dX9_never_70 : decode cX9_never 70 = .ok (.bipush 10, 2) := by decide +kernel
theorem dX9_never_72 : decode cX9_never 72 = .ok (.iload 4, 2) := by decide +kernel
theorem dX9_never_74 : decode cX9_never 74 = .ok (.imul, 1) := by decide +kernel
theorem dX9_never_75 : decode cX9_never 75 = .ok (.iload 5, 2) := by decide +kernel
theorem dX9_never_77 : decode cX9_never 77 = .ok (.iadd, 1) := by decide +kernel
theorem dX9_never_78 : decode cX9_never 78 = .ok (.goto 4, 3) := by decide +kernel
theorem dX9_never_81 : decode cX9_never 81 = .ok (.iload_n 3, 1) := by decide +kernel
theorem dX9_never_82 : decode cX9_never 82 = .ok (.istore_n 3, 1) := by decide +kernel
theorem dX9_never_83 : decode cX9_never 83 = .ok (.iinc 2 1, 3) := by decide +kernel
theorem dX9_never_86 : decode cX9_never 86 = .ok (.iinc 5 1, 3) := by decide +kernel
theorem dX9_never_89 : decode cX9_never 89 = .ok (.goto (-48), 3) := by decide +kernel
theorem dX9_never_92 : decode cX9_never 92 = .ok (.iinc 4 1, 3) := by decide +kernel
theorem dX9_never_95 : decode cX9_never 95 = .ok (.goto (-71), 3) := by decide +kernel
theorem dX9_never_98 : decode cX9_never 98 = .ok (.iload_n 1, 1) := by decide +kernel
theorem dX9_never_99 : decode cX9_never 99 = .ok (.ifCond .ne 7, 3) := by decide +kernel
theorem dX9_never_102 : decode cX9_never 102 = .ok (.iload_n 2, 1) := by decide +kernel
theorem dX9_never_103 : decode cX9_never 103 = .ok (.goto 4, 3) := by decide +kernel
theorem dX9_never_106 : decode cX9_never 106 = .ok (.iload_n 3, 1) := by decide +kernel
theorem dX9_never_107 : decode cX9_never 107 = .ok (.ireturn, 1) := by decide +kernel
theorem dX9_rest_0 : decode cX9_rest 0 = .ok (.aload_n 0, 1) := by decide +kernel
theorem dX9_rest_1 : decode cX9_rest 1 = .ok (.iload_n 1, 1) := by decide +kernel
theorem dX9_rest_2 : decode cX9_rest 2 = .ok (.invokevirtual 113, 3) := by decide +kernel
theorem dX9_rest_5 : decode cX9_rest 5 = .ok (.ifCond .ne 9, 3) := by decide +kernel
theorem dX9_rest_8 : decode cX9_rest 8 = .ok (.aload_n 0, 1) := by decide +kernel
theorem dX9_rest_9 : decode cX9_rest 9 = .ok (.iconst (-1), 1) := by decide +kernel
theorem dX9_rest_10 : decode cX9_rest 10 = .ok (.invokevirtual 36, 3) := by decide +kernel
theorem dX9_rest_13 : decode cX9_rest 13 = .ok (.ireturn, 1) := by decide +kernel
theorem dX9_rest_14 : decode cX9_rest 14 = .ok (.iconst 0, 1) := by decide +kernel
theorem dX9_rest_15 : decode cX9_rest 15 = .ok (.istore_n 2, 1) := by decide +kernel
theorem dX9_rest_16 : decode cX9_rest 16 = .ok (.iconst 0, 1) := by decide +kernel
theorem dX9_rest_17 : decode cX9_rest 17 = .ok (.istore_n 3, 1) := by decide +kernel
theorem dX9_rest_18 : decode cX9_rest 18 = .ok (.iconst 0, 1) := by decide +kernel
theorem dX9_rest_19 : decode cX9_rest 19 = .ok (.istore 4, 2) := by decide +kernel
theorem dX9_rest_21 : decode cX9_rest 21 = .ok (.iload 4, 2) := by decide +kernel
theorem dX9_rest_23 : decode cX9_rest 23 = .ok (.bipush 14, 2) := by decide +kernel
theorem dX9_rest_25 : decode cX9_rest 25 = .ok (.if_icmp .ge 49, 3) := by decide +kernel
theorem dX9_rest_28 : decode cX9_rest 28 = .ok (.aload_n 0, 1) := by decide +kernel
theorem dX9_rest_29 : decode cX9_rest 29 = .ok (.getfield 9, 3) := by decide +kernel
theorem dX9_rest_32 : decode cX9_rest 32 = .ok (.iload_n 1, 1) := by decide +kernel
theorem dX9_rest_33 : decode cX9_rest 33 = .ok (.iconst 2, 1) := by decide +kernel
theorem dX9_rest_34 : decode cX9_rest 34 = .ok (.invokestatic 44, 3) := by decide +kernel
theorem dX9_rest_37 : decode cX9_rest 37 = .ok (.iaload, 1) := by decide +kernel
theorem dX9_rest_38 : decode cX9_rest 38 = .ok (.iload 4, 2) := by decide +kernel
theorem dX9_rest_40 : decode cX9_rest 40 = .ok (.bipush 7, 2) := by decide +kernel
theorem dX9_rest_42 : decode cX9_rest 42 = .ok (.irem, 1) := by decide +kernel
theorem dX9_rest_43 : decode cX9_rest 43 = .ok (.invokestatic 65, 3) := by decide +kernel
theorem dX9_rest_46 : decode cX9_rest 46 = .ok (.ifCond .eq 9, 3) := by decide +kernel
theorem dX9_rest_49 : decode cX9_rest 49 = .ok (.iload_n 3, 1) := by decide +kernel
theorem dX9_rest_50 : decode cX9_rest 50 = .ok (.iconst 1, 1) := by decide +kernel
theorem dX9_rest_51 : decode cX9_rest 51 = .ok (.iadd, 1) := by decide +kernel
theorem dX9_rest_52 : decode cX9_rest 52 = .ok (.goto 4, 3) := by decide +kernel
theorem dX9_rest_55 : decode cX9_rest 55 = .ok (.iconst 0, 1) := by decide +kernel
theorem dX9_rest_56 : decode cX9_rest 56 = .ok (.istore_n 3, 1) := by decide +kernel
theorem dX9_rest_57 : decode cX9_rest 57 = .ok (.iload_n 3, 1) := by decide +kernel
theorem dX9_rest_58 : decode cX9_rest 58 = .ok (.iload_n 2, 1) := by decide +kernel
theorem dX9_rest_59 : decode cX9_rest 59 = .ok (.if_icmp .le 7, 3) := by decide +kernel
theorem dX9_rest_62 : decode cX9_rest 62 = .ok (.iload_n 3, 1) := by decide +kernel
theorem dX9_rest_63 : decode cX9_rest 63 = .ok (.goto 4, 3) := by decide +kernel
theorem dX9_rest_66 : decode cX9_rest 66 = .ok (.iload_n 2, 1) := by decide +kernel
theorem dX9_rest_67 : decode cX9_rest 67 = .ok (.istore_n 2, 1) := by decide +kernel
theorem dX9_rest_68 : decode cX9_rest 68 = .ok (.iinc 4 1, 3) := by decide +kernel
theorem dX9_rest_71 : decode cX9_rest 71 = .ok (.goto (-50), 3) := by decide +kernel
theorem dX9_rest_74 : decode cX9_rest 74 = .ok (.iload_n 2, 1) := by decide +kernel
theorem dX9_rest_75 : decode cX9_rest 75 = .ok (.bipush 7, 2) := by decide +kernel
theorem dX9_rest_77 : decode cX9_rest 77 = .ok (.invokestatic 79, 3) := by decide +kernel
theorem dX9_rest_80 : decode cX9_rest 80 = .ok (.ireturn, 1) := by decide +kernel
theorem dX9_tiredNow_0 : decode cX9_tiredNow 0 = .ok (.aload_n 0, 1) := by decide +kernel
theorem dX9_tiredNow_1 : decode cX9_tiredNow 1 = .ok (.iload_n 1, 1) := by decide +kernel
theorem dX9_tiredNow_2 : decode cX9_tiredNow 2 = .ok (.invokevirtual 140, 3) := by decide +kernel
theorem dX9_tiredNow_5 : decode cX9_tiredNow 5 = .ok (.aload_n 0, 1) := by decide +kernel
theorem dX9_tiredNow_6 : decode cX9_tiredNow 6 = .ok (.getfield 13, 3) := by decide +kernel
theorem dX9_tiredNow_9 : decode cX9_tiredNow 9 = .ok (.invokestatic 167, 3) := by decide +kernel
theorem dX9_tiredNow_12 : decode cX9_tiredNow 12 = .ok (.ireturn, 1) := by decide +kernel
theorem dX9_gift_0 : decode cX9_gift 0 = .ok (.aload_n 0, 1) := by decide +kernel
theorem dX9_gift_1 : decode cX9_gift 1 = .ok (.iload_n 1, 1) := by decide +kernel
theorem dX9_gift_2 : decode cX9_gift 2 = .ok (.invokevirtual 113, 3) := by decide +kernel
theorem dX9_gift_5 : decode cX9_gift 5 = .ok (.ifCond .eq 10, 3) := by decide +kernel
theorem dX9_gift_8 : decode cX9_gift 8 = .ok (.iload_n 2, 1) := by decide +kernel
theorem dX9_gift_9 : decode cX9_gift 9 = .ok (.invokestatic 117, 3) := by decide +kernel
theorem dX9_gift_12 : decode cX9_gift 12 = .ok (.ifCond .ne 7, 3) := by decide +kernel
theorem dX9_gift_15 : decode cX9_gift 15 = .ok (.iconst (-1), 1) := by decide +kernel
theorem dX9_gift_16 : decode cX9_gift 16 = .ok (.goto 10, 3) := by decide +kernel
theorem dX9_gift_19 : decode cX9_gift 19 = .ok (.iload_n 3, 1) := by decide +kernel
theorem dX9_gift_20 : decode cX9_gift 20 = .ok (.iconst 0, 1) := by decide +kernel
theorem dX9_gift_21 : decode cX9_gift 21 = .ok (.bipush 30, 2) := by decide +kernel
theorem dX9_gift_23 : decode cX9_gift 23 = .ok (.invokestatic 136, 3) := by decide +kernel
theorem dX9_gift_26 : decode cX9_gift 26 = .ok (.istore 4, 2) := by decide +kernel
theorem dX9_gift_28 : decode cX9_gift 28 = .ok (.iload 4, 2) := by decide +kernel
theorem dX9_gift_30 : decode cX9_gift 30 = .ok (.ifCond .ne 24, 3) := by decide +kernel
theorem dX9_gift_33 : decode cX9_gift 33 = .ok (.aload_n 0, 1) := by decide +kernel
theorem dX9_gift_34 : decode cX9_gift 34 = .ok (.getfield 9, 3) := by decide +kernel
theorem dX9_gift_37 : decode cX9_gift 37 = .ok (.iload_n 1, 1) := by decide +kernel
theorem dX9_gift_38 : decode cX9_gift 38 = .ok (.iconst 2, 1) := by decide +kernel
theorem dX9_gift_39 : decode cX9_gift 39 = .ok (.invokestatic 44, 3) := by decide +kernel
theorem dX9_gift_42 : decode cX9_gift 42 = .ok (.iaload, 1) := by decide +kernel
theorem dX9_gift_43 : decode cX9_gift 43 = .ok (.iload_n 2, 1) := by decide +kernel
theorem dX9_gift_44 : decode cX9_gift 44 = .ok (.invokestatic 65, 3) := by decide +kernel
theorem dX9_gift_47 : decode cX9_gift 47 = .ok (.ifCond .ne 7, 3) := by decide +kernel
theorem dX9_gift_50 : decode cX9_gift 50 = .ok (.bipush (-3), 2) := by decide +kernel
theorem dX9_gift_52 : decode cX9_gift 52 = .ok (.istore 4, 2) := by decide +kernel
theorem dX9_gift_54 : decode cX9_gift 54 = .ok (.iload 4, 2) := by decide +kernel
theorem dX9_gift_56 : decode cX9_gift 56 = .ok (.ifCond .eq 10, 3) := by decide +kernel
theorem dX9_gift_59 : decode cX9_gift 59 = .ok (.aload_n 0, 1) := by decide +kernel
theorem dX9_gift_60 : decode cX9_gift 60 = .ok (.iload 4, 2) := by decide +kernel
theorem dX9_gift_62 : decode cX9_gift 62 = .ok (.invokevirtual 36, 3) := by decide +kernel
theorem dX9_gift_65 : decode cX9_gift 65 = .ok (.ireturn, 1) := by decide +kernel
theorem dX9_gift_66 : decode cX9_gift 66 = .ok (.aload_n 0, 1) := by decide +kernel
theorem dX9_gift_67 : decode cX9_gift 67 = .ok (.iload_n 3, 1) := by decide +kernel
theorem dX9_gift_68 : decode cX9_gift 68 = .ok (.invokevirtual 170, 3) := by decide +kernel
theorem dX9_gift_71 : decode cX9_gift 71 = .ok (.istore 5, 2) := by decide +kernel
theorem dX9_gift_73 : decode cX9_gift 73 = .ok (.bipush (-9), 2) := by decide +kernel
theorem dX9_gift_75 : decode cX9_gift 75 = .ok (.istore 6, 2) := by decide +kernel
theorem dX9_gift_77 : decode cX9_gift 77 = .ok (.iconst 0, 1) := by decide +kernel
theorem dX9_gift_78 : decode cX9_gift 78 = .ok (.istore 7, 2) := by decide +kernel
theorem dX9_gift_80 : decode cX9_gift 80 = .ok (.iload 7, 2) := by decide +kernel
theorem dX9_gift_82 : decode cX9_gift 82 = .ok (.aload_n 0, 1) := by decide +kernel
theorem dX9_gift_83 : decode cX9_gift 83 = .ok (.getfield 9, 3) := by decide +kernel
theorem dX9_gift_86 : decode cX9_gift 86 = .ok (.iconst 0, 1) := by decide +kernel
theorem dX9_gift_87 : decode cX9_gift 87 = .ok (.iaload, 1) := by decide +kernel
theorem dX9_gift_88 : decode cX9_gift 88 = .ok (.if_icmp .ge 81, 3) := by decide +kernel
theorem dX9_gift_91 : decode cX9_gift 91 = .ok (.aload_n 0, 1) := by decide +kernel
theorem dX9_gift_92 : decode cX9_gift 92 = .ok (.iload_n 1, 1) := by decide +kernel
theorem dX9_gift_93 : decode cX9_gift 93 = .ok (.iload 7, 2) := by decide +kernel
theorem dX9_gift_95 : decode cX9_gift 95 = .ok (.iload_n 2, 1) := by decide +kernel
theorem dX9_gift_96 : decode cX9_gift 96 = .ok (.invokevirtual 120, 3) := by decide +kernel
theorem dX9_gift_99 : decode cX9_gift 99 = .ok (.ifCond .ne 6, 3) := by decide +kernel
theorem dX9_gift_102 : decode cX9_gift 102 = .ok (.goto 61, 3) := by decide +kernel
theorem dX9_gift_105 : decode cX9_gift 105 = .ok (.aload_n 0, 1) := by decide +kernel
theorem dX9_gift_106 : decode cX9_gift 106 = .ok (.getfield 9, 3) := by decide +kernel
theorem dX9_gift_109 : decode cX9_gift 109 = .ok (.aload_n 0, 1) := by decide +kernel
theorem dX9_gift_110 : decode cX9_gift 110 = .ok (.getfield 13, 3) := by decide +kernel
theorem dX9_gift_113 : decode cX9_gift 113 = .ok (.invokestatic 129, 3) := by decide +kernel
theorem dX9_gift_116 : decode cX9_gift 116 = .ok (.aload_n 0, 1) := by decide +kernel
theorem dX9_gift_117 : decode cX9_gift 117 = .ok (.getfield 13, 3) := by decide +kernel
theorem dX9_gift_120 : decode cX9_gift 120 = .ok (.iload_n 1, 1) := by decide +kernel
theorem dX9_gift_121 : decode cX9_gift 121 = .ok (.iload 7, 2) := by decide +kernel
theorem dX9_gift_123 : decode cX9_gift 123 = .ok (.iload_n 2, 1) := by decide +kernel
theorem dX9_gift_124 : decode cX9_gift 124 = .ok (.invokestatic 75, 3) := by decide +kernel
theorem dX9_gift_127 : decode cX9_gift 127 = .ok (.aload_n 0, 1) := by decide +kernel
theorem dX9_gift_128 : decode cX9_gift 128 = .ok (.getfield 13, 3) := by decide +kernel
theorem dX9_gift_131 : decode cX9_gift 131 = .ok (.iload_n 3, 1) := by decide +kernel
theorem dX9_gift_132 : decode cX9_gift 132 = .ok (.invokestatic 123, 3) := by decide +kernel
theorem dX9_gift_135 : decode cX9_gift 135 = .ok (.aload_n 0, 1) := by decide +kernel
theorem dX9_gift_136 : decode cX9_gift 136 = .ok (.getfield 13, 3) := by decide +kernel
theorem dX9_gift_139 : decode cX9_gift 139 = .ok (.invokestatic 167, 3) := by decide +kernel
theorem dX9_gift_142 : decode cX9_gift 142 = .ok (.iload 5, 2) := by decide +kernel
theorem dX9_gift_144 : decode cX9_gift 144 = .ok (.if_icmp .lt 6, 3) := by decide +kernel
theorem dX9_gift_147 : decode cX9_gift 147 = .ok (.goto 16, 3) := by decide +kernel
theorem dX9_gift_150 : decode cX9_gift 150 = .ok (.iload 7, 2) := by decide +kernel
theorem dX9_gift_152 : decode cX9_gift 152 = .ok (.istore 6, 2) := by decide +kernel
theorem dX9_gift_154 : decode cX9_gift 154 = .ok (.aload_n 0, 1) := by decide +kernel
theorem dX9_gift_155 : decode cX9_gift 155 = .ok (.getfield 13, 3) := by decide +kernel
theorem dX9_gift_158 : decode cX9_gift 158 = .ok (.invokestatic 167, 3) := by decide +kernel
theorem dX9_gift_161 : decode cX9_gift 161 = .ok (.istore 5, 2) := by decide +kernel
theorem dX9_gift_163 : decode cX9_gift 163 = .ok (.iinc 7 1, 3) := by decide +kernel
theorem dX9_gift_166 : decode cX9_gift 166 = .ok (.goto (-86), 3) := by decide +kernel
theorem dX9_gift_169 : decode cX9_gift 169 = .ok (.iload 6, 2) := by decide +kernel
theorem dX9_gift_171 : decode cX9_gift 171 = .ok (.ireturn, 1) := by decide +kernel
theorem dX9_trade_0 : decode cX9_trade 0 = .ok (.aload_n 0, 1) := by decide +kernel
theorem dX9_trade_1 : decode cX9_trade 1 = .ok (.iload_n 1, 1) := by decide +kernel
theorem dX9_trade_2 : decode cX9_trade 2 = .ok (.invokevirtual 113, 3) := by decide +kernel
theorem dX9_trade_5 : decode cX9_trade 5 = .ok (.ifCond .eq 26, 3) := by decide +kernel
theorem dX9_trade_8 : decode cX9_trade 8 = .ok (.aload_n 0, 1) := by decide +kernel
theorem dX9_trade_9 : decode cX9_trade 9 = .ok (.iload_n 2, 1) := by decide +kernel
theorem dX9_trade_10 : decode cX9_trade 10 = .ok (.invokevirtual 113, 3) := by decide +kernel
theorem dX9_trade_13 : decode cX9_trade 13 = .ok (.ifCond .eq 18, 3) := by decide +kernel
theorem dX9_trade_16 : decode cX9_trade 16 = .ok (.iload_n 1, 1) := by decide +kernel
theorem dX9_trade_17 : decode cX9_trade 17 = .ok (.iload_n 2, 1) := by decide +kernel
theorem dX9_trade_18 : decode cX9_trade 18 = .ok (.if_icmp .eq 13, 3) := by decide +kernel
theorem dX9_trade_21 : decode cX9_trade 21 = .ok (.iload_n 3, 1) := by decide +kernel
theorem dX9_trade_22 : decode cX9_trade 22 = .ok (.iconst 0, 1) := by decide +kernel
theorem dX9_trade_23 : decode cX9_trade 23 = .ok (.bipush 30, 2) := by decide +kernel
theorem dX9_trade_25 : decode cX9_trade 25 = .ok (.invokestatic 136, 3) := by decide +kernel
theorem dX9_trade_28 : decode cX9_trade 28 = .ok (.goto 4, 3) := by decide +kernel
theorem dX9_trade_31 : decode cX9_trade 31 = .ok (.iconst (-1), 1) := by decide +kernel
theorem dX9_trade_32 : decode cX9_trade 32 = .ok (.istore 4, 2) := by decide +kernel
theorem dX9_trade_34 : decode cX9_trade 34 = .ok (.iload 4, 2) := by decide +kernel
theorem dX9_trade_36 : decode cX9_trade 36 = .ok (.ifCond .eq 10, 3) := by decide +kernel
theorem dX9_trade_39 : decode cX9_trade 39 = .ok (.aload_n 0, 1) := by decide +kernel
theorem dX9_trade_40 : decode cX9_trade 40 = .ok (.iload 4, 2) := by decide +kernel
theorem dX9_trade_42 : decode cX9_trade 42 = .ok (.invokevirtual 36, 3) := by decide +kernel
theorem dX9_trade_45 : decode cX9_trade 45 = .ok (.ireturn, 1) := by decide +kernel
theorem dX9_trade_46 : decode cX9_trade 46 = .ok (.aload_n 0, 1) := by decide +kernel
theorem dX9_trade_47 : decode cX9_trade 47 = .ok (.iload_n 3, 1) := by decide +kernel
theorem dX9_trade_48 : decode cX9_trade 48 = .ok (.invokevirtual 140, 3) := by decide +kernel
theorem dX9_trade_51 : decode cX9_trade 51 = .ok (.aload_n 0, 1) := by decide +kernel
theorem dX9_trade_52 : decode cX9_trade 52 = .ok (.getfield 13, 3) := by decide +kernel
theorem dX9_trade_55 : decode cX9_trade 55 = .ok (.iload_n 1, 1) := by decide +kernel
theorem dX9_trade_56 : decode cX9_trade 56 = .ok (.iconst 3, 1) := by decide +kernel
theorem dX9_trade_57 : decode cX9_trade 57 = .ok (.invokestatic 44, 3) := by decide +kernel
theorem dX9_trade_60 : decode cX9_trade 60 = .ok (.iaload, 1) := by decide +kernel
theorem dX9_trade_61 : decode cX9_trade 61 = .ok (.aload_n 0, 1) := by decide +kernel
theorem dX9_trade_62 : decode cX9_trade 62 = .ok (.getfield 13, 3) := by decide +kernel
theorem dX9_trade_65 : decode cX9_trade 65 = .ok (.iload_n 2, 1) := by decide +kernel
theorem dX9_trade_66 : decode cX9_trade 66 = .ok (.iconst 3, 1) := by decide +kernel
theorem dX9_trade_67 : decode cX9_trade 67 = .ok (.invokestatic 44, 3) := by decide +kernel
theorem dX9_trade_70 : decode cX9_trade 70 = .ok (.iaload, 1) := by decide +kernel
theorem dX9_trade_71 : decode cX9_trade 71 = .ok (.iadd, 1) := by decide +kernel
theorem dX9_trade_72 : decode cX9_trade 72 = .ok (.istore 5, 2) := by decide +kernel
theorem dX9_trade_74 : decode cX9_trade 74 = .ok (.bipush (-9), 2) := by decide +kernel
theorem dX9_trade_76 : decode cX9_trade 76 = .ok (.istore 6, 2) := by decide +kernel
theorem dX9_trade_78 : decode cX9_trade 78 = .ok (.iconst 0, 1) := by decide +kernel
theorem dX9_trade_79 : decode cX9_trade 79 = .ok (.istore 7, 2) := by decide +kernel
theorem dX9_trade_81 : decode cX9_trade 81 = .ok (.iload 7, 2) := by decide +kernel
theorem dX9_trade_83 : decode cX9_trade 83 = .ok (.bipush 49, 2) := by decide +kernel
theorem dX9_trade_85 : decode cX9_trade 85 = .ok (.if_icmp .ge 136, 3) := by decide +kernel
theorem dX9_trade_88 : decode cX9_trade 88 = .ok (.iload 7, 2) := by decide +kernel
theorem dX9_trade_90 : decode cX9_trade 90 = .ok (.bipush 7, 2) := by decide +kernel
theorem dX9_trade_92 : decode cX9_trade 92 = .ok (.idiv, 1) := by decide +kernel
theorem dX9_trade_93 : decode cX9_trade 93 = .ok (.istore 8, 2) := by decide +kernel
theorem dX9_trade_95 : decode cX9_trade 95 = .ok (.iload 7, 2) := by decide +kernel
theorem dX9_trade_97 : decode cX9_trade 97 = .ok (.bipush 7, 2) := by decide +kernel
theorem dX9_trade_99 : decode cX9_trade 99 = .ok (.irem, 1) := by decide +kernel
theorem dX9_trade_100 : decode cX9_trade 100 = .ok (.istore 9, 2) := by decide +kernel
theorem dX9_trade_102 : decode cX9_trade 102 = .ok (.aload_n 0, 1) := by decide +kernel
theorem dX9_trade_103 : decode cX9_trade 103 = .ok (.iload_n 1, 1) := by decide +kernel
theorem dX9_trade_104 : decode cX9_trade 104 = .ok (.iload_n 2, 1) := by decide +kernel
theorem dX9_trade_105 : decode cX9_trade 105 = .ok (.iload 8, 2) := by decide +kernel
theorem dX9_trade_107 : decode cX9_trade 107 = .ok (.invokevirtual 120, 3) := by decide +kernel
theorem dX9_trade_110 : decode cX9_trade 110 = .ok (.ifCond .eq 105, 3) := by decide +kernel
theorem dX9_trade_113 : decode cX9_trade 113 = .ok (.aload_n 0, 1) := by decide +kernel
theorem dX9_trade_114 : decode cX9_trade 114 = .ok (.iload_n 2, 1) := by decide +kernel
theorem dX9_trade_115 : decode cX9_trade 115 = .ok (.iload_n 1, 1) := by decide +kernel
theorem dX9_trade_116 : decode cX9_trade 116 = .ok (.iload 9, 2) := by decide +kernel
theorem dX9_trade_118 : decode cX9_trade 118 = .ok (.invokevirtual 120, 3) := by decide +kernel
theorem dX9_trade_121 : decode cX9_trade 121 = .ok (.ifCond .ne 6, 3) := by decide +kernel
theorem dX9_trade_124 : decode cX9_trade 124 = .ok (.goto 91, 3) := by decide +kernel
theorem dX9_trade_127 : decode cX9_trade 127 = .ok (.aload_n 0, 1) := by decide +kernel
theorem dX9_trade_128 : decode cX9_trade 128 = .ok (.getfield 9, 3) := by decide +kernel
theorem dX9_trade_131 : decode cX9_trade 131 = .ok (.aload_n 0, 1) := by decide +kernel
theorem dX9_trade_132 : decode cX9_trade 132 = .ok (.getfield 13, 3) := by decide +kernel
theorem dX9_trade_135 : decode cX9_trade 135 = .ok (.invokestatic 129, 3) := by decide +kernel
theorem dX9_trade_138 : decode cX9_trade 138 = .ok (.aload_n 0, 1) := by decide +kernel
theorem dX9_trade_139 : decode cX9_trade 139 = .ok (.getfield 13, 3) := by decide +kernel
theorem dX9_trade_142 : decode cX9_trade 142 = .ok (.iload_n 1, 1) := by decide +kernel
theorem dX9_trade_143 : decode cX9_trade 143 = .ok (.iload_n 2, 1) := by decide +kernel
theorem dX9_trade_144 : decode cX9_trade 144 = .ok (.iload 8, 2) := by decide +kernel
theorem dX9_trade_146 : decode cX9_trade 146 = .ok (.invokestatic 75, 3) := by decide +kernel
theorem dX9_trade_149 : decode cX9_trade 149 = .ok (.aload_n 0, 1) := by decide +kernel
theorem dX9_trade_150 : decode cX9_trade 150 = .ok (.getfield 13, 3) := by decide +kernel
theorem dX9_trade_153 : decode cX9_trade 153 = .ok (.iload_n 2, 1) := by decide +kernel
theorem dX9_trade_154 : decode cX9_trade 154 = .ok (.iload_n 1, 1) := by decide +kernel
theorem dX9_trade_155 : decode cX9_trade 155 = .ok (.iload 9, 2) := by decide +kernel
theorem dX9_trade_157 : decode cX9_trade 157 = .ok (.invokestatic 75, 3) := by decide +kernel
theorem dX9_trade_160 : decode cX9_trade 160 = .ok (.aload_n 0, 1) := by decide +kernel
theorem dX9_trade_161 : decode cX9_trade 161 = .ok (.getfield 13, 3) := by decide +kernel
theorem dX9_trade_164 : decode cX9_trade 164 = .ok (.iload_n 3, 1) := by decide +kernel
theorem dX9_trade_165 : decode cX9_trade 165 = .ok (.invokestatic 123, 3) := by decide +kernel
theorem dX9_trade_168 : decode cX9_trade 168 = .ok (.aload_n 0, 1) := by decide +kernel
theorem dX9_trade_169 : decode cX9_trade 169 = .ok (.getfield 13, 3) := by decide +kernel
theorem dX9_trade_172 : decode cX9_trade 172 = .ok (.iload_n 1, 1) := by decide +kernel
theorem dX9_trade_173 : decode cX9_trade 173 = .ok (.iconst 3, 1) := by decide +kernel
theorem dX9_trade_174 : decode cX9_trade 174 = .ok (.invokestatic 44, 3) := by decide +kernel
theorem dX9_trade_177 : decode cX9_trade 177 = .ok (.iaload, 1) := by decide +kernel
theorem dX9_trade_178 : decode cX9_trade 178 = .ok (.aload_n 0, 1) := by decide +kernel
theorem dX9_trade_179 : decode cX9_trade 179 = .ok (.getfield 13, 3) := by decide +kernel
theorem dX9_trade_182 : decode cX9_trade 182 = .ok (.iload_n 2, 1) := by decide +kernel
theorem dX9_trade_183 : decode cX9_trade 183 = .ok (.iconst 3, 1) := by decide +kernel
theorem dX9_trade_184 : decode cX9_trade 184 = .ok (.invokestatic 44, 3) := by decide +kernel
theorem dX9_trade_187 : decode cX9_trade 187 = .ok (.iaload, 1) := by decide +kernel
theorem dX9_trade_188 : decode cX9_trade 188 = .ok (.iadd, 1) := by decide +kernel
theorem dX9_trade_189 : decode cX9_trade 189 = .ok (.istore 10, 2) := by decide +kernel
theorem dX9_trade_191 : decode cX9_trade 191 = .ok (.iload 10, 2) := by decide +kernel
theorem dX9_trade_193 : decode cX9_trade 193 = .ok (.iload 5, 2) := by decide +kernel
theorem dX9_trade_195 : decode cX9_trade 195 = .ok (.if_icmp .lt 6, 3) := by decide +kernel
theorem dX9_trade_198 : decode cX9_trade 198 = .ok (.goto 17, 3) := by decide +kernel
theorem dX9_trade_201 : decode cX9_trade 201 = .ok (.bipush 10, 2) := by decide +kernel
theorem dX9_trade_203 : decode cX9_trade 203 = .ok (.iload 8, 2) := by decide +kernel
theorem dX9_trade_205 : decode cX9_trade 205 = .ok (.imul, 1) := by decide +kernel
theorem dX9_trade_206 : decode cX9_trade 206 = .ok (.iload 9, 2) := by decide +kernel
theorem dX9_trade_208 : decode cX9_trade 208 = .ok (.iadd, 1) := by decide +kernel
theorem dX9_trade_209 : decode cX9_trade 209 = .ok (.istore 6, 2) := by decide +kernel
theorem dX9_trade_211 : decode cX9_trade 211 = .ok (.iload 10, 2) := by decide +kernel
theorem dX9_trade_213 : decode cX9_trade 213 = .ok (.istore 5, 2) := by decide +kernel
theorem dX9_trade_215 : decode cX9_trade 215 = .ok (.iinc 7 1, 3) := by decide +kernel
theorem dX9_trade_218 : decode cX9_trade 218 = .ok (.goto (-137), 3) := by decide +kernel
theorem dX9_trade_221 : decode cX9_trade 221 = .ok (.iload 6, 2) := by decide +kernel
theorem dX9_trade_223 : decode cX9_trade 223 = .ok (.ireturn, 1) := by decide +kernel
theorem dX9_better_0 : decode cX9_better 0 = .ok (.aload_n 0, 1) := by decide +kernel
theorem dX9_better_1 : decode cX9_better 1 = .ok (.iload_n 1, 1) := by decide +kernel
theorem dX9_better_2 : decode cX9_better 2 = .ok (.invokevirtual 113, 3) := by decide +kernel
theorem dX9_better_5 : decode cX9_better 5 = .ok (.ifCond .eq 13, 3) := by decide +kernel
theorem dX9_better_8 : decode cX9_better 8 = .ok (.iload_n 2, 1) := by decide +kernel
theorem dX9_better_9 : decode cX9_better 9 = .ok (.iconst 0, 1) := by decide +kernel
theorem dX9_better_10 : decode cX9_better 10 = .ok (.bipush 30, 2) := by decide +kernel
theorem dX9_better_12 : decode cX9_better 12 = .ok (.invokestatic 136, 3) := by decide +kernel
theorem dX9_better_15 : decode cX9_better 15 = .ok (.goto 4, 3) := by decide +kernel
theorem dX9_better_18 : decode cX9_better 18 = .ok (.iconst (-1), 1) := by decide +kernel
theorem dX9_better_19 : decode cX9_better 19 = .ok (.istore 4, 2) := by decide +kernel
theorem dX9_better_21 : decode cX9_better 21 = .ok (.iload 4, 2) := by decide +kernel
theorem dX9_better_23 : decode cX9_better 23 = .ok (.ifCond .ne 16, 3) := by decide +kernel
theorem dX9_better_26 : decode cX9_better 26 = .ok (.iload_n 3, 1) := by decide +kernel
theorem dX9_better_27 : decode cX9_better 27 = .ok (.iconst 0, 1) := by decide +kernel
theorem dX9_better_28 : decode cX9_better 28 = .ok (.iconst 1, 1) := by decide +kernel
theorem dX9_better_29 : decode cX9_better 29 = .ok (.invokestatic 40, 3) := by decide +kernel
theorem dX9_better_32 : decode cX9_better 32 = .ok (.ifCond .ne 7, 3) := by decide +kernel
theorem dX9_better_35 : decode cX9_better 35 = .ok (.bipush (-2), 2) := by decide +kernel
theorem dX9_better_37 : decode cX9_better 37 = .ok (.istore 4, 2) := by decide +kernel
theorem dX9_better_39 : decode cX9_better 39 = .ok (.iload 4, 2) := by decide +kernel
theorem dX9_better_41 : decode cX9_better 41 = .ok (.ifCond .eq 10, 3) := by decide +kernel
theorem dX9_better_44 : decode cX9_better 44 = .ok (.aload_n 0, 1) := by decide +kernel
theorem dX9_better_45 : decode cX9_better 45 = .ok (.iload 4, 2) := by decide +kernel
theorem dX9_better_47 : decode cX9_better 47 = .ok (.invokevirtual 36, 3) := by decide +kernel
theorem dX9_better_50 : decode cX9_better 50 = .ok (.ireturn, 1) := by decide +kernel
theorem dX9_better_51 : decode cX9_better 51 = .ok (.bipush (-9), 2) := by decide +kernel
theorem dX9_better_53 : decode cX9_better 53 = .ok (.istore 5, 2) := by decide +kernel
theorem dX9_better_55 : decode cX9_better 55 = .ok (.ldc 147, 2) := by decide +kernel
theorem dX9_better_57 : decode cX9_better 57 = .ok (.istore 6, 2) := by decide +kernel
theorem dX9_better_59 : decode cX9_better 59 = .ok (.iconst 0, 1) := by decide +kernel
theorem dX9_better_60 : decode cX9_better 60 = .ok (.istore 7, 2) := by decide +kernel
theorem dX9_better_62 : decode cX9_better 62 = .ok (.iload 7, 2) := by decide +kernel
theorem dX9_better_64 : decode cX9_better 64 = .ok (.bipush 6, 2) := by decide +kernel
theorem dX9_better_66 : decode cX9_better 66 = .ok (.if_icmp .ge 68, 3) := by decide +kernel
theorem dX9_better_69 : decode cX9_better 69 = .ok (.aload_n 0, 1) := by decide +kernel
theorem dX9_better_70 : decode cX9_better 70 = .ok (.getfield 9, 3) := by decide +kernel
theorem dX9_better_73 : decode cX9_better 73 = .ok (.aload_n 0, 1) := by decide +kernel
theorem dX9_better_74 : decode cX9_better 74 = .ok (.getfield 13, 3) := by decide +kernel
theorem dX9_better_77 : decode cX9_better 77 = .ok (.invokestatic 129, 3) := by decide +kernel
theorem dX9_better_80 : decode cX9_better 80 = .ok (.aload_n 0, 1) := by decide +kernel
