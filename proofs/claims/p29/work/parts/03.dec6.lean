theorem dL_makes_197 : decode cL_makes 197 = .ok (.iload 6, 2) := by decide +kernel
theorem dL_makes_199 : decode cL_makes 199 = .ok (.bipush 6, 2) := by decide +kernel
theorem dL_makes_201 : decode cL_makes 201 = .ok (.invokestatic 100, 3) := by decide +kernel
theorem dL_makes_204 : decode cL_makes 204 = .ok (.istore 9, 2) := by decide +kernel
theorem dL_makes_206 : decode cL_makes 206 = .ok (.aload_n 2, 1) := by decide +kernel
theorem dL_makes_207 : decode cL_makes 207 = .ok (.aload_n 1, 1) := by decide +kernel
theorem dL_makes_208 : decode cL_makes 208 = .ok (.iconst 0, 1) := by decide +kernel
theorem dL_makes_209 : decode cL_makes 209 = .ok (.iaload, 1) := by decide +kernel
theorem dL_makes_210 : decode cL_makes 210 = .ok (.iload 9, 2) := by decide +kernel
theorem dL_makes_212 : decode cL_makes 212 = .ok (.iastore, 1) := by decide +kernel
theorem dL_makes_213 : decode cL_makes 213 = .ok (.aload_n 3, 1) := by decide +kernel
theorem dL_makes_214 : decode cL_makes 214 = .ok (.aload_n 1, 1) := by decide +kernel
theorem dL_makes_215 : decode cL_makes 215 = .ok (.iconst 0, 1) := by decide +kernel
theorem dL_makes_216 : decode cL_makes 216 = .ok (.iaload, 1) := by decide +kernel
theorem dL_makes_217 : decode cL_makes 217 = .ok (.iconst 1, 1) := by decide +kernel
theorem dL_makes_218 : decode cL_makes 218 = .ok (.iload 7, 2) := by decide +kernel
theorem dL_makes_220 : decode cL_makes 220 = .ok (.iconst 3, 1) := by decide +kernel
theorem dL_makes_221 : decode cL_makes 221 = .ok (.invokestatic 100, 3) := by decide +kernel
theorem dL_makes_224 : decode cL_makes 224 = .ok (.iadd, 1) := by decide +kernel
theorem dL_makes_225 : decode cL_makes 225 = .ok (.iastore, 1) := by decide +kernel
theorem dL_makes_226 : decode cL_makes 226 = .ok (.aload 4, 2) := by decide +kernel
theorem dL_makes_228 : decode cL_makes 228 = .ok (.aload_n 1, 1) := by decide +kernel
theorem dL_makes_229 : decode cL_makes 229 = .ok (.iconst 0, 1) := by decide +kernel
theorem dL_makes_230 : decode cL_makes 230 = .ok (.iaload, 1) := by decide +kernel
theorem dL_makes_231 : decode cL_makes 231 = .ok (.iload 7, 2) := by decide +kernel
theorem dL_makes_233 : decode cL_makes 233 = .ok (.iconst 2, 1) := by decide +kernel
theorem dL_makes_234 : decode cL_makes 234 = .ok (.ishr, 1) := by decide +kernel
theorem dL_makes_235 : decode cL_makes 235 = .ok (.iconst 3, 1) := by decide +kernel
theorem dL_makes_236 : decode cL_makes 236 = .ok (.invokestatic 100, 3) := by decide +kernel
theorem dL_makes_239 : decode cL_makes 239 = .ok (.iastore, 1) := by decide +kernel
theorem dL_makes_240 : decode cL_makes 240 = .ok (.aload_n 1, 1) := by decide +kernel
theorem dL_makes_241 : decode cL_makes 241 = .ok (.iconst 0, 1) := by decide +kernel
theorem dL_makes_242 : decode cL_makes 242 = .ok (.dup2, 1) := by decide +kernel
theorem dL_makes_243 : decode cL_makes 243 = .ok (.iaload, 1) := by decide +kernel
theorem dL_makes_244 : decode cL_makes 244 = .ok (.iconst 1, 1) := by decide +kernel
theorem dL_makes_245 : decode cL_makes 245 = .ok (.iadd, 1) := by decide +kernel
theorem dL_makes_246 : decode cL_makes 246 = .ok (.iastore, 1) := by decide +kernel
theorem dL_makes_247 : decode cL_makes 247 = .ok (.aload_n 0, 1) := by decide +kernel
theorem dL_makes_248 : decode cL_makes 248 = .ok (.iload 9, 2) := by decide +kernel
theorem dL_makes_250 : decode cL_makes 250 = .ok (.iload 7, 2) := by decide +kernel
theorem dL_makes_252 : decode cL_makes 252 = .ok (.iconst 4, 1) := by decide +kernel
theorem dL_makes_253 : decode cL_makes 253 = .ok (.ishr, 1) := by decide +kernel
theorem dL_makes_254 : decode cL_makes 254 = .ok (.iconst 3, 1) := by decide +kernel
theorem dL_makes_255 : decode cL_makes 255 = .ok (.invokestatic 100, 3) := by decide +kernel
theorem dL_makes_258 : decode cL_makes 258 = .ok (.iconst 1, 1) := by decide +kernel
theorem dL_makes_259 : decode cL_makes 259 = .ok (.iload 7, 2) := by decide +kernel
theorem dL_makes_261 : decode cL_makes 261 = .ok (.bipush 6, 2) := by decide +kernel
theorem dL_makes_263 : decode cL_makes 263 = .ok (.ishr, 1) := by decide +kernel
theorem dL_makes_264 : decode cL_makes 264 = .ok (.bipush 9, 2) := by decide +kernel
theorem dL_makes_266 : decode cL_makes 266 = .ok (.invokestatic 100, 3) := by decide +kernel
theorem dL_makes_269 : decode cL_makes 269 = .ok (.iadd, 1) := by decide +kernel
theorem dL_makes_270 : decode cL_makes 270 = .ok (.aload_n 3, 1) := by decide +kernel
theorem dL_makes_271 : decode cL_makes 271 = .ok (.aload_n 1, 1) := by decide +kernel
theorem dL_makes_272 : decode cL_makes 272 = .ok (.iconst 0, 1) := by decide +kernel
theorem dL_makes_273 : decode cL_makes 273 = .ok (.iaload, 1) := by decide +kernel
theorem dL_makes_274 : decode cL_makes 274 = .ok (.iconst 1, 1) := by decide +kernel
theorem dL_makes_275 : decode cL_makes 275 = .ok (.isub, 1) := by decide +kernel
theorem dL_makes_276 : decode cL_makes 276 = .ok (.iaload, 1) := by decide +kernel
theorem dL_makes_277 : decode cL_makes 277 = .ok (.aload 4, 2) := by decide +kernel
theorem dL_makes_279 : decode cL_makes 279 = .ok (.aload_n 1, 1) := by decide +kernel
theorem dL_makes_280 : decode cL_makes 280 = .ok (.iconst 0, 1) := by decide +kernel
theorem dL_makes_281 : decode cL_makes 281 = .ok (.iaload, 1) := by decide +kernel
theorem dL_makes_282 : decode cL_makes 282 = .ok (.iconst 1, 1) := by decide +kernel
theorem dL_makes_283 : decode cL_makes 283 = .ok (.isub, 1) := by decide +kernel
theorem dL_makes_284 : decode cL_makes 284 = .ok (.iaload, 1) := by decide +kernel
theorem dL_makes_285 : decode cL_makes 285 = .ok (.iload 7, 2) := by decide +kernel
theorem dL_makes_287 : decode cL_makes 287 = .ok (.bipush 10, 2) := by decide +kernel
theorem dL_makes_289 : decode cL_makes 289 = .ok (.ishr, 1) := by decide +kernel
theorem dL_makes_290 : decode cL_makes 290 = .ok (.iconst 2, 1) := by decide +kernel
theorem dL_makes_291 : decode cL_makes 291 = .ok (.invokestatic 100, 3) := by decide +kernel
theorem dL_makes_294 : decode cL_makes 294 = .ok (.invokestatic 108, 3) := by decide +kernel
theorem dL_makes_297 : decode cL_makes 297 = .ok (.aload_n 1, 1) := by decide +kernel
theorem dL_makes_298 : decode cL_makes 298 = .ok (.iconst 0, 1) := by decide +kernel
theorem dL_makes_299 : decode cL_makes 299 = .ok (.iaload, 1) := by decide +kernel
theorem dL_makes_300 : decode cL_makes 300 = .ok (.iconst 1, 1) := by decide +kernel
theorem dL_makes_301 : decode cL_makes 301 = .ok (.isub, 1) := by decide +kernel
theorem dL_makes_302 : decode cL_makes 302 = .ok (.if_icmp .ne 20, 3) := by decide +kernel
theorem dL_makes_305 : decode cL_makes 305 = .ok (.aload_n 0, 1) := by decide +kernel
theorem dL_makes_306 : decode cL_makes 306 = .ok (.aload_n 1, 1) := by decide +kernel
theorem dL_makes_307 : decode cL_makes 307 = .ok (.iconst 0, 1) := by decide +kernel
theorem dL_makes_308 : decode cL_makes 308 = .ok (.iaload, 1) := by decide +kernel
theorem dL_makes_309 : decode cL_makes 309 = .ok (.iconst 1, 1) := by decide +kernel
theorem dL_makes_310 : decode cL_makes 310 = .ok (.isub, 1) := by decide +kernel
theorem dL_makes_311 : decode cL_makes 311 = .ok (.iconst 0, 1) := by decide +kernel
theorem dL_makes_312 : decode cL_makes 312 = .ok (.invokestatic 111, 3) := by decide +kernel
theorem dL_makes_315 : decode cL_makes 315 = .ok (.ifCond .ne 7, 3) := by decide +kernel
theorem dL_makes_318 : decode cL_makes 318 = .ok (.iconst 1, 1) := by decide +kernel
theorem dL_makes_319 : decode cL_makes 319 = .ok (.goto 4, 3) := by decide +kernel
theorem dL_makes_322 : decode cL_makes 322 = .ok (.iconst 0, 1) := by decide +kernel
theorem dL_makes_323 : decode cL_makes 323 = .ok (.ireturn, 1) := by decide +kernel
theorem dL_sets_0 : decode cL_sets 0 = .ok (.iload_n 2, 1) := by decide +kernel
theorem dL_sets_1 : decode cL_sets 1 = .ok (.bipush 8, 2) := by decide +kernel
theorem dL_sets_3 : decode cL_sets 3 = .ok (.invokestatic 100, 3) := by decide +kernel
theorem dL_sets_6 : decode cL_sets 6 = .ok (.istore 4, 2) := by decide +kernel
theorem dL_sets_8 : decode cL_sets 8 = .ok (.iload 4, 2) := by decide +kernel
theorem dL_sets_10 : decode cL_sets 10 = .ok (.iconst 3, 1) := by decide +kernel
theorem dL_sets_11 : decode cL_sets 11 = .ok (.if_icmp .ge 82, 3) := by decide +kernel
theorem dL_sets_14 : decode cL_sets 14 = .ok (.iload_n 2, 1) := by decide +kernel
theorem dL_sets_15 : decode cL_sets 15 = .ok (.iconst 3, 1) := by decide +kernel
theorem dL_sets_16 : decode cL_sets 16 = .ok (.ishr, 1) := by decide +kernel
theorem dL_sets_17 : decode cL_sets 17 = .ok (.iconst 4, 1) := by decide +kernel
theorem dL_sets_18 : decode cL_sets 18 = .ok (.invokestatic 100, 3) := by decide +kernel
theorem dL_sets_21 : decode cL_sets 21 = .ok (.istore 5, 2) := by decide +kernel
theorem dL_sets_23 : decode cL_sets 23 = .ok (.aload_n 0, 1) := by decide +kernel
theorem dL_sets_24 : decode cL_sets 24 = .ok (.iload_n 2, 1) := by decide +kernel
theorem dL_sets_25 : decode cL_sets 25 = .ok (.iconst 5, 1) := by decide +kernel
theorem dL_sets_26 : decode cL_sets 26 = .ok (.ishr, 1) := by decide +kernel
theorem dL_sets_27 : decode cL_sets 27 = .ok (.bipush 12, 2) := by decide +kernel
theorem dL_sets_29 : decode cL_sets 29 = .ok (.invokestatic 100, 3) := by decide +kernel
theorem dL_sets_32 : decode cL_sets 32 = .ok (.iload 5, 2) := by decide +kernel
theorem dL_sets_34 : decode cL_sets 34 = .ok (.iload_n 3, 1) := by decide +kernel
theorem dL_sets_35 : decode cL_sets 35 = .ok (.iconst 3, 1) := by decide +kernel
theorem dL_sets_36 : decode cL_sets 36 = .ok (.invokestatic 100, 3) := by decide +kernel
theorem dL_sets_39 : decode cL_sets 39 = .ok (.ifCond .le 7, 3) := by decide +kernel
theorem dL_sets_42 : decode cL_sets 42 = .ok (.iconst 0, 1) := by decide +kernel
theorem dL_sets_43 : decode cL_sets 43 = .ok (.goto 20, 3) := by decide +kernel
theorem dL_sets_46 : decode cL_sets 46 = .ok (.iload 5, 2) := by decide +kernel
theorem dL_sets_48 : decode cL_sets 48 = .ok (.ifCond .ne 14, 3) := by decide +kernel
theorem dL_sets_51 : decode cL_sets 51 = .ok (.iload_n 3, 1) := by decide +kernel
theorem dL_sets_52 : decode cL_sets 52 = .ok (.iconst 2, 1) := by decide +kernel
theorem dL_sets_53 : decode cL_sets 53 = .ok (.ishr, 1) := by decide +kernel
theorem dL_sets_54 : decode cL_sets 54 = .ok (.bipush 20, 2) := by decide +kernel
theorem dL_sets_56 : decode cL_sets 56 = .ok (.invokestatic 100, 3) := by decide +kernel
theorem dL_sets_59 : decode cL_sets 59 = .ok (.goto 4, 3) := by decide +kernel
theorem dL_sets_62 : decode cL_sets 62 = .ok (.iconst 1, 1) := by decide +kernel
theorem dL_sets_63 : decode cL_sets 63 = .ok (.invokestatic 114, 3) := by decide +kernel
theorem dL_sets_66 : decode cL_sets 66 = .ok (.istore 6, 2) := by decide +kernel
theorem dL_sets_68 : decode cL_sets 68 = .ok (.iload 6, 2) := by decide +kernel
theorem dL_sets_70 : decode cL_sets 70 = .ok (.ifCond .lt 10, 3) := by decide +kernel
theorem dL_sets_73 : decode cL_sets 73 = .ok (.iload 6, 2) := by decide +kernel
theorem dL_sets_75 : decode cL_sets 75 = .ok (.bipush 50, 2) := by decide +kernel
theorem dL_sets_77 : decode cL_sets 77 = .ok (.if_icmp .le 10, 3) := by decide +kernel
theorem dL_sets_80 : decode cL_sets 80 = .ok (.iload 6, 2) := by decide +kernel
theorem dL_sets_82 : decode cL_sets 82 = .ok (.ldc 18, 2) := by decide +kernel
theorem dL_sets_84 : decode cL_sets 84 = .ok (.if_icmp .ne 7, 3) := by decide +kernel
theorem dL_sets_87 : decode cL_sets 87 = .ok (.iconst 1, 1) := by decide +kernel
theorem dL_sets_88 : decode cL_sets 88 = .ok (.goto 4, 3) := by decide +kernel
theorem dL_sets_91 : decode cL_sets 91 = .ok (.iconst 0, 1) := by decide +kernel
theorem dL_sets_92 : decode cL_sets 92 = .ok (.ireturn, 1) := by decide +kernel
theorem dL_sets_93 : decode cL_sets 93 = .ok (.iload 4, 2) := by decide +kernel
theorem dL_sets_95 : decode cL_sets 95 = .ok (.iconst 3, 1) := by decide +kernel
theorem dL_sets_96 : decode cL_sets 96 = .ok (.if_icmp .ne 115, 3) := by decide +kernel
theorem dL_sets_99 : decode cL_sets 99 = .ok (.iload_n 2, 1) := by decide +kernel
theorem dL_sets_100 : decode cL_sets 100 = .ok (.iconst 3, 1) := by decide +kernel
theorem dL_sets_101 : decode cL_sets 101 = .ok (.ishr, 1) := by decide +kernel
theorem dL_sets_102 : decode cL_sets 102 = .ok (.iconst 3, 1) := by decide +kernel
theorem dL_sets_103 : decode cL_sets 103 = .ok (.invokestatic 100, 3) := by decide +kernel
theorem dL_sets_106 : decode cL_sets 106 = .ok (.istore 5, 2) := by decide +kernel
theorem dL_sets_108 : decode cL_sets 108 = .ok (.aload_n 0, 1) := by decide +kernel
theorem dL_sets_109 : decode cL_sets 109 = .ok (.iload_n 3, 1) := by decide +kernel
theorem dL_sets_110 : decode cL_sets 110 = .ok (.bipush 8, 2) := by decide +kernel
theorem dL_sets_112 : decode cL_sets 112 = .ok (.invokestatic 100, 3) := by decide +kernel
theorem dL_sets_115 : decode cL_sets 115 = .ok (.iconst 1, 1) := by decide +kernel
theorem dL_sets_116 : decode cL_sets 116 = .ok (.isub, 1) := by decide +kernel
theorem dL_sets_117 : decode cL_sets 117 = .ok (.iload_n 3, 1) := by decide +kernel
theorem dL_sets_118 : decode cL_sets 118 = .ok (.bipush 8, 2) := by decide +kernel
theorem dL_sets_120 : decode cL_sets 120 = .ok (.invokestatic 100, 3) := by decide +kernel
theorem dL_sets_123 : decode cL_sets 123 = .ok (.ifCond .ne 16, 3) := by decide +kernel
theorem dL_sets_126 : decode cL_sets 126 = .ok (.iload_n 3, 1) := by decide +kernel
theorem dL_sets_127 : decode cL_sets 127 = .ok (.iconst 3, 1) := by decide +kernel
theorem dL_sets_128 : decode cL_sets 128 = .ok (.ishr, 1) := by decide +kernel
theorem dL_sets_129 : decode cL_sets 129 = .ok (.bipush 7, 2) := by decide +kernel
theorem dL_sets_131 : decode cL_sets 131 = .ok (.invokestatic 100, 3) := by decide +kernel
theorem dL_sets_134 : decode cL_sets 134 = .ok (.iconst 1, 1) := by decide +kernel
theorem dL_sets_135 : decode cL_sets 135 = .ok (.isub, 1) := by decide +kernel
theorem dL_sets_136 : decode cL_sets 136 = .ok (.goto 11, 3) := by decide +kernel
theorem dL_sets_139 : decode cL_sets 139 = .ok (.iload_n 3, 1) := by decide +kernel
theorem dL_sets_140 : decode cL_sets 140 = .ok (.iconst 3, 1) := by decide +kernel
theorem dL_sets_141 : decode cL_sets 141 = .ok (.ishr, 1) := by decide +kernel
theorem dL_sets_142 : decode cL_sets 142 = .ok (.bipush 6, 2) := by decide +kernel
theorem dL_sets_144 : decode cL_sets 144 = .ok (.invokestatic 100, 3) := by decide +kernel
theorem dL_sets_147 : decode cL_sets 147 = .ok (.iload 5, 2) := by decide +kernel
theorem dL_sets_149 : decode cL_sets 149 = .ok (.iload 5, 2) := by decide +kernel
theorem dL_sets_151 : decode cL_sets 151 = .ok (.ifCond .ne 17, 3) := by decide +kernel
theorem dL_sets_154 : decode cL_sets 154 = .ok (.iconst 1, 1) := by decide +kernel
theorem dL_sets_155 : decode cL_sets 155 = .ok (.iload_n 3, 1) := by decide +kernel
theorem dL_sets_156 : decode cL_sets 156 = .ok (.bipush 6, 2) := by decide +kernel
theorem dL_sets_158 : decode cL_sets 158 = .ok (.ishr, 1) := by decide +kernel
theorem dL_sets_159 : decode cL_sets 159 = .ok (.bipush 30, 2) := by decide +kernel
theorem dL_sets_161 : decode cL_sets 161 = .ok (.invokestatic 100, 3) := by decide +kernel
theorem dL_sets_164 : decode cL_sets 164 = .ok (.iadd, 1) := by decide +kernel
theorem dL_sets_165 : decode cL_sets 165 = .ok (.goto 22, 3) := by decide +kernel
theorem dL_sets_168 : decode cL_sets 168 = .ok (.iload_n 3, 1) := by decide +kernel
theorem dL_sets_169 : decode cL_sets 169 = .ok (.bipush 6, 2) := by decide +kernel
theorem dL_sets_171 : decode cL_sets 171 = .ok (.ishr, 1) := by decide +kernel
theorem dL_sets_172 : decode cL_sets 172 = .ok (.iload 5, 2) := by decide +kernel
theorem dL_sets_174 : decode cL_sets 174 = .ok (.iconst 1, 1) := by decide +kernel
theorem dL_sets_175 : decode cL_sets 175 = .ok (.if_icmp .ne 7, 3) := by decide +kernel
theorem dL_sets_178 : decode cL_sets 178 = .ok (.iconst 4, 1) := by decide +kernel
theorem dL_sets_179 : decode cL_sets 179 = .ok (.goto 5, 3) := by decide +kernel
theorem dL_sets_182 : decode cL_sets 182 = .ok (.bipush 8, 2) := by decide +kernel
theorem dL_sets_184 : decode cL_sets 184 = .ok (.invokestatic 100, 3) := by decide +kernel
theorem dL_sets_187 : decode cL_sets 187 = .ok (.invokestatic 117, 3) := by decide +kernel
theorem dL_sets_190 : decode cL_sets 190 = .ok (.istore 6, 2) := by decide +kernel
theorem dL_sets_192 : decode cL_sets 192 = .ok (.iload 6, 2) := by decide +kernel
theorem dL_sets_194 : decode cL_sets 194 = .ok (.iconst (-1), 1) := by decide +kernel
theorem dL_sets_195 : decode cL_sets 195 = .ok (.if_icmp .lt 14, 3) := by decide +kernel
theorem dL_sets_198 : decode cL_sets 198 = .ok (.iload 6, 2) := by decide +kernel
theorem dL_sets_200 : decode cL_sets 200 = .ok (.bipush 100, 2) := by decide +kernel
theorem dL_sets_202 : decode cL_sets 202 = .ok (.if_icmp .gt 7, 3) := by decide +kernel
theorem dL_sets_205 : decode cL_sets 205 = .ok (.iconst 1, 1) := by decide +kernel
theorem dL_sets_206 : decode cL_sets 206 = .ok (.goto 4, 3) := by decide +kernel
theorem dL_sets_209 : decode cL_sets 209 = .ok (.iconst 0, 1) := by decide +kernel
theorem dL_sets_210 : decode cL_sets 210 = .ok (.ireturn, 1) := by decide +kernel
theorem dL_sets_211 : decode cL_sets 211 = .ok (.iload 4, 2) := by decide +kernel
theorem dL_sets_213 : decode cL_sets 213 = .ok (.iconst 4, 1) := by decide +kernel
theorem dL_sets_214 : decode cL_sets 214 = .ok (.if_icmp .ne 29, 3) := by decide +kernel
theorem dL_sets_217 : decode cL_sets 217 = .ok (.aload_n 0, 1) := by decide +kernel
theorem dL_sets_218 : decode cL_sets 218 = .ok (.iload_n 2, 1) := by decide +kernel
theorem dL_sets_219 : decode cL_sets 219 = .ok (.iconst 3, 1) := by decide +kernel
theorem dL_sets_220 : decode cL_sets 220 = .ok (.ishr, 1) := by decide +kernel
theorem dL_sets_221 : decode cL_sets 221 = .ok (.bipush 6, 2) := by decide +kernel
theorem dL_sets_223 : decode cL_sets 223 = .ok (.invokestatic 100, 3) := by decide +kernel
theorem dL_sets_226 : decode cL_sets 226 = .ok (.iload_n 3, 1) := by decide +kernel
theorem dL_sets_227 : decode cL_sets 227 = .ok (.iconst 5, 1) := by decide +kernel
theorem dL_sets_228 : decode cL_sets 228 = .ok (.invokestatic 100, 3) := by decide +kernel
theorem dL_sets_231 : decode cL_sets 231 = .ok (.invokestatic 120, 3) := by decide +kernel
theorem dL_sets_234 : decode cL_sets 234 = .ok (.ifCond .lt 7, 3) := by decide +kernel
theorem dL_sets_237 : decode cL_sets 237 = .ok (.iconst 1, 1) := by decide +kernel
theorem dL_sets_238 : decode cL_sets 238 = .ok (.goto 4, 3) := by decide +kernel
theorem dL_sets_241 : decode cL_sets 241 = .ok (.iconst 0, 1) := by decide +kernel
theorem dL_sets_242 : decode cL_sets 242 = .ok (.ireturn, 1) := by decide +kernel
theorem dL_sets_243 : decode cL_sets 243 = .ok (.iload 4, 2) := by decide +kernel
theorem dL_sets_245 : decode cL_sets 245 = .ok (.iconst 5, 1) := by decide +kernel
theorem dL_sets_246 : decode cL_sets 246 = .ok (.if_icmp .ne 37, 3) := by decide +kernel
theorem dL_sets_249 : decode cL_sets 249 = .ok (.iload_n 3, 1) := by decide +kernel
theorem dL_sets_250 : decode cL_sets 250 = .ok (.bipush 101, 2) := by decide +kernel
theorem dL_sets_252 : decode cL_sets 252 = .ok (.invokestatic 100, 3) := by decide +kernel
theorem dL_sets_255 : decode cL_sets 255 = .ok (.istore 5, 2) := by decide +kernel
theorem dL_sets_257 : decode cL_sets 257 = .ok (.aload_n 0, 1) := by decide +kernel
theorem dL_sets_258 : decode cL_sets 258 = .ok (.iconst 5, 1) := by decide +kernel
theorem dL_sets_259 : decode cL_sets 259 = .ok (.iload 5, 2) := by decide +kernel
theorem dL_sets_261 : decode cL_sets 261 = .ok (.invokestatic 123, 3) := by decide +kernel
theorem dL_sets_264 : decode cL_sets 264 = .ok (.ifCond .lt 17, 3) := by decide +kernel
theorem dL_sets_267 : decode cL_sets 267 = .ok (.aload_n 0, 1) := by decide +kernel
theorem dL_sets_268 : decode cL_sets 268 = .ok (.iconst 5, 1) := by decide +kernel
theorem dL_sets_269 : decode cL_sets 269 = .ok (.invokestatic 125, 3) := by decide +kernel
theorem dL_sets_272 : decode cL_sets 272 = .ok (.iload 5, 2) := by decide +kernel
theorem dL_sets_274 : decode cL_sets 274 = .ok (.if_icmp .ne 7, 3) := by decide +kernel
theorem dL_sets_277 : decode cL_sets 277 = .ok (.iconst 1, 1) := by decide +kernel
theorem dL_sets_278 : decode cL_sets 278 = .ok (.goto 4, 3) := by decide +kernel
theorem dL_sets_281 : decode cL_sets 281 = .ok (.iconst 0, 1) := by decide +kernel
theorem dL_sets_282 : decode cL_sets 282 = .ok (.ireturn, 1) := by decide +kernel
theorem dL_sets_283 : decode cL_sets 283 = .ok (.iload 4, 2) := by decide +kernel
theorem dL_sets_285 : decode cL_sets 285 = .ok (.bipush 6, 2) := by decide +kernel
theorem dL_sets_287 : decode cL_sets 287 = .ok (.if_icmp .ne 25, 3) := by decide +kernel
theorem dL_sets_290 : decode cL_sets 290 = .ok (.aload_n 0, 1) := by decide +kernel
theorem dL_sets_291 : decode cL_sets 291 = .ok (.iconst 1, 1) := by decide +kernel
theorem dL_sets_292 : decode cL_sets 292 = .ok (.iload_n 3, 1) := by decide +kernel
theorem dL_sets_293 : decode cL_sets 293 = .ok (.iconst 4, 1) := by decide +kernel
theorem dL_sets_294 : decode cL_sets 294 = .ok (.invokestatic 100, 3) := by decide +kernel
theorem dL_sets_297 : decode cL_sets 297 = .ok (.iadd, 1) := by decide +kernel
theorem dL_sets_298 : decode cL_sets 298 = .ok (.invokestatic 128, 3) := by decide +kernel
theorem dL_sets_301 : decode cL_sets 301 = .ok (.ifCond .le 7, 3) := by decide +kernel
theorem dL_sets_304 : decode cL_sets 304 = .ok (.iconst 1, 1) := by decide +kernel
theorem dL_sets_305 : decode cL_sets 305 = .ok (.goto 33, 3) := by decide +kernel
theorem dL_sets_308 : decode cL_sets 308 = .ok (.iconst 0, 1) := by decide +kernel
theorem dL_sets_309 : decode cL_sets 309 = .ok (.goto 29, 3) := by decide +kernel
theorem dL_sets_312 : decode cL_sets 312 = .ok (.aload_n 0, 1) := by decide +kernel
theorem dL_sets_313 : decode cL_sets 313 = .ok (.iload_n 2, 1) := by decide +kernel
theorem dL_sets_314 : decode cL_sets 314 = .ok (.iconst 3, 1) := by decide +kernel
theorem dL_sets_315 : decode cL_sets 315 = .ok (.ishr, 1) := by decide +kernel
theorem dL_sets_316 : decode cL_sets 316 = .ok (.bipush 7, 2) := by decide +kernel
theorem dL_sets_318 : decode cL_sets 318 = .ok (.invokestatic 100, 3) := by decide +kernel
theorem dL_sets_321 : decode cL_sets 321 = .ok (.iload_n 3, 1) := by decide +kernel
theorem dL_sets_322 : decode cL_sets 322 = .ok (.bipush 60, 2) := by decide +kernel
theorem dL_sets_324 : decode cL_sets 324 = .ok (.invokestatic 100, 3) := by decide +kernel
theorem dL_sets_327 : decode cL_sets 327 = .ok (.invokestatic 130, 3) := by decide +kernel
theorem dL_sets_330 : decode cL_sets 330 = .ok (.ifCond .lt 7, 3) := by decide +kernel
theorem dL_sets_333 : decode cL_sets 333 = .ok (.iconst 1, 1) := by decide +kernel
theorem dL_sets_334 : decode cL_sets 334 = .ok (.goto 4, 3) := by decide +kernel
theorem dL_sets_337 : decode cL_sets 337 = .ok (.iconst 0, 1) := by decide +kernel
theorem dL_sets_338 : decode cL_sets 338 = .ok (.ireturn, 1) := by decide +kernel
theorem dL_areCalls_0 : decode cL_areCalls 0 = .ok (.aload_n 0, 1) := by decide +kernel
theorem dL_areCalls_1 : decode cL_areCalls 1 = .ok (.invokevirtual 132, 3) := by decide +kernel
theorem dL_areCalls_4 : decode cL_areCalls 4 = .ok (.aload_n 1, 1) := by decide +kernel
theorem dL_areCalls_5 : decode cL_areCalls 5 = .ok (.iconst 3, 1) := by decide +kernel
theorem dL_areCalls_6 : decode cL_areCalls 6 = .ok (.iaload, 1) := by decide +kernel
theorem dL_areCalls_7 : decode cL_areCalls 7 = .ok (.if_icmp .lt 31, 3) := by decide +kernel
theorem dL_areCalls_10 : decode cL_areCalls 10 = .ok (.aload_n 0, 1) := by decide +kernel
theorem dL_areCalls_11 : decode cL_areCalls 11 = .ok (.invokevirtual 132, 3) := by decide +kernel
theorem dL_areCalls_14 : decode cL_areCalls 14 = .ok (.sipush 400, 3) := by decide +kernel
theorem dL_areCalls_17 : decode cL_areCalls 17 = .ok (.if_icmp .gt 21, 3) := by decide +kernel
theorem dL_areCalls_20 : decode cL_areCalls 20 = .ok (.aload_n 0, 1) := by decide +kernel
theorem dL_areCalls_21 : decode cL_areCalls 21 = .ok (.aload_n 0, 1) := by decide +kernel
theorem dL_areCalls_22 : decode cL_areCalls 22 = .ok (.invokevirtual 132, 3) := by decide +kernel
theorem dL_areCalls_25 : decode cL_areCalls 25 = .ok (.iconst 0, 1) := by decide +kernel
theorem dL_areCalls_26 : decode cL_areCalls 26 = .ok (.invokestatic 136, 3) := by decide +kernel
theorem dL_areCalls_29 : decode cL_areCalls 29 = .ok (.ldc 18, 2) := by decide +kernel
theorem dL_areCalls_31 : decode cL_areCalls 31 = .ok (.if_icmp .ne 7, 3) := by decide +kernel
theorem dL_areCalls_34 : decode cL_areCalls 34 = .ok (.iconst 1, 1) := by decide +kernel
theorem dL_areCalls_35 : decode cL_areCalls 35 = .ok (.goto 4, 3) := by decide +kernel
theorem dL_areCalls_38 : decode cL_areCalls 38 = .ok (.iconst 0, 1) := by decide +kernel
theorem dL_areCalls_39 : decode cL_areCalls 39 = .ok (.istore 5, 2) := by decide +kernel
theorem dL_areCalls_41 : decode cL_areCalls 41 = .ok (.aload_n 0, 1) := by decide +kernel
theorem dL_areCalls_42 : decode cL_areCalls 42 = .ok (.invokevirtual 132, 3) := by decide +kernel
theorem dL_areCalls_45 : decode cL_areCalls 45 = .ok (.bipush 60, 2) := by decide +kernel
theorem dL_areCalls_47 : decode cL_areCalls 47 = .ok (.if_icmp .ge 10, 3) := by decide +kernel
theorem dL_areCalls_50 : decode cL_areCalls 50 = .ok (.aload_n 0, 1) := by decide +kernel
theorem dL_areCalls_51 : decode cL_areCalls 51 = .ok (.invokevirtual 132, 3) := by decide +kernel
theorem dL_areCalls_54 : decode cL_areCalls 54 = .ok (.goto 5, 3) := by decide +kernel
theorem dL_areCalls_57 : decode cL_areCalls 57 = .ok (.bipush 60, 2) := by decide +kernel
theorem dL_areCalls_59 : decode cL_areCalls 59 = .ok (.istore 6, 2) := by decide +kernel
theorem dL_areCalls_61 : decode cL_areCalls 61 = .ok (.iconst 0, 1) := by decide +kernel
theorem dL_areCalls_62 : decode cL_areCalls 62 = .ok (.istore 7, 2) := by decide +kernel
theorem dL_areCalls_64 : decode cL_areCalls 64 = .ok (.iload 7, 2) := by decide +kernel
theorem dL_areCalls_66 : decode cL_areCalls 66 = .ok (.iload 6, 2) := by decide +kernel
theorem dL_areCalls_68 : decode cL_areCalls 68 = .ok (.if_icmp .ge 293, 3) := by decide +kernel
theorem dL_areCalls_71 : decode cL_areCalls 71 = .ok (.iload 5, 2) := by decide +kernel
theorem dL_areCalls_73 : decode cL_areCalls 73 = .ok (.ifCond .eq 288, 3) := by decide +kernel
theorem dL_areCalls_76 : decode cL_areCalls 76 = .ok (.aload_n 0, 1) := by decide +kernel
theorem dL_areCalls_77 : decode cL_areCalls 77 = .ok (.iload 7, 2) := by decide +kernel
theorem dL_areCalls_79 : decode cL_areCalls 79 = .ok (.iconst 2, 1) := by decide +kernel
theorem dL_areCalls_80 : decode cL_areCalls 80 = .ok (.invokestatic 136, 3) := by decide +kernel
theorem dL_areCalls_83 : decode cL_areCalls 83 = .ok (.istore 8, 2) := by decide +kernel
theorem dL_areCalls_85 : decode cL_areCalls 85 = .ok (.aload_n 0, 1) := by decide +kernel
theorem dL_areCalls_86 : decode cL_areCalls 86 = .ok (.iload 7, 2) := by decide +kernel
theorem dL_areCalls_88 : decode cL_areCalls 88 = .ok (.iconst 4, 1) := by decide +kernel
theorem dL_areCalls_89 : decode cL_areCalls 89 = .ok (.invokestatic 136, 3) := by decide +kernel
theorem dL_areCalls_92 : decode cL_areCalls 92 = .ok (.istore 9, 2) := by decide +kernel
theorem dL_areCalls_94 : decode cL_areCalls 94 = .ok (.aload_n 0, 1) := by decide +kernel
theorem dL_areCalls_95 : decode cL_areCalls 95 = .ok (.iload 7, 2) := by decide +kernel
theorem dL_areCalls_97 : decode cL_areCalls 97 = .ok (.iconst 5, 1) := by decide +kernel
theorem dL_areCalls_98 : decode cL_areCalls 98 = .ok (.invokestatic 136, 3) := by decide +kernel
theorem dL_areCalls_101 : decode cL_areCalls 101 = .ok (.istore 10, 2) := by decide +kernel
theorem dL_areCalls_103 : decode cL_areCalls 103 = .ok (.aload_n 0, 1) := by decide +kernel
theorem dL_areCalls_104 : decode cL_areCalls 104 = .ok (.iload 7, 2) := by decide +kernel
theorem dL_areCalls_106 : decode cL_areCalls 106 = .ok (.iconst 3, 1) := by decide +kernel
theorem dL_areCalls_107 : decode cL_areCalls 107 = .ok (.invokestatic 136, 3) := by decide +kernel
theorem dL_areCalls_110 : decode cL_areCalls 110 = .ok (.istore 11, 2) := by decide +kernel
theorem dL_areCalls_112 : decode cL_areCalls 112 = .ok (.aload_n 0, 1) := by decide +kernel
theorem dL_areCalls_113 : decode cL_areCalls 113 = .ok (.iload 7, 2) := by decide +kernel
theorem dL_areCalls_115 : decode cL_areCalls 115 = .ok (.iconst 1, 1) := by decide +kernel
theorem dL_areCalls_116 : decode cL_areCalls 116 = .ok (.invokestatic 136, 3) := by decide +kernel
theorem dL_areCalls_119 : decode cL_areCalls 119 = .ok (.istore 12, 2) := by decide +kernel
theorem dL_areCalls_121 : decode cL_areCalls 121 = .ok (.iload 8, 2) := by decide +kernel
theorem dL_areCalls_123 : decode cL_areCalls 123 = .ok (.ifCond .lt 214, 3) := by decide +kernel
theorem dL_areCalls_126 : decode cL_areCalls 126 = .ok (.iload 8, 2) := by decide +kernel
theorem dL_areCalls_128 : decode cL_areCalls 128 = .ok (.bipush 8, 2) := by decide +kernel
theorem dL_areCalls_130 : decode cL_areCalls 130 = .ok (.if_icmp .ge 207, 3) := by decide +kernel
theorem dL_areCalls_133 : decode cL_areCalls 133 = .ok (.aload_n 3, 1) := by decide +kernel
theorem dL_areCalls_134 : decode cL_areCalls 134 = .ok (.iload 7, 2) := by decide +kernel
theorem dL_areCalls_136 : decode cL_areCalls 136 = .ok (.iaload, 1) := by decide +kernel
theorem dL_areCalls_137 : decode cL_areCalls 137 = .ok (.iconst 4, 1) := by decide +kernel
theorem dL_areCalls_138 : decode cL_areCalls 138 = .ok (.if_icmp .lt 14, 3) := by decide +kernel
theorem dL_areCalls_141 : decode cL_areCalls 141 = .ok (.iload 8, 2) := by decide +kernel
theorem dL_areCalls_143 : decode cL_areCalls 143 = .ok (.aload_n 3, 1) := by decide +kernel
theorem dL_areCalls_144 : decode cL_areCalls 144 = .ok (.iload 7, 2) := by decide +kernel
theorem dL_areCalls_146 : decode cL_areCalls 146 = .ok (.iaload, 1) := by decide +kernel
theorem dL_areCalls_147 : decode cL_areCalls 147 = .ok (.iconst 1, 1) := by decide +kernel
theorem dL_areCalls_148 : decode cL_areCalls 148 = .ok (.isub, 1) := by decide +kernel
theorem dL_areCalls_149 : decode cL_areCalls 149 = .ok (.if_icmp .ne 188, 3) := by decide +kernel
theorem dL_areCalls_152 : decode cL_areCalls 152 = .ok (.iload 9, 2) := by decide +kernel
theorem dL_areCalls_154 : decode cL_areCalls 154 = .ok (.iload 7, 2) := by decide +kernel
theorem dL_areCalls_156 : decode cL_areCalls 156 = .ok (.if_icmp .ge 181, 3) := by decide +kernel
theorem dL_areCalls_159 : decode cL_areCalls 159 = .ok (.iload 10, 2) := by decide +kernel
theorem dL_areCalls_161 : decode cL_areCalls 161 = .ok (.aload_n 1, 1) := by decide +kernel
theorem dL_areCalls_162 : decode cL_areCalls 162 = .ok (.iconst 1, 1) := by decide +kernel
theorem dL_areCalls_163 : decode cL_areCalls 163 = .ok (.iaload, 1) := by decide +kernel
theorem dL_areCalls_164 : decode cL_areCalls 164 = .ok (.if_icmp .ge 173, 3) := by decide +kernel
theorem dL_areCalls_167 : decode cL_areCalls 167 = .ok (.iload 9, 2) := by decide +kernel
theorem dL_areCalls_169 : decode cL_areCalls 169 = .ok (.ifCond .lt 44, 3) := by decide +kernel
theorem dL_areCalls_172 : decode cL_areCalls 172 = .ok (.iload 11, 2) := by decide +kernel
theorem dL_areCalls_174 : decode cL_areCalls 174 = .ok (.aload_n 0, 1) := by decide +kernel
theorem dL_areCalls_175 : decode cL_areCalls 175 = .ok (.iload 9, 2) := by decide +kernel
theorem dL_areCalls_177 : decode cL_areCalls 177 = .ok (.iconst 3, 1) := by decide +kernel
theorem dL_areCalls_178 : decode cL_areCalls 178 = .ok (.invokestatic 136, 3) := by decide +kernel
theorem dL_areCalls_181 : decode cL_areCalls 181 = .ok (.if_icmp .gt 156, 3) := by decide +kernel
theorem dL_areCalls_184 : decode cL_areCalls 184 = .ok (.aload_n 0, 1) := by decide +kernel
theorem dL_areCalls_185 : decode cL_areCalls 185 = .ok (.iload 9, 2) := by decide +kernel
theorem dL_areCalls_187 : decode cL_areCalls 187 = .ok (.iconst 5, 1) := by decide +kernel
theorem dL_areCalls_188 : decode cL_areCalls 188 = .ok (.invokestatic 136, 3) := by decide +kernel
theorem dL_areCalls_191 : decode cL_areCalls 191 = .ok (.iload 10, 2) := by decide +kernel
theorem dL_areCalls_193 : decode cL_areCalls 193 = .ok (.if_icmp .ne 144, 3) := by decide +kernel
theorem dL_areCalls_196 : decode cL_areCalls 196 = .ok (.aload_n 0, 1) := by decide +kernel
theorem dL_areCalls_197 : decode cL_areCalls 197 = .ok (.iload 7, 2) := by decide +kernel
theorem dL_areCalls_199 : decode cL_areCalls 199 = .ok (.iconst 0, 1) := by decide +kernel
theorem dL_areCalls_200 : decode cL_areCalls 200 = .ok (.invokestatic 136, 3) := by decide +kernel
theorem dL_areCalls_203 : decode cL_areCalls 203 = .ok (.aload_n 0, 1) := by decide +kernel
theorem dL_areCalls_204 : decode cL_areCalls 204 = .ok (.iload 9, 2) := by decide +kernel
theorem dL_areCalls_206 : decode cL_areCalls 206 = .ok (.iconst 0, 1) := by decide +kernel
theorem dL_areCalls_207 : decode cL_areCalls 207 = .ok (.invokestatic 136, 3) := by decide +kernel
theorem dL_areCalls_210 : decode cL_areCalls 210 = .ok (.if_icmp .le 127, 3) := by decide +kernel
theorem dL_areCalls_213 : decode cL_areCalls 213 = .ok (.iload 12, 2) := by decide +kernel
theorem dL_areCalls_215 : decode cL_areCalls 215 = .ok (.ifCond .lt 122, 3) := by decide +kernel
theorem dL_areCalls_218 : decode cL_areCalls 218 = .ok (.iload 12, 2) := by decide +kernel
theorem dL_areCalls_220 : decode cL_areCalls 220 = .ok (.aload_n 1, 1) := by decide +kernel
theorem dL_areCalls_221 : decode cL_areCalls 221 = .ok (.iconst 0, 1) := by decide +kernel
theorem dL_areCalls_222 : decode cL_areCalls 222 = .ok (.iaload, 1) := by decide +kernel
theorem dL_areCalls_223 : decode cL_areCalls 223 = .ok (.if_icmp .ge 114, 3) := by decide +kernel
theorem dL_areCalls_226 : decode cL_areCalls 226 = .ok (.aload_n 2, 1) := by decide +kernel
theorem dL_areCalls_227 : decode cL_areCalls 227 = .ok (.iload 12, 2) := by decide +kernel
theorem dL_areCalls_229 : decode cL_areCalls 229 = .ok (.iaload, 1) := by decide +kernel
theorem dL_areCalls_230 : decode cL_areCalls 230 = .ok (.aload_n 0, 1) := by decide +kernel
theorem dL_areCalls_231 : decode cL_areCalls 231 = .ok (.iload 7, 2) := by decide +kernel
theorem dL_areCalls_233 : decode cL_areCalls 233 = .ok (.iconst 0, 1) := by decide +kernel
theorem dL_areCalls_234 : decode cL_areCalls 234 = .ok (.invokestatic 136, 3) := by decide +kernel
theorem dL_areCalls_237 : decode cL_areCalls 237 = .ok (.if_icmp .ne 100, 3) := by decide +kernel
theorem dL_areCalls_240 : decode cL_areCalls 240 = .ok (.aload 4, 2) := by decide +kernel
theorem dL_areCalls_242 : decode cL_areCalls 242 = .ok (.iload 7, 2) := by decide +kernel
theorem dL_areCalls_244 : decode cL_areCalls 244 = .ok (.iaload, 1) := by decide +kernel
theorem dL_areCalls_245 : decode cL_areCalls 245 = .ok (.ifCond .eq 13, 3) := by decide +kernel
theorem dL_areCalls_248 : decode cL_areCalls 248 = .ok (.iload 11, 2) := by decide +kernel
theorem dL_areCalls_250 : decode cL_areCalls 250 = .ok (.aload 4, 2) := by decide +kernel
theorem dL_areCalls_252 : decode cL_areCalls 252 = .ok (.iload 7, 2) := by decide +kernel
theorem dL_areCalls_254 : decode cL_areCalls 254 = .ok (.iaload, 1) := by decide +kernel
theorem dL_areCalls_255 : decode cL_areCalls 255 = .ok (.if_icmp .ne 82, 3) := by decide +kernel
theorem dL_areCalls_258 : decode cL_areCalls 258 = .ok (.iload 8, 2) := by decide +kernel
theorem dL_areCalls_260 : decode cL_areCalls 260 = .ok (.iconst 2, 1) := by decide +kernel
theorem dL_areCalls_261 : decode cL_areCalls 261 = .ok (.if_icmp .gt 11, 3) := by decide +kernel
theorem dL_areCalls_264 : decode cL_areCalls 264 = .ok (.iload 11, 2) := by decide +kernel
theorem dL_areCalls_266 : decode cL_areCalls 266 = .ok (.aload_n 1, 1) := by decide +kernel
theorem dL_areCalls_267 : decode cL_areCalls 267 = .ok (.iconst 2, 1) := by decide +kernel
theorem dL_areCalls_268 : decode cL_areCalls 268 = .ok (.iaload, 1) := by decide +kernel
theorem dL_areCalls_269 : decode cL_areCalls 269 = .ok (.if_icmp .le 68, 3) := by decide +kernel
theorem dL_areCalls_272 : decode cL_areCalls 272 = .ok (.iload 9, 2) := by decide +kernel
theorem dL_areCalls_274 : decode cL_areCalls 274 = .ok (.ifCond .lt 20, 3) := by decide +kernel
theorem dL_areCalls_277 : decode cL_areCalls 277 = .ok (.iload 8, 2) := by decide +kernel
theorem dL_areCalls_279 : decode cL_areCalls 279 = .ok (.iconst 2, 1) := by decide +kernel
theorem dL_areCalls_280 : decode cL_areCalls 280 = .ok (.if_icmp .gt 14, 3) := by decide +kernel
theorem dL_areCalls_283 : decode cL_areCalls 283 = .ok (.aload_n 0, 1) := by decide +kernel
theorem dL_areCalls_284 : decode cL_areCalls 284 = .ok (.iload 9, 2) := by decide +kernel
theorem dL_areCalls_286 : decode cL_areCalls 286 = .ok (.iconst 2, 1) := by decide +kernel
theorem dL_areCalls_287 : decode cL_areCalls 287 = .ok (.invokestatic 136, 3) := by decide +kernel
theorem dL_areCalls_290 : decode cL_areCalls 290 = .ok (.iconst 2, 1) := by decide +kernel
theorem dL_areCalls_291 : decode cL_areCalls 291 = .ok (.if_icmp .ne 46, 3) := by decide +kernel
theorem dL_areCalls_294 : decode cL_areCalls 294 = .ok (.aload_n 0, 1) := by decide +kernel
theorem dL_areCalls_295 : decode cL_areCalls 295 = .ok (.iload 7, 2) := by decide +kernel
theorem dL_areCalls_297 : decode cL_areCalls 297 = .ok (.bipush 7, 2) := by decide +kernel
theorem dL_areCalls_299 : decode cL_areCalls 299 = .ok (.invokestatic 136, 3) := by decide +kernel
theorem dL_areCalls_302 : decode cL_areCalls 302 = .ok (.aload_n 0, 1) := by decide +kernel
theorem dL_areCalls_303 : decode cL_areCalls 303 = .ok (.iconst 0, 1) := by decide +kernel
theorem dL_areCalls_304 : decode cL_areCalls 304 = .ok (.invokevirtual 138, 3) := by decide +kernel
theorem dL_areCalls_307 : decode cL_areCalls 307 = .ok (.if_icmp .ge 30, 3) := by decide +kernel
theorem dL_areCalls_310 : decode cL_areCalls 310 = .ok (.aload_n 0, 1) := by decide +kernel
theorem dL_areCalls_311 : decode cL_areCalls 311 = .ok (.iload 7, 2) := by decide +kernel
theorem dL_areCalls_313 : decode cL_areCalls 313 = .ok (.bipush 7, 2) := by decide +kernel
theorem dL_areCalls_315 : decode cL_areCalls 315 = .ok (.invokestatic 136, 3) := by decide +kernel
theorem dL_areCalls_318 : decode cL_areCalls 318 = .ok (.ifCond .lt 15, 3) := by decide +kernel
theorem dL_areCalls_321 : decode cL_areCalls 321 = .ok (.iload 9, 2) := by decide +kernel
theorem dL_areCalls_323 : decode cL_areCalls 323 = .ok (.iconst (-1), 1) := by decide +kernel
theorem dL_areCalls_324 : decode cL_areCalls 324 = .ok (.if_icmp .ne 13, 3) := by decide +kernel
theorem dL_areCalls_327 : decode cL_areCalls 327 = .ok (.iload 10, 2) := by decide +kernel
theorem dL_areCalls_329 : decode cL_areCalls 329 = .ok (.iconst (-1), 1) := by decide +kernel
theorem dL_areCalls_330 : decode cL_areCalls 330 = .ok (.if_icmp .ne 7, 3) := by decide +kernel
theorem dL_areCalls_333 : decode cL_areCalls 333 = .ok (.iconst 1, 1) := by decide +kernel
theorem dL_areCalls_334 : decode cL_areCalls 334 = .ok (.goto 4, 3) := by decide +kernel
theorem dL_areCalls_337 : decode cL_areCalls 337 = .ok (.iconst 0, 1) := by decide +kernel
theorem dL_areCalls_338 : decode cL_areCalls 338 = .ok (.istore 5, 2) := by decide +kernel
theorem dL_areCalls_340 : decode cL_areCalls 340 = .ok (.aload_n 3, 1) := by decide +kernel
theorem dL_areCalls_341 : decode cL_areCalls 341 = .ok (.iload 7, 2) := by decide +kernel
theorem dL_areCalls_343 : decode cL_areCalls 343 = .ok (.iload 8, 2) := by decide +kernel
theorem dL_areCalls_345 : decode cL_areCalls 345 = .ok (.iconst 1, 1) := by decide +kernel
theorem dL_areCalls_346 : decode cL_areCalls 346 = .ok (.iadd, 1) := by decide +kernel
theorem dL_areCalls_347 : decode cL_areCalls 347 = .ok (.iastore, 1) := by decide +kernel
theorem dL_areCalls_348 : decode cL_areCalls 348 = .ok (.aload 4, 2) := by decide +kernel
theorem dL_areCalls_350 : decode cL_areCalls 350 = .ok (.iload 7, 2) := by decide +kernel
theorem dL_areCalls_352 : decode cL_areCalls 352 = .ok (.iload 11, 2) := by decide +kernel
theorem dL_areCalls_354 : decode cL_areCalls 354 = .ok (.iastore, 1) := by decide +kernel
theorem dL_areCalls_355 : decode cL_areCalls 355 = .ok (.iinc 7 1, 3) := by decide +kernel
theorem dL_areCalls_358 : decode cL_areCalls 358 = .ok (.goto (-294), 3) := by decide +kernel
theorem dL_areCalls_361 : decode cL_areCalls 361 = .ok (.aload_n 1, 1) := by decide +kernel
theorem dL_areCalls_362 : decode cL_areCalls 362 = .ok (.iconst 3, 1) := by decide +kernel
theorem dL_areCalls_363 : decode cL_areCalls 363 = .ok (.aload_n 0, 1) := by decide +kernel
theorem dL_areCalls_364 : decode cL_areCalls 364 = .ok (.invokevirtual 132, 3) := by decide +kernel
theorem dL_areCalls_367 : decode cL_areCalls 367 = .ok (.iastore, 1) := by decide +kernel
theorem dL_areCalls_368 : decode cL_areCalls 368 = .ok (.iload 5, 2) := by decide +kernel
theorem dL_areCalls_370 : decode cL_areCalls 370 = .ok (.ireturn, 1) := by decide +kernel
theorem dL_areRequests_0 : decode cL_areRequests 0 = .ok (.aload_n 0, 1) := by decide +kernel
theorem dL_areRequests_1 : decode cL_areRequests 1 = .ok (.aload_n 1, 1) := by decide +kernel
theorem dL_areRequests_2 : decode cL_areRequests 2 = .ok (.iconst 1, 1) := by decide +kernel
theorem dL_areRequests_3 : decode cL_areRequests 3 = .ok (.iaload, 1) := by decide +kernel
theorem dL_areRequests_4 : decode cL_areRequests 4 = .ok (.invokestatic 142, 3) := by decide +kernel
theorem dL_areRequests_7 : decode cL_areRequests 7 = .ok (.ldc 18, 2) := by decide +kernel
theorem dL_areRequests_9 : decode cL_areRequests 9 = .ok (.if_icmp .ne 7, 3) := by decide +kernel
theorem dL_areRequests_12 : decode cL_areRequests 12 = .ok (.iconst 1, 1) := by decide +kernel
theorem dL_areRequests_13 : decode cL_areRequests 13 = .ok (.goto 4, 3) := by decide +kernel
theorem dL_areRequests_16 : decode cL_areRequests 16 = .ok (.iconst 0, 1) := by decide +kernel
theorem dL_areRequests_17 : decode cL_areRequests 17 = .ok (.istore_n 3, 1) := by decide +kernel
theorem dL_areRequests_18 : decode cL_areRequests 18 = .ok (.iconst 0, 1) := by decide +kernel
theorem dL_areRequests_19 : decode cL_areRequests 19 = .ok (.istore 4, 2) := by decide +kernel
theorem dL_areRequests_21 : decode cL_areRequests 21 = .ok (.iconst 0, 1) := by decide +kernel
theorem dL_areRequests_22 : decode cL_areRequests 22 = .ok (.istore 5, 2) := by decide +kernel
theorem dL_areRequests_24 : decode cL_areRequests 24 = .ok (.iload 5, 2) := by decide +kernel
theorem dL_areRequests_26 : decode cL_areRequests 26 = .ok (.aload_n 1, 1) := by decide +kernel
theorem dL_areRequests_27 : decode cL_areRequests 27 = .ok (.iconst 1, 1) := by decide +kernel
theorem dL_areRequests_28 : decode cL_areRequests 28 = .ok (.iaload, 1) := by decide +kernel
theorem dL_areRequests_29 : decode cL_areRequests 29 = .ok (.if_icmp .ge 158, 3) := by decide +kernel
theorem dL_areRequests_32 : decode cL_areRequests 32 = .ok (.iload_n 3, 1) := by decide +kernel
theorem dL_areRequests_33 : decode cL_areRequests 33 = .ok (.ifCond .eq 154, 3) := by decide +kernel
theorem dL_areRequests_36 : decode cL_areRequests 36 = .ok (.aload_n 0, 1) := by decide +kernel
theorem dL_areRequests_37 : decode cL_areRequests 37 = .ok (.iload 5, 2) := by decide +kernel
theorem dL_areRequests_39 : decode cL_areRequests 39 = .ok (.invokestatic 142, 3) := by decide +kernel
theorem dL_areRequests_42 : decode cL_areRequests 42 = .ok (.istore 6, 2) := by decide +kernel
theorem dL_areRequests_44 : decode cL_areRequests 44 = .ok (.aload_n 0, 1) := by decide +kernel
theorem dL_areRequests_45 : decode cL_areRequests 45 = .ok (.iload 5, 2) := by decide +kernel
theorem dL_areRequests_47 : decode cL_areRequests 47 = .ok (.invokestatic 144, 3) := by decide +kernel
theorem dL_areRequests_50 : decode cL_areRequests 50 = .ok (.istore 7, 2) := by decide +kernel
theorem dL_areRequests_52 : decode cL_areRequests 52 = .ok (.iload 4, 2) := by decide +kernel
theorem dL_areRequests_54 : decode cL_areRequests 54 = .ok (.iload 7, 2) := by decide +kernel
theorem dL_areRequests_56 : decode cL_areRequests 56 = .ok (.iadd, 1) := by decide +kernel
theorem dL_areRequests_57 : decode cL_areRequests 57 = .ok (.istore 4, 2) := by decide +kernel
theorem dL_areRequests_59 : decode cL_areRequests 59 = .ok (.iload 6, 2) := by decide +kernel
theorem dL_areRequests_61 : decode cL_areRequests 61 = .ok (.iconst 3, 1) := by decide +kernel
theorem dL_areRequests_62 : decode cL_areRequests 62 = .ok (.if_icmp .eq 22, 3) := by decide +kernel
theorem dL_areRequests_65 : decode cL_areRequests 65 = .ok (.iload 6, 2) := by decide +kernel
theorem dL_areRequests_67 : decode cL_areRequests 67 = .ok (.iconst 4, 1) := by decide +kernel
theorem dL_areRequests_68 : decode cL_areRequests 68 = .ok (.if_icmp .eq 16, 3) := by decide +kernel
theorem dL_areRequests_71 : decode cL_areRequests 71 = .ok (.iload 6, 2) := by decide +kernel
theorem dL_areRequests_73 : decode cL_areRequests 73 = .ok (.iconst 5, 1) := by decide +kernel
theorem dL_areRequests_74 : decode cL_areRequests 74 = .ok (.if_icmp .eq 10, 3) := by decide +kernel
theorem dL_areRequests_77 : decode cL_areRequests 77 = .ok (.iload 6, 2) := by decide +kernel
theorem dL_areRequests_79 : decode cL_areRequests 79 = .ok (.bipush 8, 2) := by decide +kernel
theorem dL_areRequests_81 : decode cL_areRequests 81 = .ok (.if_icmp .ne 92, 3) := by decide +kernel
theorem dL_areRequests_84 : decode cL_areRequests 84 = .ok (.aload_n 2, 1) := by decide +kernel
theorem dL_areRequests_85 : decode cL_areRequests 85 = .ok (.iload 5, 2) := by decide +kernel
theorem dL_areRequests_87 : decode cL_areRequests 87 = .ok (.iaload, 1) := by decide +kernel
theorem dL_areRequests_88 : decode cL_areRequests 88 = .ok (.ifCond .eq 21, 3) := by decide +kernel
theorem dL_areRequests_91 : decode cL_areRequests 91 = .ok (.aload_n 2, 1) := by decide +kernel
theorem dL_areRequests_92 : decode cL_areRequests 92 = .ok (.iload 5, 2) := by decide +kernel
theorem dL_areRequests_94 : decode cL_areRequests 94 = .ok (.iaload, 1) := by decide +kernel
theorem dL_areRequests_95 : decode cL_areRequests 95 = .ok (.bipush 8, 2) := by decide +kernel
theorem dL_areRequests_97 : decode cL_areRequests 97 = .ok (.if_icmp .eq 12, 3) := by decide +kernel
theorem dL_areRequests_100 : decode cL_areRequests 100 = .ok (.iload 6, 2) := by decide +kernel
theorem dL_areRequests_102 : decode cL_areRequests 102 = .ok (.aload_n 2, 1) := by decide +kernel
theorem dL_areRequests_103 : decode cL_areRequests 103 = .ok (.iload 5, 2) := by decide +kernel
theorem dL_areRequests_105 : decode cL_areRequests 105 = .ok (.iaload, 1) := by decide +kernel
theorem dL_areRequests_106 : decode cL_areRequests 106 = .ok (.if_icmp .ne 67, 3) := by decide +kernel
theorem dL_areRequests_109 : decode cL_areRequests 109 = .ok (.aload_n 0, 1) := by decide +kernel
theorem dL_areRequests_110 : decode cL_areRequests 110 = .ok (.iload 5, 2) := by decide +kernel
theorem dL_areRequests_112 : decode cL_areRequests 112 = .ok (.invokestatic 146, 3) := by decide +kernel
theorem dL_areRequests_115 : decode cL_areRequests 115 = .ok (.ifCond .lt 58, 3) := by decide +kernel
theorem dL_areRequests_118 : decode cL_areRequests 118 = .ok (.aload_n 0, 1) := by decide +kernel
theorem dL_areRequests_119 : decode cL_areRequests 119 = .ok (.iload 5, 2) := by decide +kernel
theorem dL_areRequests_121 : decode cL_areRequests 121 = .ok (.invokestatic 146, 3) := by decide +kernel
theorem dL_areRequests_124 : decode cL_areRequests 124 = .ok (.sipush 200, 3) := by decide +kernel
theorem dL_areRequests_127 : decode cL_areRequests 127 = .ok (.if_icmp .gt 46, 3) := by decide +kernel
theorem dL_areRequests_130 : decode cL_areRequests 130 = .ok (.iload 7, 2) := by decide +kernel
theorem dL_areRequests_132 : decode cL_areRequests 132 = .ok (.ifCond .lt 41, 3) := by decide +kernel
theorem dL_areRequests_135 : decode cL_areRequests 135 = .ok (.iload 6, 2) := by decide +kernel
theorem dL_areRequests_137 : decode cL_areRequests 137 = .ok (.iconst 3, 1) := by decide +kernel
theorem dL_areRequests_138 : decode cL_areRequests 138 = .ok (.if_icmp .ne 8, 3) := by decide +kernel
theorem dL_areRequests_141 : decode cL_areRequests 141 = .ok (.iload 7, 2) := by decide +kernel
theorem dL_areRequests_143 : decode cL_areRequests 143 = .ok (.ifCond .le 30, 3) := by decide +kernel
theorem dL_areRequests_146 : decode cL_areRequests 146 = .ok (.iload 6, 2) := by decide +kernel
