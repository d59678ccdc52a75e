theorem dL_areRequests_148 : decode cL_areRequests 148 = .ok (.iconst 3, 1) := by decide +kernel
theorem dL_areRequests_149 : decode cL_areRequests 149 = .ok (.if_icmp .eq 20, 3) := by decide +kernel
theorem dL_areRequests_152 : decode cL_areRequests 152 = .ok (.iload 6, 2) := by decide +kernel
theorem dL_areRequests_154 : decode cL_areRequests 154 = .ok (.bipush 8, 2) := by decide +kernel
theorem dL_areRequests_156 : decode cL_areRequests 156 = .ok (.if_icmp .eq 13, 3) := by decide +kernel
theorem dL_areRequests_159 : decode cL_areRequests 159 = .ok (.aload_n 0, 1) := by decide +kernel
theorem dL_areRequests_160 : decode cL_areRequests 160 = .ok (.iload 5, 2) := by decide +kernel
theorem dL_areRequests_162 : decode cL_areRequests 162 = .ok (.invokestatic 148, 3) := by decide +kernel
theorem dL_areRequests_165 : decode cL_areRequests 165 = .ok (.iconst 1, 1) := by decide +kernel
theorem dL_areRequests_166 : decode cL_areRequests 166 = .ok (.if_icmp .ne 7, 3) := by decide +kernel
theorem dL_areRequests_169 : decode cL_areRequests 169 = .ok (.iconst 1, 1) := by decide +kernel
theorem dL_areRequests_170 : decode cL_areRequests 170 = .ok (.goto 4, 3) := by decide +kernel
theorem dL_areRequests_173 : decode cL_areRequests 173 = .ok (.iconst 0, 1) := by decide +kernel
theorem dL_areRequests_174 : decode cL_areRequests 174 = .ok (.istore_n 3, 1) := by decide +kernel
theorem dL_areRequests_175 : decode cL_areRequests 175 = .ok (.aload_n 2, 1) := by decide +kernel
theorem dL_areRequests_176 : decode cL_areRequests 176 = .ok (.iload 5, 2) := by decide +kernel
theorem dL_areRequests_178 : decode cL_areRequests 178 = .ok (.iload 6, 2) := by decide +kernel
theorem dL_areRequests_180 : decode cL_areRequests 180 = .ok (.iastore, 1) := by decide +kernel
theorem dL_areRequests_181 : decode cL_areRequests 181 = .ok (.iinc 5 1, 3) := by decide +kernel
theorem dL_areRequests_184 : decode cL_areRequests 184 = .ok (.goto (-160), 3) := by decide +kernel
theorem dL_areRequests_187 : decode cL_areRequests 187 = .ok (.iload_n 3, 1) := by decide +kernel
theorem dL_areRequests_188 : decode cL_areRequests 188 = .ok (.ifCond .eq 16, 3) := by decide +kernel
theorem dL_areRequests_191 : decode cL_areRequests 191 = .ok (.iload 4, 2) := by decide +kernel
theorem dL_areRequests_193 : decode cL_areRequests 193 = .ok (.aload_n 0, 1) := by decide +kernel
theorem dL_areRequests_194 : decode cL_areRequests 194 = .ok (.invokevirtual 132, 3) := by decide +kernel
theorem dL_areRequests_197 : decode cL_areRequests 197 = .ok (.if_icmp .gt 7, 3) := by decide +kernel
theorem dL_areRequests_200 : decode cL_areRequests 200 = .ok (.iconst 1, 1) := by decide +kernel
theorem dL_areRequests_201 : decode cL_areRequests 201 = .ok (.goto 4, 3) := by decide +kernel
theorem dL_areRequests_204 : decode cL_areRequests 204 = .ok (.iconst 0, 1) := by decide +kernel
theorem dL_areRequests_205 : decode cL_areRequests 205 = .ok (.ireturn, 1) := by decide +kernel
theorem dL_areLoads_0 : decode cL_areLoads 0 = .ok (.iconst 1, 1) := by decide +kernel
theorem dL_areLoads_1 : decode cL_areLoads 1 = .ok (.istore 6, 2) := by decide +kernel
theorem dL_areLoads_3 : decode cL_areLoads 3 = .ok (.iconst 0, 1) := by decide +kernel
theorem dL_areLoads_4 : decode cL_areLoads 4 = .ok (.istore 7, 2) := by decide +kernel
theorem dL_areLoads_6 : decode cL_areLoads 6 = .ok (.iconst 0, 1) := by decide +kernel
theorem dL_areLoads_7 : decode cL_areLoads 7 = .ok (.istore 8, 2) := by decide +kernel
theorem dL_areLoads_9 : decode cL_areLoads 9 = .ok (.iload 8, 2) := by decide +kernel
theorem dL_areLoads_11 : decode cL_areLoads 11 = .ok (.aload_n 1, 1) := by decide +kernel
theorem dL_areLoads_12 : decode cL_areLoads 12 = .ok (.iconst 0, 1) := by decide +kernel
theorem dL_areLoads_13 : decode cL_areLoads 13 = .ok (.iaload, 1) := by decide +kernel
theorem dL_areLoads_14 : decode cL_areLoads 14 = .ok (.if_icmp .ge 179, 3) := by decide +kernel
theorem dL_areLoads_17 : decode cL_areLoads 17 = .ok (.iload 6, 2) := by decide +kernel
theorem dL_areLoads_19 : decode cL_areLoads 19 = .ok (.ifCond .eq 174, 3) := by decide +kernel
theorem dL_areLoads_22 : decode cL_areLoads 22 = .ok (.aload_n 0, 1) := by decide +kernel
theorem dL_areLoads_23 : decode cL_areLoads 23 = .ok (.iload 8, 2) := by decide +kernel
theorem dL_areLoads_25 : decode cL_areLoads 25 = .ok (.iconst 1, 1) := by decide +kernel
theorem dL_areLoads_26 : decode cL_areLoads 26 = .ok (.invokestatic 111, 3) := by decide +kernel
theorem dL_areLoads_29 : decode cL_areLoads 29 = .ok (.istore 9, 2) := by decide +kernel
theorem dL_areLoads_31 : decode cL_areLoads 31 = .ok (.iload 7, 2) := by decide +kernel
theorem dL_areLoads_33 : decode cL_areLoads 33 = .ok (.iload 9, 2) := by decide +kernel
theorem dL_areLoads_35 : decode cL_areLoads 35 = .ok (.iadd, 1) := by decide +kernel
theorem dL_areLoads_36 : decode cL_areLoads 36 = .ok (.istore 7, 2) := by decide +kernel
theorem dL_areLoads_38 : decode cL_areLoads 38 = .ok (.iload 9, 2) := by decide +kernel
theorem dL_areLoads_40 : decode cL_areLoads 40 = .ok (.ifCond .lt 50, 3) := by decide +kernel
theorem dL_areLoads_43 : decode cL_areLoads 43 = .ok (.iload 9, 2) := by decide +kernel
theorem dL_areLoads_45 : decode cL_areLoads 45 = .ok (.aload_n 2, 1) := by decide +kernel
theorem dL_areLoads_46 : decode cL_areLoads 46 = .ok (.iload 8, 2) := by decide +kernel
theorem dL_areLoads_48 : decode cL_areLoads 48 = .ok (.iaload, 1) := by decide +kernel
theorem dL_areLoads_49 : decode cL_areLoads 49 = .ok (.aload_n 3, 1) := by decide +kernel
theorem dL_areLoads_50 : decode cL_areLoads 50 = .ok (.iload 8, 2) := by decide +kernel
theorem dL_areLoads_52 : decode cL_areLoads 52 = .ok (.iaload, 1) := by decide +kernel
theorem dL_areLoads_53 : decode cL_areLoads 53 = .ok (.iadd, 1) := by decide +kernel
theorem dL_areLoads_54 : decode cL_areLoads 54 = .ok (.if_icmp .gt 36, 3) := by decide +kernel
theorem dL_areLoads_57 : decode cL_areLoads 57 = .ok (.aload_n 0, 1) := by decide +kernel
theorem dL_areLoads_58 : decode cL_areLoads 58 = .ok (.iload 8, 2) := by decide +kernel
theorem dL_areLoads_60 : decode cL_areLoads 60 = .ok (.iconst 0, 1) := by decide +kernel
theorem dL_areLoads_61 : decode cL_areLoads 61 = .ok (.invokestatic 111, 3) := by decide +kernel
theorem dL_areLoads_64 : decode cL_areLoads 64 = .ok (.aload_n 2, 1) := by decide +kernel
theorem dL_areLoads_65 : decode cL_areLoads 65 = .ok (.iload 8, 2) := by decide +kernel
theorem dL_areLoads_67 : decode cL_areLoads 67 = .ok (.iaload, 1) := by decide +kernel
theorem dL_areLoads_68 : decode cL_areLoads 68 = .ok (.aload_n 3, 1) := by decide +kernel
theorem dL_areLoads_69 : decode cL_areLoads 69 = .ok (.iload 8, 2) := by decide +kernel
theorem dL_areLoads_71 : decode cL_areLoads 71 = .ok (.iaload, 1) := by decide +kernel
theorem dL_areLoads_72 : decode cL_areLoads 72 = .ok (.iadd, 1) := by decide +kernel
theorem dL_areLoads_73 : decode cL_areLoads 73 = .ok (.if_icmp .gt 17, 3) := by decide +kernel
theorem dL_areLoads_76 : decode cL_areLoads 76 = .ok (.aload_n 0, 1) := by decide +kernel
theorem dL_areLoads_77 : decode cL_areLoads 77 = .ok (.iload 8, 2) := by decide +kernel
theorem dL_areLoads_79 : decode cL_areLoads 79 = .ok (.iconst 0, 1) := by decide +kernel
theorem dL_areLoads_80 : decode cL_areLoads 80 = .ok (.invokestatic 111, 3) := by decide +kernel
theorem dL_areLoads_83 : decode cL_areLoads 83 = .ok (.ifCond .lt 7, 3) := by decide +kernel
theorem dL_areLoads_86 : decode cL_areLoads 86 = .ok (.iconst 1, 1) := by decide +kernel
theorem dL_areLoads_87 : decode cL_areLoads 87 = .ok (.goto 4, 3) := by decide +kernel
theorem dL_areLoads_90 : decode cL_areLoads 90 = .ok (.iconst 0, 1) := by decide +kernel
theorem dL_areLoads_91 : decode cL_areLoads 91 = .ok (.istore 6, 2) := by decide +kernel
theorem dL_areLoads_93 : decode cL_areLoads 93 = .ok (.iconst 0, 1) := by decide +kernel
theorem dL_areLoads_94 : decode cL_areLoads 94 = .ok (.istore 10, 2) := by decide +kernel
theorem dL_areLoads_96 : decode cL_areLoads 96 = .ok (.iconst 0, 1) := by decide +kernel
theorem dL_areLoads_97 : decode cL_areLoads 97 = .ok (.istore 11, 2) := by decide +kernel
theorem dL_areLoads_99 : decode cL_areLoads 99 = .ok (.iload 11, 2) := by decide +kernel
theorem dL_areLoads_101 : decode cL_areLoads 101 = .ok (.bipush 7, 2) := by decide +kernel
theorem dL_areLoads_103 : decode cL_areLoads 103 = .ok (.if_icmp .ge 58, 3) := by decide +kernel
theorem dL_areLoads_106 : decode cL_areLoads 106 = .ok (.aload_n 0, 1) := by decide +kernel
theorem dL_areLoads_107 : decode cL_areLoads 107 = .ok (.iload 11, 2) := by decide +kernel
theorem dL_areLoads_109 : decode cL_areLoads 109 = .ok (.iload 8, 2) := by decide +kernel
theorem dL_areLoads_111 : decode cL_areLoads 111 = .ok (.invokestatic 150, 3) := by decide +kernel
theorem dL_areLoads_114 : decode cL_areLoads 114 = .ok (.istore 12, 2) := by decide +kernel
theorem dL_areLoads_116 : decode cL_areLoads 116 = .ok (.iload 10, 2) := by decide +kernel
theorem dL_areLoads_118 : decode cL_areLoads 118 = .ok (.iload 12, 2) := by decide +kernel
theorem dL_areLoads_120 : decode cL_areLoads 120 = .ok (.iconst 1, 1) := by decide +kernel
theorem dL_areLoads_121 : decode cL_areLoads 121 = .ok (.if_icmp .ne 7, 3) := by decide +kernel
theorem dL_areLoads_124 : decode cL_areLoads 124 = .ok (.iconst 1, 1) := by decide +kernel
theorem dL_areLoads_125 : decode cL_areLoads 125 = .ok (.goto 4, 3) := by decide +kernel
theorem dL_areLoads_128 : decode cL_areLoads 128 = .ok (.iconst 0, 1) := by decide +kernel
theorem dL_areLoads_129 : decode cL_areLoads 129 = .ok (.iadd, 1) := by decide +kernel
theorem dL_areLoads_130 : decode cL_areLoads 130 = .ok (.istore 10, 2) := by decide +kernel
theorem dL_areLoads_132 : decode cL_areLoads 132 = .ok (.iload 6, 2) := by decide +kernel
theorem dL_areLoads_134 : decode cL_areLoads 134 = .ok (.ifCond .eq 18, 3) := by decide +kernel
theorem dL_areLoads_137 : decode cL_areLoads 137 = .ok (.iload 12, 2) := by decide +kernel
theorem dL_areLoads_139 : decode cL_areLoads 139 = .ok (.ifCond .lt 13, 3) := by decide +kernel
theorem dL_areLoads_142 : decode cL_areLoads 142 = .ok (.iload 12, 2) := by decide +kernel
theorem dL_areLoads_144 : decode cL_areLoads 144 = .ok (.iconst 3, 1) := by decide +kernel
theorem dL_areLoads_145 : decode cL_areLoads 145 = .ok (.if_icmp .ge 7, 3) := by decide +kernel
theorem dL_areLoads_148 : decode cL_areLoads 148 = .ok (.iconst 1, 1) := by decide +kernel
theorem dL_areLoads_149 : decode cL_areLoads 149 = .ok (.goto 4, 3) := by decide +kernel
theorem dL_areLoads_152 : decode cL_areLoads 152 = .ok (.iconst 0, 1) := by decide +kernel
theorem dL_areLoads_153 : decode cL_areLoads 153 = .ok (.istore 6, 2) := by decide +kernel
theorem dL_areLoads_155 : decode cL_areLoads 155 = .ok (.iinc 11 1, 3) := by decide +kernel
theorem dL_areLoads_158 : decode cL_areLoads 158 = .ok (.goto (-59), 3) := by decide +kernel
theorem dL_areLoads_161 : decode cL_areLoads 161 = .ok (.iload 6, 2) := by decide +kernel
theorem dL_areLoads_163 : decode cL_areLoads 163 = .ok (.ifCond .eq 21, 3) := by decide +kernel
theorem dL_areLoads_166 : decode cL_areLoads 166 = .ok (.iload 10, 2) := by decide +kernel
theorem dL_areLoads_168 : decode cL_areLoads 168 = .ok (.ifCond .gt 12, 3) := by decide +kernel
theorem dL_areLoads_171 : decode cL_areLoads 171 = .ok (.aload_n 0, 1) := by decide +kernel
theorem dL_areLoads_172 : decode cL_areLoads 172 = .ok (.iload 8, 2) := by decide +kernel
theorem dL_areLoads_174 : decode cL_areLoads 174 = .ok (.invokestatic 152, 3) := by decide +kernel
theorem dL_areLoads_177 : decode cL_areLoads 177 = .ok (.ifCond .ne 7, 3) := by decide +kernel
theorem dL_areLoads_180 : decode cL_areLoads 180 = .ok (.iconst 1, 1) := by decide +kernel
theorem dL_areLoads_181 : decode cL_areLoads 181 = .ok (.goto 4, 3) := by decide +kernel
theorem dL_areLoads_184 : decode cL_areLoads 184 = .ok (.iconst 0, 1) := by decide +kernel
theorem dL_areLoads_185 : decode cL_areLoads 185 = .ok (.istore 6, 2) := by decide +kernel
theorem dL_areLoads_187 : decode cL_areLoads 187 = .ok (.iinc 8 1, 3) := by decide +kernel
theorem dL_areLoads_190 : decode cL_areLoads 190 = .ok (.goto (-181), 3) := by decide +kernel
theorem dL_areLoads_193 : decode cL_areLoads 193 = .ok (.iconst 0, 1) := by decide +kernel
theorem dL_areLoads_194 : decode cL_areLoads 194 = .ok (.istore 8, 2) := by decide +kernel
theorem dL_areLoads_196 : decode cL_areLoads 196 = .ok (.iconst 0, 1) := by decide +kernel
theorem dL_areLoads_197 : decode cL_areLoads 197 = .ok (.istore 9, 2) := by decide +kernel
theorem dL_areLoads_199 : decode cL_areLoads 199 = .ok (.iload 9, 2) := by decide +kernel
theorem dL_areLoads_201 : decode cL_areLoads 201 = .ok (.aload_n 0, 1) := by decide +kernel
theorem dL_areLoads_202 : decode cL_areLoads 202 = .ok (.invokevirtual 132, 3) := by decide +kernel
theorem dL_areLoads_205 : decode cL_areLoads 205 = .ok (.if_icmp .ge 30, 3) := by decide +kernel
theorem dL_areLoads_208 : decode cL_areLoads 208 = .ok (.iload 8, 2) := by decide +kernel
theorem dL_areLoads_210 : decode cL_areLoads 210 = .ok (.aload_n 0, 1) := by decide +kernel
theorem dL_areLoads_211 : decode cL_areLoads 211 = .ok (.iload 9, 2) := by decide +kernel
theorem dL_areLoads_213 : decode cL_areLoads 213 = .ok (.iconst 2, 1) := by decide +kernel
theorem dL_areLoads_214 : decode cL_areLoads 214 = .ok (.invokestatic 136, 3) := by decide +kernel
theorem dL_areLoads_217 : decode cL_areLoads 217 = .ok (.iconst 3, 1) := by decide +kernel
theorem dL_areLoads_218 : decode cL_areLoads 218 = .ok (.if_icmp .ge 7, 3) := by decide +kernel
theorem dL_areLoads_221 : decode cL_areLoads 221 = .ok (.iconst 1, 1) := by decide +kernel
theorem dL_areLoads_222 : decode cL_areLoads 222 = .ok (.goto 4, 3) := by decide +kernel
theorem dL_areLoads_225 : decode cL_areLoads 225 = .ok (.iconst 0, 1) := by decide +kernel
theorem dL_areLoads_226 : decode cL_areLoads 226 = .ok (.iadd, 1) := by decide +kernel
theorem dL_areLoads_227 : decode cL_areLoads 227 = .ok (.istore 8, 2) := by decide +kernel
theorem dL_areLoads_229 : decode cL_areLoads 229 = .ok (.iinc 9 1, 3) := by decide +kernel
theorem dL_areLoads_232 : decode cL_areLoads 232 = .ok (.goto (-33), 3) := by decide +kernel
theorem dL_areLoads_235 : decode cL_areLoads 235 = .ok (.iconst 0, 1) := by decide +kernel
theorem dL_areLoads_236 : decode cL_areLoads 236 = .ok (.istore 9, 2) := by decide +kernel
theorem dL_areLoads_238 : decode cL_areLoads 238 = .ok (.iload 9, 2) := by decide +kernel
theorem dL_areLoads_240 : decode cL_areLoads 240 = .ok (.bipush 7, 2) := by decide +kernel
theorem dL_areLoads_242 : decode cL_areLoads 242 = .ok (.if_icmp .ge 133, 3) := by decide +kernel
theorem dL_areLoads_245 : decode cL_areLoads 245 = .ok (.iload 6, 2) := by decide +kernel
theorem dL_areLoads_247 : decode cL_areLoads 247 = .ok (.ifCond .eq 128, 3) := by decide +kernel
theorem dL_areLoads_250 : decode cL_areLoads 250 = .ok (.aload_n 0, 1) := by decide +kernel
theorem dL_areLoads_251 : decode cL_areLoads 251 = .ok (.iload 9, 2) := by decide +kernel
theorem dL_areLoads_253 : decode cL_areLoads 253 = .ok (.invokestatic 154, 3) := by decide +kernel
theorem dL_areLoads_256 : decode cL_areLoads 256 = .ok (.istore 10, 2) := by decide +kernel
theorem dL_areLoads_258 : decode cL_areLoads 258 = .ok (.aload_n 0, 1) := by decide +kernel
theorem dL_areLoads_259 : decode cL_areLoads 259 = .ok (.iload 9, 2) := by decide +kernel
theorem dL_areLoads_261 : decode cL_areLoads 261 = .ok (.invokestatic 156, 3) := by decide +kernel
theorem dL_areLoads_264 : decode cL_areLoads 264 = .ok (.istore 11, 2) := by decide +kernel
theorem dL_areLoads_266 : decode cL_areLoads 266 = .ok (.aload_n 0, 1) := by decide +kernel
theorem dL_areLoads_267 : decode cL_areLoads 267 = .ok (.iload 9, 2) := by decide +kernel
theorem dL_areLoads_269 : decode cL_areLoads 269 = .ok (.invokestatic 158, 3) := by decide +kernel
theorem dL_areLoads_272 : decode cL_areLoads 272 = .ok (.ifCond .lt 80, 3) := by decide +kernel
theorem dL_areLoads_275 : decode cL_areLoads 275 = .ok (.aload_n 0, 1) := by decide +kernel
theorem dL_areLoads_276 : decode cL_areLoads 276 = .ok (.iload 9, 2) := by decide +kernel
theorem dL_areLoads_278 : decode cL_areLoads 278 = .ok (.invokestatic 158, 3) := by decide +kernel
theorem dL_areLoads_281 : decode cL_areLoads 281 = .ok (.sipush 1000, 3) := by decide +kernel
theorem dL_areLoads_284 : decode cL_areLoads 284 = .ok (.if_icmp .gt 68, 3) := by decide +kernel
theorem dL_areLoads_287 : decode cL_areLoads 287 = .ok (.iload 10, 2) := by decide +kernel
theorem dL_areLoads_289 : decode cL_areLoads 289 = .ok (.aload 4, 2) := by decide +kernel
theorem dL_areLoads_291 : decode cL_areLoads 291 = .ok (.iload 9, 2) := by decide +kernel
theorem dL_areLoads_293 : decode cL_areLoads 293 = .ok (.iaload, 1) := by decide +kernel
theorem dL_areLoads_294 : decode cL_areLoads 294 = .ok (.if_icmp .lt 58, 3) := by decide +kernel
theorem dL_areLoads_297 : decode cL_areLoads 297 = .ok (.iload 11, 2) := by decide +kernel
theorem dL_areLoads_299 : decode cL_areLoads 299 = .ok (.aload 5, 2) := by decide +kernel
theorem dL_areLoads_301 : decode cL_areLoads 301 = .ok (.iload 9, 2) := by decide +kernel
theorem dL_areLoads_303 : decode cL_areLoads 303 = .ok (.iaload, 1) := by decide +kernel
theorem dL_areLoads_304 : decode cL_areLoads 304 = .ok (.if_icmp .lt 48, 3) := by decide +kernel
theorem dL_areLoads_307 : decode cL_areLoads 307 = .ok (.bipush 100, 2) := by decide +kernel
theorem dL_areLoads_309 : decode cL_areLoads 309 = .ok (.iload 11, 2) := by decide +kernel
theorem dL_areLoads_311 : decode cL_areLoads 311 = .ok (.imul, 1) := by decide +kernel
theorem dL_areLoads_312 : decode cL_areLoads 312 = .ok (.sipush 1000, 3) := by decide +kernel
theorem dL_areLoads_315 : decode cL_areLoads 315 = .ok (.bipush 100, 2) := by decide +kernel
theorem dL_areLoads_317 : decode cL_areLoads 317 = .ok (.iload 10, 2) := by decide +kernel
theorem dL_areLoads_319 : decode cL_areLoads 319 = .ok (.imul, 1) := by decide +kernel
theorem dL_areLoads_320 : decode cL_areLoads 320 = .ok (.iadd, 1) := by decide +kernel
theorem dL_areLoads_321 : decode cL_areLoads 321 = .ok (.if_icmp .gt 31, 3) := by decide +kernel
theorem dL_areLoads_324 : decode cL_areLoads 324 = .ok (.aload_n 0, 1) := by decide +kernel
theorem dL_areLoads_325 : decode cL_areLoads 325 = .ok (.iload 9, 2) := by decide +kernel
theorem dL_areLoads_327 : decode cL_areLoads 327 = .ok (.invokestatic 158, 3) := by decide +kernel
theorem dL_areLoads_330 : decode cL_areLoads 330 = .ok (.sipush 1000, 3) := by decide +kernel
theorem dL_areLoads_333 : decode cL_areLoads 333 = .ok (.bipush 100, 2) := by decide +kernel
theorem dL_areLoads_335 : decode cL_areLoads 335 = .ok (.iload 10, 2) := by decide +kernel
theorem dL_areLoads_337 : decode cL_areLoads 337 = .ok (.imul, 1) := by decide +kernel
theorem dL_areLoads_338 : decode cL_areLoads 338 = .ok (.iadd, 1) := by decide +kernel
theorem dL_areLoads_339 : decode cL_areLoads 339 = .ok (.bipush 100, 2) := by decide +kernel
theorem dL_areLoads_341 : decode cL_areLoads 341 = .ok (.iload 11, 2) := by decide +kernel
theorem dL_areLoads_343 : decode cL_areLoads 343 = .ok (.imul, 1) := by decide +kernel
theorem dL_areLoads_344 : decode cL_areLoads 344 = .ok (.isub, 1) := by decide +kernel
theorem dL_areLoads_345 : decode cL_areLoads 345 = .ok (.if_icmp .gt 7, 3) := by decide +kernel
theorem dL_areLoads_348 : decode cL_areLoads 348 = .ok (.iconst 1, 1) := by decide +kernel
theorem dL_areLoads_349 : decode cL_areLoads 349 = .ok (.goto 4, 3) := by decide +kernel
theorem dL_areLoads_352 : decode cL_areLoads 352 = .ok (.iconst 0, 1) := by decide +kernel
theorem dL_areLoads_353 : decode cL_areLoads 353 = .ok (.istore 6, 2) := by decide +kernel
theorem dL_areLoads_355 : decode cL_areLoads 355 = .ok (.aload 4, 2) := by decide +kernel
theorem dL_areLoads_357 : decode cL_areLoads 357 = .ok (.iload 9, 2) := by decide +kernel
theorem dL_areLoads_359 : decode cL_areLoads 359 = .ok (.iload 10, 2) := by decide +kernel
theorem dL_areLoads_361 : decode cL_areLoads 361 = .ok (.iastore, 1) := by decide +kernel
theorem dL_areLoads_362 : decode cL_areLoads 362 = .ok (.aload 5, 2) := by decide +kernel
theorem dL_areLoads_364 : decode cL_areLoads 364 = .ok (.iload 9, 2) := by decide +kernel
theorem dL_areLoads_366 : decode cL_areLoads 366 = .ok (.iload 11, 2) := by decide +kernel
theorem dL_areLoads_368 : decode cL_areLoads 368 = .ok (.iastore, 1) := by decide +kernel
theorem dL_areLoads_369 : decode cL_areLoads 369 = .ok (.iinc 9 1, 3) := by decide +kernel
theorem dL_areLoads_372 : decode cL_areLoads 372 = .ok (.goto (-134), 3) := by decide +kernel
theorem dL_areLoads_375 : decode cL_areLoads 375 = .ok (.iload 6, 2) := by decide +kernel
theorem dL_areLoads_377 : decode cL_areLoads 377 = .ok (.ifCond .eq 71, 3) := by decide +kernel
theorem dL_areLoads_380 : decode cL_areLoads 380 = .ok (.iload 8, 2) := by decide +kernel
theorem dL_areLoads_382 : decode cL_areLoads 382 = .ok (.iload 7, 2) := by decide +kernel
theorem dL_areLoads_384 : decode cL_areLoads 384 = .ok (.if_icmp .ne 64, 3) := by decide +kernel
theorem dL_areLoads_387 : decode cL_areLoads 387 = .ok (.aload_n 0, 1) := by decide +kernel
theorem dL_areLoads_388 : decode cL_areLoads 388 = .ok (.bipush 6, 2) := by decide +kernel
theorem dL_areLoads_390 : decode cL_areLoads 390 = .ok (.invokestatic 154, 3) := by decide +kernel
theorem dL_areLoads_393 : decode cL_areLoads 393 = .ok (.aload_n 1, 1) := by decide +kernel
theorem dL_areLoads_394 : decode cL_areLoads 394 = .ok (.iconst 1, 1) := by decide +kernel
theorem dL_areLoads_395 : decode cL_areLoads 395 = .ok (.iaload, 1) := by decide +kernel
theorem dL_areLoads_396 : decode cL_areLoads 396 = .ok (.if_icmp .ne 52, 3) := by decide +kernel
theorem dL_areLoads_399 : decode cL_areLoads 399 = .ok (.aload_n 0, 1) := by decide +kernel
theorem dL_areLoads_400 : decode cL_areLoads 400 = .ok (.iconst 1, 1) := by decide +kernel
theorem dL_areLoads_401 : decode cL_areLoads 401 = .ok (.invokevirtual 138, 3) := by decide +kernel
theorem dL_areLoads_404 : decode cL_areLoads 404 = .ok (.aload_n 1, 1) := by decide +kernel
theorem dL_areLoads_405 : decode cL_areLoads 405 = .ok (.iconst 5, 1) := by decide +kernel
theorem dL_areLoads_406 : decode cL_areLoads 406 = .ok (.iaload, 1) := by decide +kernel
theorem dL_areLoads_407 : decode cL_areLoads 407 = .ok (.if_icmp .lt 41, 3) := by decide +kernel
theorem dL_areLoads_410 : decode cL_areLoads 410 = .ok (.aload_n 0, 1) := by decide +kernel
theorem dL_areLoads_411 : decode cL_areLoads 411 = .ok (.iconst 0, 1) := by decide +kernel
theorem dL_areLoads_412 : decode cL_areLoads 412 = .ok (.invokevirtual 138, 3) := by decide +kernel
theorem dL_areLoads_415 : decode cL_areLoads 415 = .ok (.aload_n 1, 1) := by decide +kernel
theorem dL_areLoads_416 : decode cL_areLoads 416 = .ok (.iconst 4, 1) := by decide +kernel
theorem dL_areLoads_417 : decode cL_areLoads 417 = .ok (.iaload, 1) := by decide +kernel
theorem dL_areLoads_418 : decode cL_areLoads 418 = .ok (.if_icmp .lt 30, 3) := by decide +kernel
theorem dL_areLoads_421 : decode cL_areLoads 421 = .ok (.aload_n 0, 1) := by decide +kernel
theorem dL_areLoads_422 : decode cL_areLoads 422 = .ok (.iconst 1, 1) := by decide +kernel
theorem dL_areLoads_423 : decode cL_areLoads 423 = .ok (.invokevirtual 138, 3) := by decide +kernel
theorem dL_areLoads_426 : decode cL_areLoads 426 = .ok (.aload_n 0, 1) := by decide +kernel
theorem dL_areLoads_427 : decode cL_areLoads 427 = .ok (.iconst 0, 1) := by decide +kernel
theorem dL_areLoads_428 : decode cL_areLoads 428 = .ok (.invokevirtual 138, 3) := by decide +kernel
theorem dL_areLoads_431 : decode cL_areLoads 431 = .ok (.if_icmp .gt 17, 3) := by decide +kernel
theorem dL_areLoads_434 : decode cL_areLoads 434 = .ok (.aload_n 0, 1) := by decide +kernel
theorem dL_areLoads_435 : decode cL_areLoads 435 = .ok (.iconst 0, 1) := by decide +kernel
theorem dL_areLoads_436 : decode cL_areLoads 436 = .ok (.invokevirtual 138, 3) := by decide +kernel
theorem dL_areLoads_439 : decode cL_areLoads 439 = .ok (.bipush 100, 2) := by decide +kernel
theorem dL_areLoads_441 : decode cL_areLoads 441 = .ok (.if_icmp .gt 7, 3) := by decide +kernel
theorem dL_areLoads_444 : decode cL_areLoads 444 = .ok (.iconst 1, 1) := by decide +kernel
theorem dL_areLoads_445 : decode cL_areLoads 445 = .ok (.goto 4, 3) := by decide +kernel
theorem dL_areLoads_448 : decode cL_areLoads 448 = .ok (.iconst 0, 1) := by decide +kernel
theorem dL_areLoads_449 : decode cL_areLoads 449 = .ok (.ireturn, 1) := by decide +kernel
theorem dL_acts_0 : decode cL_acts 0 = .ok (.iload 11, 2) := by decide +kernel
theorem dL_acts_2 : decode cL_acts 2 = .ok (.bipush 12, 2) := by decide +kernel
theorem dL_acts_4 : decode cL_acts 4 = .ok (.invokestatic 100, 3) := by decide +kernel
theorem dL_acts_7 : decode cL_acts 7 = .ok (.istore 13, 2) := by decide +kernel
theorem dL_acts_9 : decode cL_acts 9 = .ok (.aload_n 1, 1) := by decide +kernel
theorem dL_acts_10 : decode cL_acts 10 = .ok (.iconst 0, 1) := by decide +kernel
theorem dL_acts_11 : decode cL_acts 11 = .ok (.iaload, 1) := by decide +kernel
theorem dL_acts_12 : decode cL_acts 12 = .ok (.bipush 6, 2) := by decide +kernel
theorem dL_acts_14 : decode cL_acts 14 = .ok (.if_icmp .lt 8, 3) := by decide +kernel
theorem dL_acts_17 : decode cL_acts 17 = .ok (.iload 13, 2) := by decide +kernel
theorem dL_acts_19 : decode cL_acts 19 = .ok (.ifCond .ne 21, 3) := by decide +kernel
theorem dL_acts_22 : decode cL_acts 22 = .ok (.aload_n 0, 1) := by decide +kernel
theorem dL_acts_23 : decode cL_acts 23 = .ok (.aload_n 1, 1) := by decide +kernel
theorem dL_acts_24 : decode cL_acts 24 = .ok (.aload_n 2, 1) := by decide +kernel
theorem dL_acts_25 : decode cL_acts 25 = .ok (.aload_n 3, 1) := by decide +kernel
theorem dL_acts_26 : decode cL_acts 26 = .ok (.aload 4, 2) := by decide +kernel
theorem dL_acts_28 : decode cL_acts 28 = .ok (.aload 5, 2) := by decide +kernel
theorem dL_acts_30 : decode cL_acts 30 = .ok (.iload 11, 2) := by decide +kernel
theorem dL_acts_32 : decode cL_acts 32 = .ok (.iconst 4, 1) := by decide +kernel
theorem dL_acts_33 : decode cL_acts 33 = .ok (.ishr, 1) := by decide +kernel
theorem dL_acts_34 : decode cL_acts 34 = .ok (.iload 12, 2) := by decide +kernel
theorem dL_acts_36 : decode cL_acts 36 = .ok (.invokestatic 160, 3) := by decide +kernel
theorem dL_acts_39 : decode cL_acts 39 = .ok (.ireturn, 1) := by decide +kernel
theorem dL_acts_40 : decode cL_acts 40 = .ok (.iload 13, 2) := by decide +kernel
theorem dL_acts_42 : decode cL_acts 42 = .ok (.iconst 3, 1) := by decide +kernel
theorem dL_acts_43 : decode cL_acts 43 = .ok (.if_icmp .ge 15, 3) := by decide +kernel
theorem dL_acts_46 : decode cL_acts 46 = .ok (.aload_n 0, 1) := by decide +kernel
theorem dL_acts_47 : decode cL_acts 47 = .ok (.aload_n 1, 1) := by decide +kernel
theorem dL_acts_48 : decode cL_acts 48 = .ok (.iload 11, 2) := by decide +kernel
theorem dL_acts_50 : decode cL_acts 50 = .ok (.iconst 4, 1) := by decide +kernel
theorem dL_acts_51 : decode cL_acts 51 = .ok (.ishr, 1) := by decide +kernel
theorem dL_acts_52 : decode cL_acts 52 = .ok (.iload 12, 2) := by decide +kernel
theorem dL_acts_54 : decode cL_acts 54 = .ok (.invokestatic 164, 3) := by decide +kernel
theorem dL_acts_57 : decode cL_acts 57 = .ok (.ireturn, 1) := by decide +kernel
theorem dL_acts_58 : decode cL_acts 58 = .ok (.iload 13, 2) := by decide +kernel
theorem dL_acts_60 : decode cL_acts 60 = .ok (.bipush 6, 2) := by decide +kernel
theorem dL_acts_62 : decode cL_acts 62 = .ok (.if_icmp .ge 100, 3) := by decide +kernel
theorem dL_acts_65 : decode cL_acts 65 = .ok (.aload_n 1, 1) := by decide +kernel
theorem dL_acts_66 : decode cL_acts 66 = .ok (.iconst 1, 1) := by decide +kernel
theorem dL_acts_67 : decode cL_acts 67 = .ok (.iaload, 1) := by decide +kernel
theorem dL_acts_68 : decode cL_acts 68 = .ok (.bipush 40, 2) := by decide +kernel
theorem dL_acts_70 : decode cL_acts 70 = .ok (.if_icmp .ne 21, 3) := by decide +kernel
theorem dL_acts_73 : decode cL_acts 73 = .ok (.aload_n 0, 1) := by decide +kernel
theorem dL_acts_74 : decode cL_acts 74 = .ok (.iconst 0, 1) := by decide +kernel
theorem dL_acts_75 : decode cL_acts 75 = .ok (.iconst 1, 1) := by decide +kernel
theorem dL_acts_76 : decode cL_acts 76 = .ok (.iconst 1, 1) := by decide +kernel
theorem dL_acts_77 : decode cL_acts 77 = .ok (.invokestatic 168, 3) := by decide +kernel
theorem dL_acts_80 : decode cL_acts 80 = .ok (.ldc 28, 2) := by decide +kernel
theorem dL_acts_82 : decode cL_acts 82 = .ok (.if_icmp .ne 7, 3) := by decide +kernel
theorem dL_acts_85 : decode cL_acts 85 = .ok (.iconst 1, 1) := by decide +kernel
theorem dL_acts_86 : decode cL_acts 86 = .ok (.goto 4, 3) := by decide +kernel
theorem dL_acts_89 : decode cL_acts 89 = .ok (.iconst 0, 1) := by decide +kernel
theorem dL_acts_90 : decode cL_acts 90 = .ok (.ireturn, 1) := by decide +kernel
theorem dL_acts_91 : decode cL_acts 91 = .ok (.aload_n 1, 1) := by decide +kernel
theorem dL_acts_92 : decode cL_acts 92 = .ok (.iconst 1, 1) := by decide +kernel
theorem dL_acts_93 : decode cL_acts 93 = .ok (.dup2, 1) := by decide +kernel
theorem dL_acts_94 : decode cL_acts 94 = .ok (.iaload, 1) := by decide +kernel
theorem dL_acts_95 : decode cL_acts 95 = .ok (.iconst 1, 1) := by decide +kernel
theorem dL_acts_96 : decode cL_acts 96 = .ok (.iadd, 1) := by decide +kernel
theorem dL_acts_97 : decode cL_acts 97 = .ok (.iastore, 1) := by decide +kernel
theorem dL_acts_98 : decode cL_acts 98 = .ok (.aload_n 0, 1) := by decide +kernel
theorem dL_acts_99 : decode cL_acts 99 = .ok (.iload 11, 2) := by decide +kernel
theorem dL_acts_101 : decode cL_acts 101 = .ok (.iconst 4, 1) := by decide +kernel
theorem dL_acts_102 : decode cL_acts 102 = .ok (.ishr, 1) := by decide +kernel
theorem dL_acts_103 : decode cL_acts 103 = .ok (.bipush 6, 2) := by decide +kernel
theorem dL_acts_105 : decode cL_acts 105 = .ok (.invokestatic 100, 3) := by decide +kernel
theorem dL_acts_108 : decode cL_acts 108 = .ok (.iload 12, 2) := by decide +kernel
theorem dL_acts_110 : decode cL_acts 110 = .ok (.iconst 2, 1) := by decide +kernel
theorem dL_acts_111 : decode cL_acts 111 = .ok (.invokestatic 100, 3) := by decide +kernel
theorem dL_acts_114 : decode cL_acts 114 = .ok (.ifCond .ne 7, 3) := by decide +kernel
theorem dL_acts_117 : decode cL_acts 117 = .ok (.iconst 1, 1) := by decide +kernel
theorem dL_acts_118 : decode cL_acts 118 = .ok (.goto 4, 3) := by decide +kernel
theorem dL_acts_121 : decode cL_acts 121 = .ok (.iconst 0, 1) := by decide +kernel
theorem dL_acts_122 : decode cL_acts 122 = .ok (.iconst 1, 1) := by decide +kernel
theorem dL_acts_123 : decode cL_acts 123 = .ok (.iload 12, 2) := by decide +kernel
theorem dL_acts_125 : decode cL_acts 125 = .ok (.iconst 1, 1) := by decide +kernel
theorem dL_acts_126 : decode cL_acts 126 = .ok (.ishr, 1) := by decide +kernel
theorem dL_acts_127 : decode cL_acts 127 = .ok (.bipush 40, 2) := by decide +kernel
theorem dL_acts_129 : decode cL_acts 129 = .ok (.invokestatic 100, 3) := by decide +kernel
theorem dL_acts_132 : decode cL_acts 132 = .ok (.iadd, 1) := by decide +kernel
theorem dL_acts_133 : decode cL_acts 133 = .ok (.invokestatic 168, 3) := by decide +kernel
theorem dL_acts_136 : decode cL_acts 136 = .ok (.aload_n 1, 1) := by decide +kernel
theorem dL_acts_137 : decode cL_acts 137 = .ok (.iconst 1, 1) := by decide +kernel
theorem dL_acts_138 : decode cL_acts 138 = .ok (.iaload, 1) := by decide +kernel
theorem dL_acts_139 : decode cL_acts 139 = .ok (.iconst 1, 1) := by decide +kernel
theorem dL_acts_140 : decode cL_acts 140 = .ok (.isub, 1) := by decide +kernel
theorem dL_acts_141 : decode cL_acts 141 = .ok (.if_icmp .ne 19, 3) := by decide +kernel
theorem dL_acts_144 : decode cL_acts 144 = .ok (.aload_n 0, 1) := by decide +kernel
theorem dL_acts_145 : decode cL_acts 145 = .ok (.aload_n 1, 1) := by decide +kernel
theorem dL_acts_146 : decode cL_acts 146 = .ok (.iconst 1, 1) := by decide +kernel
theorem dL_acts_147 : decode cL_acts 147 = .ok (.iaload, 1) := by decide +kernel
theorem dL_acts_148 : decode cL_acts 148 = .ok (.iconst 1, 1) := by decide +kernel
theorem dL_acts_149 : decode cL_acts 149 = .ok (.isub, 1) := by decide +kernel
theorem dL_acts_150 : decode cL_acts 150 = .ok (.invokestatic 146, 3) := by decide +kernel
theorem dL_acts_153 : decode cL_acts 153 = .ok (.ifCond .ne 7, 3) := by decide +kernel
theorem dL_acts_156 : decode cL_acts 156 = .ok (.iconst 1, 1) := by decide +kernel
theorem dL_acts_157 : decode cL_acts 157 = .ok (.goto 4, 3) := by decide +kernel
theorem dL_acts_160 : decode cL_acts 160 = .ok (.iconst 0, 1) := by decide +kernel
theorem dL_acts_161 : decode cL_acts 161 = .ok (.ireturn, 1) := by decide +kernel
theorem dL_acts_162 : decode cL_acts 162 = .ok (.iload 13, 2) := by decide +kernel
theorem dL_acts_164 : decode cL_acts 164 = .ok (.bipush 9, 2) := by decide +kernel
theorem dL_acts_166 : decode cL_acts 166 = .ok (.if_icmp .ge 49, 3) := by decide +kernel
theorem dL_acts_169 : decode cL_acts 169 = .ok (.iconst 1, 1) := by decide +kernel
theorem dL_acts_170 : decode cL_acts 170 = .ok (.iload 12, 2) := by decide +kernel
theorem dL_acts_172 : decode cL_acts 172 = .ok (.iconst 4, 1) := by decide +kernel
theorem dL_acts_173 : decode cL_acts 173 = .ok (.invokestatic 100, 3) := by decide +kernel
theorem dL_acts_176 : decode cL_acts 176 = .ok (.iadd, 1) := by decide +kernel
theorem dL_acts_177 : decode cL_acts 177 = .ok (.istore 14, 2) := by decide +kernel
theorem dL_acts_179 : decode cL_acts 179 = .ok (.aload_n 1, 1) := by decide +kernel
theorem dL_acts_180 : decode cL_acts 180 = .ok (.iconst 2, 1) := by decide +kernel
theorem dL_acts_181 : decode cL_acts 181 = .ok (.dup2, 1) := by decide +kernel
theorem dL_acts_182 : decode cL_acts 182 = .ok (.iaload, 1) := by decide +kernel
theorem dL_acts_183 : decode cL_acts 183 = .ok (.iload 14, 2) := by decide +kernel
theorem dL_acts_185 : decode cL_acts 185 = .ok (.iadd, 1) := by decide +kernel
theorem dL_acts_186 : decode cL_acts 186 = .ok (.iastore, 1) := by decide +kernel
theorem dL_acts_187 : decode cL_acts 187 = .ok (.aload_n 0, 1) := by decide +kernel
theorem dL_acts_188 : decode cL_acts 188 = .ok (.iload 14, 2) := by decide +kernel
theorem dL_acts_190 : decode cL_acts 190 = .ok (.invokestatic 171, 3) := by decide +kernel
theorem dL_acts_193 : decode cL_acts 193 = .ok (.aload_n 1, 1) := by decide +kernel
theorem dL_acts_194 : decode cL_acts 194 = .ok (.iconst 2, 1) := by decide +kernel
theorem dL_acts_195 : decode cL_acts 195 = .ok (.iaload, 1) := by decide +kernel
theorem dL_acts_196 : decode cL_acts 196 = .ok (.if_icmp .ne 17, 3) := by decide +kernel
theorem dL_acts_199 : decode cL_acts 199 = .ok (.aload_n 0, 1) := by decide +kernel
theorem dL_acts_200 : decode cL_acts 200 = .ok (.invokevirtual 173, 3) := by decide +kernel
theorem dL_acts_203 : decode cL_acts 203 = .ok (.aload_n 1, 1) := by decide +kernel
theorem dL_acts_204 : decode cL_acts 204 = .ok (.iconst 2, 1) := by decide +kernel
theorem dL_acts_205 : decode cL_acts 205 = .ok (.iaload, 1) := by decide +kernel
theorem dL_acts_206 : decode cL_acts 206 = .ok (.if_icmp .ne 7, 3) := by decide +kernel
theorem dL_acts_209 : decode cL_acts 209 = .ok (.iconst 1, 1) := by decide +kernel
theorem dL_acts_210 : decode cL_acts 210 = .ok (.goto 4, 3) := by decide +kernel
theorem dL_acts_213 : decode cL_acts 213 = .ok (.iconst 0, 1) := by decide +kernel
theorem dL_acts_214 : decode cL_acts 214 = .ok (.ireturn, 1) := by decide +kernel
theorem dL_acts_215 : decode cL_acts 215 = .ok (.iload 13, 2) := by decide +kernel
theorem dL_acts_217 : decode cL_acts 217 = .ok (.bipush 9, 2) := by decide +kernel
theorem dL_acts_219 : decode cL_acts 219 = .ok (.if_icmp .ne 16, 3) := by decide +kernel
theorem dL_acts_222 : decode cL_acts 222 = .ok (.aload_n 0, 1) := by decide +kernel
theorem dL_acts_223 : decode cL_acts 223 = .ok (.aload_n 1, 1) := by decide +kernel
theorem dL_acts_224 : decode cL_acts 224 = .ok (.aload_n 2, 1) := by decide +kernel
theorem dL_acts_225 : decode cL_acts 225 = .ok (.aload 6, 2) := by decide +kernel
theorem dL_acts_227 : decode cL_acts 227 = .ok (.aload 7, 2) := by decide +kernel
theorem dL_acts_229 : decode cL_acts 229 = .ok (.invokestatic 176, 3) := by decide +kernel
theorem dL_acts_232 : decode cL_acts 232 = .ok (.goto 32, 3) := by decide +kernel
theorem dL_acts_235 : decode cL_acts 235 = .ok (.iload 13, 2) := by decide +kernel
theorem dL_acts_237 : decode cL_acts 237 = .ok (.bipush 10, 2) := by decide +kernel
theorem dL_acts_239 : decode cL_acts 239 = .ok (.if_icmp .ne 13, 3) := by decide +kernel
theorem dL_acts_242 : decode cL_acts 242 = .ok (.aload_n 0, 1) := by decide +kernel
theorem dL_acts_243 : decode cL_acts 243 = .ok (.aload_n 1, 1) := by decide +kernel
theorem dL_acts_244 : decode cL_acts 244 = .ok (.aload 8, 2) := by decide +kernel
theorem dL_acts_246 : decode cL_acts 246 = .ok (.invokestatic 180, 3) := by decide +kernel
theorem dL_acts_249 : decode cL_acts 249 = .ok (.goto 15, 3) := by decide +kernel
theorem dL_acts_252 : decode cL_acts 252 = .ok (.aload_n 0, 1) := by decide +kernel
theorem dL_acts_253 : decode cL_acts 253 = .ok (.aload_n 1, 1) := by decide +kernel
theorem dL_acts_254 : decode cL_acts 254 = .ok (.aload_n 3, 1) := by decide +kernel
theorem dL_acts_255 : decode cL_acts 255 = .ok (.aload 4, 2) := by decide +kernel
theorem dL_acts_257 : decode cL_acts 257 = .ok (.aload 9, 2) := by decide +kernel
theorem dL_acts_259 : decode cL_acts 259 = .ok (.aload 10, 2) := by decide +kernel
theorem dL_acts_261 : decode cL_acts 261 = .ok (.invokestatic 184, 3) := by decide +kernel
theorem dL_acts_264 : decode cL_acts 264 = .ok (.istore 14, 2) := by decide +kernel
theorem dL_acts_266 : decode cL_acts 266 = .ok (.aload_n 1, 1) := by decide +kernel
theorem dL_acts_267 : decode cL_acts 267 = .ok (.iconst 4, 1) := by decide +kernel
theorem dL_acts_268 : decode cL_acts 268 = .ok (.aload_n 0, 1) := by decide +kernel
theorem dL_acts_269 : decode cL_acts 269 = .ok (.iconst 0, 1) := by decide +kernel
theorem dL_acts_270 : decode cL_acts 270 = .ok (.invokevirtual 138, 3) := by decide +kernel
theorem dL_acts_273 : decode cL_acts 273 = .ok (.iastore, 1) := by decide +kernel
theorem dL_acts_274 : decode cL_acts 274 = .ok (.aload_n 1, 1) := by decide +kernel
theorem dL_acts_275 : decode cL_acts 275 = .ok (.iconst 5, 1) := by decide +kernel
theorem dL_acts_276 : decode cL_acts 276 = .ok (.aload_n 0, 1) := by decide +kernel
theorem dL_acts_277 : decode cL_acts 277 = .ok (.iconst 1, 1) := by decide +kernel
theorem dL_acts_278 : decode cL_acts 278 = .ok (.invokevirtual 138, 3) := by decide +kernel
theorem dL_acts_281 : decode cL_acts 281 = .ok (.iastore, 1) := by decide +kernel
theorem dL_acts_282 : decode cL_acts 282 = .ok (.iload 14, 2) := by decide +kernel
theorem dL_acts_284 : decode cL_acts 284 = .ok (.ireturn, 1) := by decide +kernel
theorem dL_law_0 : decode cL_law 0 = .ok (.new 11, 3) := by decide +kernel
theorem dL_law_3 : decode cL_law 3 = .ok (.dup, 1) := by decide +kernel
theorem dL_law_4 : decode cL_law 4 = .ok (.invokespecial 188, 3) := by decide +kernel
theorem dL_law_7 : decode cL_law 7 = .ok (.astore_n 1, 1) := by decide +kernel
theorem dL_law_8 : decode cL_law 8 = .ok (.bipush 6, 2) := by decide +kernel
theorem dL_law_10 : decode cL_law 10 = .ok (.newarray .int, 2) := by decide +kernel
theorem dL_law_12 : decode cL_law 12 = .ok (.astore_n 2, 1) := by decide +kernel
theorem dL_law_13 : decode cL_law 13 = .ok (.bipush 12, 2) := by decide +kernel
theorem dL_law_15 : decode cL_law 15 = .ok (.newarray .int, 2) := by decide +kernel
theorem dL_law_17 : decode cL_law 17 = .ok (.astore_n 3, 1) := by decide +kernel
theorem dL_law_18 : decode cL_law 18 = .ok (.bipush 12, 2) := by decide +kernel
theorem dL_law_20 : decode cL_law 20 = .ok (.newarray .int, 2) := by decide +kernel
theorem dL_law_22 : decode cL_law 22 = .ok (.astore 4, 2) := by decide +kernel
theorem dL_law_24 : decode cL_law 24 = .ok (.bipush 12, 2) := by decide +kernel
theorem dL_law_26 : decode cL_law 26 = .ok (.newarray .int, 2) := by decide +kernel
theorem dL_law_28 : decode cL_law 28 = .ok (.astore 5, 2) := by decide +kernel
theorem dL_law_30 : decode cL_law 30 = .ok (.bipush 6, 2) := by decide +kernel
theorem dL_law_32 : decode cL_law 32 = .ok (.newarray .int, 2) := by decide +kernel
theorem dL_law_34 : decode cL_law 34 = .ok (.astore 6, 2) := by decide +kernel
theorem dL_law_36 : decode cL_law 36 = .ok (.bipush 60, 2) := by decide +kernel
theorem dL_law_38 : decode cL_law 38 = .ok (.newarray .int, 2) := by decide +kernel
theorem dL_law_40 : decode cL_law 40 = .ok (.astore 7, 2) := by decide +kernel
theorem dL_law_42 : decode cL_law 42 = .ok (.bipush 60, 2) := by decide +kernel
theorem dL_law_44 : decode cL_law 44 = .ok (.newarray .int, 2) := by decide +kernel
theorem dL_law_46 : decode cL_law 46 = .ok (.astore 8, 2) := by decide +kernel
theorem dL_law_48 : decode cL_law 48 = .ok (.bipush 40, 2) := by decide +kernel
theorem dL_law_50 : decode cL_law 50 = .ok (.newarray .int, 2) := by decide +kernel
theorem dL_law_52 : decode cL_law 52 = .ok (.astore 9, 2) := by decide +kernel
theorem dL_law_54 : decode cL_law 54 = .ok (.bipush 7, 2) := by decide +kernel
theorem dL_law_56 : decode cL_law 56 = .ok (.newarray .int, 2) := by decide +kernel
theorem dL_law_58 : decode cL_law 58 = .ok (.astore 10, 2) := by decide +kernel
theorem dL_law_60 : decode cL_law 60 = .ok (.bipush 7, 2) := by decide +kernel
theorem dL_law_62 : decode cL_law 62 = .ok (.newarray .int, 2) := by decide +kernel
theorem dL_law_64 : decode cL_law 64 = .ok (.astore 11, 2) := by decide +kernel
theorem dL_law_66 : decode cL_law 66 = .ok (.aload_n 1, 1) := by decide +kernel
theorem dL_law_67 : decode cL_law 67 = .ok (.invokevirtual 173, 3) := by decide +kernel
theorem dL_law_70 : decode cL_law 70 = .ok (.ifCond .ne 7, 3) := by decide +kernel
theorem dL_law_73 : decode cL_law 73 = .ok (.iconst 1, 1) := by decide +kernel
theorem dL_law_74 : decode cL_law 74 = .ok (.goto 4, 3) := by decide +kernel
theorem dL_law_77 : decode cL_law 77 = .ok (.iconst 0, 1) := by decide +kernel
theorem dL_law_78 : decode cL_law 78 = .ok (.istore 12, 2) := by decide +kernel
theorem dL_law_80 : decode cL_law 80 = .ok (.iconst 0, 1) := by decide +kernel
theorem dL_law_81 : decode cL_law 81 = .ok (.istore 13, 2) := by decide +kernel
theorem dL_law_83 : decode cL_law 83 = .ok (.iload 13, 2) := by decide +kernel
theorem dL_law_85 : decode cL_law 85 = .ok (.bipush 90, 2) := by decide +kernel
theorem dL_law_87 : decode cL_law 87 = .ok (.if_icmp .ge 56, 3) := by decide +kernel
theorem dL_law_90 : decode cL_law 90 = .ok (.iload 12, 2) := by decide +kernel
theorem dL_law_92 : decode cL_law 92 = .ok (.ifCond .eq 51, 3) := by decide +kernel
theorem dL_law_95 : decode cL_law 95 = .ok (.aload_n 1, 1) := by decide +kernel
theorem dL_law_96 : decode cL_law 96 = .ok (.aload_n 2, 1) := by decide +kernel
theorem dL_law_97 : decode cL_law 97 = .ok (.aload_n 3, 1) := by decide +kernel
theorem dL_law_98 : decode cL_law 98 = .ok (.aload 4, 2) := by decide +kernel
theorem dL_law_100 : decode cL_law 100 = .ok (.aload 5, 2) := by decide +kernel
theorem dL_law_102 : decode cL_law 102 = .ok (.aload 6, 2) := by decide +kernel
theorem dL_law_104 : decode cL_law 104 = .ok (.aload 7, 2) := by decide +kernel
theorem dL_law_106 : decode cL_law 106 = .ok (.aload 8, 2) := by decide +kernel
theorem dL_law_108 : decode cL_law 108 = .ok (.aload 9, 2) := by decide +kernel
theorem dL_law_110 : decode cL_law 110 = .ok (.aload 10, 2) := by decide +kernel
theorem dL_law_112 : decode cL_law 112 = .ok (.aload 11, 2) := by decide +kernel
theorem dL_law_114 : decode cL_law 114 = .ok (.aload_n 0, 1) := by decide +kernel
theorem dL_law_115 : decode cL_law 115 = .ok (.iconst 2, 1) := by decide +kernel
theorem dL_law_116 : decode cL_law 116 = .ok (.iload 13, 2) := by decide +kernel
theorem dL_law_118 : decode cL_law 118 = .ok (.imul, 1) := by decide +kernel
theorem dL_law_119 : decode cL_law 119 = .ok (.invokestatic 189, 3) := by decide +kernel
theorem dL_law_122 : decode cL_law 122 = .ok (.aload_n 0, 1) := by decide +kernel
theorem dL_law_123 : decode cL_law 123 = .ok (.iconst 2, 1) := by decide +kernel
theorem dL_law_124 : decode cL_law 124 = .ok (.iload 13, 2) := by decide +kernel
theorem dL_law_126 : decode cL_law 126 = .ok (.imul, 1) := by decide +kernel
theorem dL_law_127 : decode cL_law 127 = .ok (.iconst 1, 1) := by decide +kernel
theorem dL_law_128 : decode cL_law 128 = .ok (.iadd, 1) := by decide +kernel
theorem dL_law_129 : decode cL_law 129 = .ok (.invokestatic 189, 3) := by decide +kernel
theorem dL_law_132 : decode cL_law 132 = .ok (.invokestatic 193, 3) := by decide +kernel
theorem dL_law_135 : decode cL_law 135 = .ok (.istore 12, 2) := by decide +kernel
theorem dL_law_137 : decode cL_law 137 = .ok (.iinc 13 1, 3) := by decide +kernel
theorem dL_law_140 : decode cL_law 140 = .ok (.goto (-57), 3) := by decide +kernel
theorem dL_law_143 : decode cL_law 143 = .ok (.iload 12, 2) := by decide +kernel
theorem dL_law_145 : decode cL_law 145 = .ok (.ifCond .eq 46, 3) := by decide +kernel
theorem dL_law_148 : decode cL_law 148 = .ok (.aload_n 1, 1) := by decide +kernel
theorem dL_law_149 : decode cL_law 149 = .ok (.aload_n 2, 1) := by decide +kernel
theorem dL_law_150 : decode cL_law 150 = .ok (.aload_n 3, 1) := by decide +kernel
theorem dL_law_151 : decode cL_law 151 = .ok (.aload 7, 2) := by decide +kernel
theorem dL_law_153 : decode cL_law 153 = .ok (.aload 8, 2) := by decide +kernel
theorem dL_law_155 : decode cL_law 155 = .ok (.invokestatic 176, 3) := by decide +kernel
theorem dL_law_158 : decode cL_law 158 = .ok (.ifCond .eq 33, 3) := by decide +kernel
theorem dL_law_161 : decode cL_law 161 = .ok (.aload_n 1, 1) := by decide +kernel
theorem dL_law_162 : decode cL_law 162 = .ok (.aload_n 2, 1) := by decide +kernel
theorem dL_law_163 : decode cL_law 163 = .ok (.aload 9, 2) := by decide +kernel
theorem dL_law_165 : decode cL_law 165 = .ok (.invokestatic 180, 3) := by decide +kernel
theorem dL_law_168 : decode cL_law 168 = .ok (.ifCond .eq 23, 3) := by decide +kernel
theorem dL_law_171 : decode cL_law 171 = .ok (.aload_n 1, 1) := by decide +kernel
theorem dL_law_172 : decode cL_law 172 = .ok (.aload_n 2, 1) := by decide +kernel
theorem dL_law_173 : decode cL_law 173 = .ok (.aload 4, 2) := by decide +kernel
theorem dL_law_175 : decode cL_law 175 = .ok (.aload 5, 2) := by decide +kernel
theorem dL_law_177 : decode cL_law 177 = .ok (.aload 10, 2) := by decide +kernel
theorem dL_law_179 : decode cL_law 179 = .ok (.aload 11, 2) := by decide +kernel
theorem dL_law_181 : decode cL_law 181 = .ok (.invokestatic 184, 3) := by decide +kernel
theorem dL_law_184 : decode cL_law 184 = .ok (.ifCond .eq 7, 3) := by decide +kernel
theorem dL_law_187 : decode cL_law 187 = .ok (.iconst 1, 1) := by decide +kernel
theorem dL_law_188 : decode cL_law 188 = .ok (.goto 4, 3) := by decide +kernel
theorem dL_law_191 : decode cL_law 191 = .ok (.iconst 0, 1) := by decide +kernel
theorem dL_law_192 : decode cL_law 192 = .ok (.ireturn, 1) := by decide +kernel
