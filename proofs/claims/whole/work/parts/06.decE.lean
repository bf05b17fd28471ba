/-! decode rows, written by wip/gen/names.py -/
theorem d_LA_law_0 : decode code 0 = .ok (.new 7, 3) := by decide +kernel
theorem d_LA_law_3 : decode code 3 = .ok (.dup, 1) := by decide +kernel
theorem d_LA_law_4 : decode code 4 = .ok (.invokespecial 9, 3) := by decide +kernel
theorem d_LA_law_7 : decode code 7 = .ok (.astore_n 1, 1) := by decide +kernel
theorem d_LA_law_8 : decode code 8 = .ok (.new 10, 3) := by decide +kernel
theorem d_LA_law_11 : decode code 11 = .ok (.dup, 1) := by decide +kernel
theorem d_LA_law_12 : decode code 12 = .ok (.invokespecial 12, 3) := by decide +kernel
theorem d_LA_law_15 : decode code 15 = .ok (.astore_n 2, 1) := by decide +kernel
theorem d_LA_law_16 : decode code 16 = .ok (.iconst 0, 1) := by decide +kernel
theorem d_LA_law_17 : decode code 17 = .ok (.istore_n 3, 1) := by decide +kernel
theorem d_LA_law_18 : decode code 18 = .ok (.iload_n 3, 1) := by decide +kernel
theorem d_LA_law_19 : decode code 19 = .ok (.aload_n 0, 1) := by decide +kernel
theorem d_LA_law_20 : decode code 20 = .ok (.arraylength, 1) := by decide +kernel
theorem d_LA_law_21 : decode code 21 = .ok (.iconst 4, 1) := by decide +kernel
theorem d_LA_law_22 : decode code 22 = .ok (.isub, 1) := by decide +kernel
theorem d_LA_law_23 : decode code 23 = .ok (.if_icmp .gt 334, 3) := by decide +kernel
theorem d_LA_law_26 : decode code 26 = .ok (.aload_n 0, 1) := by decide +kernel
theorem d_LA_law_27 : decode code 27 = .ok (.iload_n 3, 1) := by decide +kernel
theorem d_LA_law_28 : decode code 28 = .ok (.iaload, 1) := by decide +kernel
theorem d_LA_law_29 : decode code 29 = .ok (.bipush 15, 2) := by decide +kernel
theorem d_LA_law_31 : decode code 31 = .ok (.iand, 1) := by decide +kernel
theorem d_LA_law_32 : decode code 32 = .ok (.tableswitch 319 0 10 #[60, 103, 126, 149, 162, 221, 234, 257, 270, 283, 306], 60) := by decide +kernel
theorem d_LA_law_92 : decode code 92 = .ok (.aload_n 1, 1) := by decide +kernel
theorem d_LA_law_93 : decode code 93 = .ok (.aload_n 0, 1) := by decide +kernel
theorem d_LA_law_94 : decode code 94 = .ok (.iload_n 3, 1) := by decide +kernel
theorem d_LA_law_95 : decode code 95 = .ok (.iconst 1, 1) := by decide +kernel
theorem d_LA_law_96 : decode code 96 = .ok (.iadd, 1) := by decide +kernel
theorem d_LA_law_97 : decode code 97 = .ok (.iaload, 1) := by decide +kernel
theorem d_LA_law_98 : decode code 98 = .ok (.aload_n 0, 1) := by decide +kernel
theorem d_LA_law_99 : decode code 99 = .ok (.iload_n 3, 1) := by decide +kernel
theorem d_LA_law_100 : decode code 100 = .ok (.iconst 2, 1) := by decide +kernel
theorem d_LA_law_101 : decode code 101 = .ok (.iadd, 1) := by decide +kernel
theorem d_LA_law_102 : decode code 102 = .ok (.iaload, 1) := by decide +kernel
theorem d_LA_law_103 : decode code 103 = .ok (.aload_n 0, 1) := by decide +kernel
theorem d_LA_law_104 : decode code 104 = .ok (.iload_n 3, 1) := by decide +kernel
theorem d_LA_law_105 : decode code 105 = .ok (.iconst 3, 1) := by decide +kernel
theorem d_LA_law_106 : decode code 106 = .ok (.iadd, 1) := by decide +kernel
theorem d_LA_law_107 : decode code 107 = .ok (.iaload, 1) := by decide +kernel
theorem d_LA_law_108 : decode code 108 = .ok (.invokevirtual 13, 3) := by decide +kernel
theorem d_LA_law_111 : decode code 111 = .ok (.aload_n 2, 1) := by decide +kernel
theorem d_LA_law_112 : decode code 112 = .ok (.aload_n 0, 1) := by decide +kernel
theorem d_LA_law_113 : decode code 113 = .ok (.iload_n 3, 1) := by decide +kernel
theorem d_LA_law_114 : decode code 114 = .ok (.iconst 1, 1) := by decide +kernel
theorem d_LA_law_115 : decode code 115 = .ok (.iadd, 1) := by decide +kernel
theorem d_LA_law_116 : decode code 116 = .ok (.iaload, 1) := by decide +kernel
theorem d_LA_law_117 : decode code 117 = .ok (.aload_n 0, 1) := by decide +kernel
theorem d_LA_law_118 : decode code 118 = .ok (.iload_n 3, 1) := by decide +kernel
theorem d_LA_law_119 : decode code 119 = .ok (.iconst 2, 1) := by decide +kernel
theorem d_LA_law_120 : decode code 120 = .ok (.iadd, 1) := by decide +kernel
theorem d_LA_law_121 : decode code 121 = .ok (.iaload, 1) := by decide +kernel
theorem d_LA_law_122 : decode code 122 = .ok (.aload_n 0, 1) := by decide +kernel
theorem d_LA_law_123 : decode code 123 = .ok (.iload_n 3, 1) := by decide +kernel
theorem d_LA_law_124 : decode code 124 = .ok (.iconst 3, 1) := by decide +kernel
theorem d_LA_law_125 : decode code 125 = .ok (.iadd, 1) := by decide +kernel
theorem d_LA_law_126 : decode code 126 = .ok (.iaload, 1) := by decide +kernel
theorem d_LA_law_127 : decode code 127 = .ok (.invokevirtual 17, 3) := by decide +kernel
theorem d_LA_law_130 : decode code 130 = .ok (.if_icmp .eq 221, 3) := by decide +kernel
theorem d_LA_law_133 : decode code 133 = .ok (.iconst 0, 1) := by decide +kernel
theorem d_LA_law_134 : decode code 134 = .ok (.ireturn, 1) := by decide +kernel
theorem d_LA_law_135 : decode code 135 = .ok (.aload_n 1, 1) := by decide +kernel
theorem d_LA_law_136 : decode code 136 = .ok (.aload_n 0, 1) := by decide +kernel
theorem d_LA_law_137 : decode code 137 = .ok (.iload_n 3, 1) := by decide +kernel
theorem d_LA_law_138 : decode code 138 = .ok (.iconst 1, 1) := by decide +kernel
theorem d_LA_law_139 : decode code 139 = .ok (.iadd, 1) := by decide +kernel
theorem d_LA_law_140 : decode code 140 = .ok (.iaload, 1) := by decide +kernel
theorem d_LA_law_141 : decode code 141 = .ok (.invokevirtual 18, 3) := by decide +kernel
theorem d_LA_law_144 : decode code 144 = .ok (.aload_n 2, 1) := by decide +kernel
theorem d_LA_law_145 : decode code 145 = .ok (.aload_n 0, 1) := by decide +kernel
theorem d_LA_law_146 : decode code 146 = .ok (.iload_n 3, 1) := by decide +kernel
theorem d_LA_law_147 : decode code 147 = .ok (.iconst 1, 1) := by decide +kernel
theorem d_LA_law_148 : decode code 148 = .ok (.iadd, 1) := by decide +kernel
theorem d_LA_law_149 : decode code 149 = .ok (.iaload, 1) := by decide +kernel
theorem d_LA_law_150 : decode code 150 = .ok (.invokevirtual 22, 3) := by decide +kernel
theorem d_LA_law_153 : decode code 153 = .ok (.if_icmp .eq 198, 3) := by decide +kernel
theorem d_LA_law_156 : decode code 156 = .ok (.iconst 0, 1) := by decide +kernel
theorem d_LA_law_157 : decode code 157 = .ok (.ireturn, 1) := by decide +kernel
theorem d_LA_law_158 : decode code 158 = .ok (.aload_n 1, 1) := by decide +kernel
theorem d_LA_law_159 : decode code 159 = .ok (.aload_n 0, 1) := by decide +kernel
theorem d_LA_law_160 : decode code 160 = .ok (.iload_n 3, 1) := by decide +kernel
theorem d_LA_law_161 : decode code 161 = .ok (.iconst 1, 1) := by decide +kernel
theorem d_LA_law_162 : decode code 162 = .ok (.iadd, 1) := by decide +kernel
theorem d_LA_law_163 : decode code 163 = .ok (.iaload, 1) := by decide +kernel
theorem d_LA_law_164 : decode code 164 = .ok (.invokevirtual 23, 3) := by decide +kernel
theorem d_LA_law_167 : decode code 167 = .ok (.aload_n 2, 1) := by decide +kernel
theorem d_LA_law_168 : decode code 168 = .ok (.aload_n 0, 1) := by decide +kernel
theorem d_LA_law_169 : decode code 169 = .ok (.iload_n 3, 1) := by decide +kernel
theorem d_LA_law_170 : decode code 170 = .ok (.iconst 1, 1) := by decide +kernel
theorem d_LA_law_171 : decode code 171 = .ok (.iadd, 1) := by decide +kernel
theorem d_LA_law_172 : decode code 172 = .ok (.iaload, 1) := by decide +kernel
theorem d_LA_law_173 : decode code 173 = .ok (.invokevirtual 26, 3) := by decide +kernel
theorem d_LA_law_176 : decode code 176 = .ok (.if_icmp .eq 175, 3) := by decide +kernel
theorem d_LA_law_179 : decode code 179 = .ok (.iconst 0, 1) := by decide +kernel
theorem d_LA_law_180 : decode code 180 = .ok (.ireturn, 1) := by decide +kernel
theorem d_LA_law_181 : decode code 181 = .ok (.aload_n 1, 1) := by decide +kernel
theorem d_LA_law_182 : decode code 182 = .ok (.invokevirtual 27, 3) := by decide +kernel
theorem d_LA_law_185 : decode code 185 = .ok (.aload_n 2, 1) := by decide +kernel
theorem d_LA_law_186 : decode code 186 = .ok (.invokevirtual 31, 3) := by decide +kernel
theorem d_LA_law_189 : decode code 189 = .ok (.if_icmp .eq 162, 3) := by decide +kernel
theorem d_LA_law_192 : decode code 192 = .ok (.iconst 0, 1) := by decide +kernel
theorem d_LA_law_193 : decode code 193 = .ok (.ireturn, 1) := by decide +kernel
theorem d_LA_law_194 : decode code 194 = .ok (.aload_n 1, 1) := by decide +kernel
theorem d_LA_law_195 : decode code 195 = .ok (.aload_n 0, 1) := by decide +kernel
theorem d_LA_law_196 : decode code 196 = .ok (.iload_n 3, 1) := by decide +kernel
theorem d_LA_law_197 : decode code 197 = .ok (.iconst 1, 1) := by decide +kernel
theorem d_LA_law_198 : decode code 198 = .ok (.iadd, 1) := by decide +kernel
theorem d_LA_law_199 : decode code 199 = .ok (.iaload, 1) := by decide +kernel
theorem d_LA_law_200 : decode code 200 = .ok (.aload_n 0, 1) := by decide +kernel
theorem d_LA_law_201 : decode code 201 = .ok (.iload_n 3, 1) := by decide +kernel
theorem d_LA_law_202 : decode code 202 = .ok (.iconst 2, 1) := by decide +kernel
theorem d_LA_law_203 : decode code 203 = .ok (.iadd, 1) := by decide +kernel
theorem d_LA_law_204 : decode code 204 = .ok (.iaload, 1) := by decide +kernel
theorem d_LA_law_205 : decode code 205 = .ok (.aload_n 0, 1) := by decide +kernel
theorem d_LA_law_206 : decode code 206 = .ok (.iload_n 3, 1) := by decide +kernel
theorem d_LA_law_207 : decode code 207 = .ok (.iconst 3, 1) := by decide +kernel
theorem d_LA_law_208 : decode code 208 = .ok (.iadd, 1) := by decide +kernel
theorem d_LA_law_209 : decode code 209 = .ok (.iaload, 1) := by decide +kernel
theorem d_LA_law_210 : decode code 210 = .ok (.ifCond .eq 7, 3) := by decide +kernel
theorem d_LA_law_213 : decode code 213 = .ok (.iconst 1, 1) := by decide +kernel
theorem d_LA_law_214 : decode code 214 = .ok (.goto 4, 3) := by decide +kernel
theorem d_LA_law_217 : decode code 217 = .ok (.iconst 0, 1) := by decide +kernel
theorem d_LA_law_218 : decode code 218 = .ok (.invokevirtual 32, 3) := by decide +kernel
theorem d_LA_law_221 : decode code 221 = .ok (.aload_n 2, 1) := by decide +kernel
theorem d_LA_law_222 : decode code 222 = .ok (.aload_n 0, 1) := by decide +kernel
theorem d_LA_law_223 : decode code 223 = .ok (.iload_n 3, 1) := by decide +kernel
theorem d_LA_law_224 : decode code 224 = .ok (.iconst 1, 1) := by decide +kernel
theorem d_LA_law_225 : decode code 225 = .ok (.iadd, 1) := by decide +kernel
theorem d_LA_law_226 : decode code 226 = .ok (.iaload, 1) := by decide +kernel
theorem d_LA_law_227 : decode code 227 = .ok (.aload_n 0, 1) := by decide +kernel
theorem d_LA_law_228 : decode code 228 = .ok (.iload_n 3, 1) := by decide +kernel
theorem d_LA_law_229 : decode code 229 = .ok (.iconst 2, 1) := by decide +kernel
theorem d_LA_law_230 : decode code 230 = .ok (.iadd, 1) := by decide +kernel
theorem d_LA_law_231 : decode code 231 = .ok (.iaload, 1) := by decide +kernel
theorem d_LA_law_232 : decode code 232 = .ok (.aload_n 0, 1) := by decide +kernel
theorem d_LA_law_233 : decode code 233 = .ok (.iload_n 3, 1) := by decide +kernel
theorem d_LA_law_234 : decode code 234 = .ok (.iconst 3, 1) := by decide +kernel
theorem d_LA_law_235 : decode code 235 = .ok (.iadd, 1) := by decide +kernel
theorem d_LA_law_236 : decode code 236 = .ok (.iaload, 1) := by decide +kernel
theorem d_LA_law_237 : decode code 237 = .ok (.ifCond .eq 7, 3) := by decide +kernel
theorem d_LA_law_240 : decode code 240 = .ok (.iconst 1, 1) := by decide +kernel
theorem d_LA_law_241 : decode code 241 = .ok (.goto 4, 3) := by decide +kernel
theorem d_LA_law_244 : decode code 244 = .ok (.iconst 0, 1) := by decide +kernel
theorem d_LA_law_245 : decode code 245 = .ok (.invokevirtual 36, 3) := by decide +kernel
theorem d_LA_law_248 : decode code 248 = .ok (.if_icmp .eq 103, 3) := by decide +kernel
theorem d_LA_law_251 : decode code 251 = .ok (.iconst 0, 1) := by decide +kernel
theorem d_LA_law_252 : decode code 252 = .ok (.ireturn, 1) := by decide +kernel
theorem d_LA_law_253 : decode code 253 = .ok (.aload_n 1, 1) := by decide +kernel
theorem d_LA_law_254 : decode code 254 = .ok (.invokevirtual 37, 3) := by decide +kernel
theorem d_LA_law_257 : decode code 257 = .ok (.aload_n 2, 1) := by decide +kernel
theorem d_LA_law_258 : decode code 258 = .ok (.invokevirtual 40, 3) := by decide +kernel
theorem d_LA_law_261 : decode code 261 = .ok (.if_icmp .eq 90, 3) := by decide +kernel
theorem d_LA_law_264 : decode code 264 = .ok (.iconst 0, 1) := by decide +kernel
theorem d_LA_law_265 : decode code 265 = .ok (.ireturn, 1) := by decide +kernel
theorem d_LA_law_266 : decode code 266 = .ok (.aload_n 1, 1) := by decide +kernel
theorem d_LA_law_267 : decode code 267 = .ok (.aload_n 0, 1) := by decide +kernel
theorem d_LA_law_268 : decode code 268 = .ok (.iload_n 3, 1) := by decide +kernel
theorem d_LA_law_269 : decode code 269 = .ok (.iconst 1, 1) := by decide +kernel
theorem d_LA_law_270 : decode code 270 = .ok (.iadd, 1) := by decide +kernel
theorem d_LA_law_271 : decode code 271 = .ok (.iaload, 1) := by decide +kernel
theorem d_LA_law_272 : decode code 272 = .ok (.invokevirtual 41, 3) := by decide +kernel
theorem d_LA_law_275 : decode code 275 = .ok (.aload_n 2, 1) := by decide +kernel
theorem d_LA_law_276 : decode code 276 = .ok (.aload_n 0, 1) := by decide +kernel
theorem d_LA_law_277 : decode code 277 = .ok (.iload_n 3, 1) := by decide +kernel
theorem d_LA_law_278 : decode code 278 = .ok (.iconst 1, 1) := by decide +kernel
theorem d_LA_law_279 : decode code 279 = .ok (.iadd, 1) := by decide +kernel
theorem d_LA_law_280 : decode code 280 = .ok (.iaload, 1) := by decide +kernel
theorem d_LA_law_281 : decode code 281 = .ok (.invokevirtual 44, 3) := by decide +kernel
theorem d_LA_law_284 : decode code 284 = .ok (.if_icmp .eq 67, 3) := by decide +kernel
theorem d_LA_law_287 : decode code 287 = .ok (.iconst 0, 1) := by decide +kernel
theorem d_LA_law_288 : decode code 288 = .ok (.ireturn, 1) := by decide +kernel
theorem d_LA_law_289 : decode code 289 = .ok (.aload_n 1, 1) := by decide +kernel
theorem d_LA_law_290 : decode code 290 = .ok (.invokevirtual 45, 3) := by decide +kernel
theorem d_LA_law_293 : decode code 293 = .ok (.aload_n 2, 1) := by decide +kernel
theorem d_LA_law_294 : decode code 294 = .ok (.invokevirtual 48, 3) := by decide +kernel
theorem d_LA_law_297 : decode code 297 = .ok (.if_icmp .eq 54, 3) := by decide +kernel
theorem d_LA_law_300 : decode code 300 = .ok (.iconst 0, 1) := by decide +kernel
theorem d_LA_law_301 : decode code 301 = .ok (.ireturn, 1) := by decide +kernel
theorem d_LA_law_302 : decode code 302 = .ok (.aload_n 1, 1) := by decide +kernel
theorem d_LA_law_303 : decode code 303 = .ok (.invokevirtual 49, 3) := by decide +kernel
theorem d_LA_law_306 : decode code 306 = .ok (.aload_n 2, 1) := by decide +kernel
theorem d_LA_law_307 : decode code 307 = .ok (.invokevirtual 52, 3) := by decide +kernel
theorem d_LA_law_310 : decode code 310 = .ok (.if_icmp .eq 41, 3) := by decide +kernel
theorem d_LA_law_313 : decode code 313 = .ok (.iconst 0, 1) := by decide +kernel
theorem d_LA_law_314 : decode code 314 = .ok (.ireturn, 1) := by decide +kernel
theorem d_LA_law_315 : decode code 315 = .ok (.aload_n 1, 1) := by decide +kernel
theorem d_LA_law_316 : decode code 316 = .ok (.aload_n 0, 1) := by decide +kernel
theorem d_LA_law_317 : decode code 317 = .ok (.iload_n 3, 1) := by decide +kernel
theorem d_LA_law_318 : decode code 318 = .ok (.iconst 1, 1) := by decide +kernel
theorem d_LA_law_319 : decode code 319 = .ok (.iadd, 1) := by decide +kernel
theorem d_LA_law_320 : decode code 320 = .ok (.iaload, 1) := by decide +kernel
theorem d_LA_law_321 : decode code 321 = .ok (.invokevirtual 53, 3) := by decide +kernel
theorem d_LA_law_324 : decode code 324 = .ok (.aload_n 2, 1) := by decide +kernel
theorem d_LA_law_325 : decode code 325 = .ok (.aload_n 0, 1) := by decide +kernel
theorem d_LA_law_326 : decode code 326 = .ok (.iload_n 3, 1) := by decide +kernel
theorem d_LA_law_327 : decode code 327 = .ok (.iconst 1, 1) := by decide +kernel
theorem d_LA_law_328 : decode code 328 = .ok (.iadd, 1) := by decide +kernel
theorem d_LA_law_329 : decode code 329 = .ok (.iaload, 1) := by decide +kernel
theorem d_LA_law_330 : decode code 330 = .ok (.invokevirtual 56, 3) := by decide +kernel
theorem d_LA_law_333 : decode code 333 = .ok (.if_icmp .eq 18, 3) := by decide +kernel
theorem d_LA_law_336 : decode code 336 = .ok (.iconst 0, 1) := by decide +kernel
theorem d_LA_law_337 : decode code 337 = .ok (.ireturn, 1) := by decide +kernel
theorem d_LA_law_338 : decode code 338 = .ok (.aload_n 1, 1) := by decide +kernel
theorem d_LA_law_339 : decode code 339 = .ok (.invokevirtual 57, 3) := by decide +kernel
theorem d_LA_law_342 : decode code 342 = .ok (.aload_n 2, 1) := by decide +kernel
theorem d_LA_law_343 : decode code 343 = .ok (.invokevirtual 60, 3) := by decide +kernel
theorem d_LA_law_346 : decode code 346 = .ok (.if_icmp .eq 5, 3) := by decide +kernel
theorem d_LA_law_349 : decode code 349 = .ok (.iconst 0, 1) := by decide +kernel
theorem d_LA_law_350 : decode code 350 = .ok (.ireturn, 1) := by decide +kernel
theorem d_LA_law_351 : decode code 351 = .ok (.iinc 3 4, 3) := by decide +kernel
theorem d_LA_law_354 : decode code 354 = .ok (.goto (-336), 3) := by decide +kernel
theorem d_LA_law_357 : decode code 357 = .ok (.iconst 1, 1) := by decide +kernel
theorem d_LA_law_358 : decode code 358 = .ok (.ireturn, 1) := by decide +kernel
