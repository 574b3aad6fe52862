theorem dY_law_0 : decode (am_by jY_law) 0 = .ok (.new 7, 3) := by decide +kernel
theorem dY_law_3 : decode (am_by jY_law) 3 = .ok (.dup, 1) := by decide +kernel
theorem dY_law_4 : decode (am_by jY_law) 4 = .ok (.invokespecial 9, 3) := by decide +kernel
theorem dY_law_7 : decode (am_by jY_law) 7 = .ok (.astore_n 1, 1) := by decide +kernel
theorem dY_law_8 : decode (am_by jY_law) 8 = .ok (.new 10, 3) := by decide +kernel
theorem dY_law_11 : decode (am_by jY_law) 11 = .ok (.dup, 1) := by decide +kernel
theorem dY_law_12 : decode (am_by jY_law) 12 = .ok (.invokespecial 12, 3) := by decide +kernel
theorem dY_law_15 : decode (am_by jY_law) 15 = .ok (.astore_n 2, 1) := by decide +kernel
theorem dY_law_16 : decode (am_by jY_law) 16 = .ok (.iconst 0, 1) := by decide +kernel
theorem dY_law_17 : decode (am_by jY_law) 17 = .ok (.istore_n 3, 1) := by decide +kernel
theorem dY_law_18 : decode (am_by jY_law) 18 = .ok (.iload_n 3, 1) := by decide +kernel
theorem dY_law_19 : decode (am_by jY_law) 19 = .ok (.aload_n 0, 1) := by decide +kernel
theorem dY_law_20 : decode (am_by jY_law) 20 = .ok (.arraylength, 1) := by decide +kernel
theorem dY_law_21 : decode (am_by jY_law) 21 = .ok (.bipush 7, 2) := by decide +kernel
theorem dY_law_23 : decode (am_by jY_law) 23 = .ok (.isub, 1) := by decide +kernel
theorem dY_law_24 : decode (am_by jY_law) 24 = .ok (.if_icmp .gt 760, 3) := by decide +kernel
theorem dY_law_27 : decode (am_by jY_law) 27 = .ok (.aload_n 0, 1) := by decide +kernel
theorem dY_law_28 : decode (am_by jY_law) 28 = .ok (.iload_n 3, 1) := by decide +kernel
theorem dY_law_29 : decode (am_by jY_law) 29 = .ok (.iaload, 1) := by decide +kernel
theorem dY_law_30 : decode (am_by jY_law) 30 = .ok (.bipush 15, 2) := by decide +kernel
theorem dY_law_32 : decode (am_by jY_law) 32 = .ok (.iand, 1) := by decide +kernel
theorem dY_law_33 : decode (am_by jY_law) 33 = .ok (.tableswitch 745 0 15 #[79, 102, 115, 174, 227, 290, 353, 376, 419, 494, 517, 540, 593, 626, 659, 702], 79) := by decide +kernel
theorem dY_law_112 : decode (am_by jY_law) 112 = .ok (.aload_n 1, 1) := by decide +kernel
theorem dY_law_113 : decode (am_by jY_law) 113 = .ok (.aload_n 0, 1) := by decide +kernel
theorem dY_law_114 : decode (am_by jY_law) 114 = .ok (.iload_n 3, 1) := by decide +kernel
theorem dY_law_115 : decode (am_by jY_law) 115 = .ok (.iconst 1, 1) := by decide +kernel
theorem dY_law_116 : decode (am_by jY_law) 116 = .ok (.iadd, 1) := by decide +kernel
theorem dY_law_117 : decode (am_by jY_law) 117 = .ok (.iaload, 1) := by decide +kernel
theorem dY_law_118 : decode (am_by jY_law) 118 = .ok (.invokevirtual 13, 3) := by decide +kernel
theorem dY_law_121 : decode (am_by jY_law) 121 = .ok (.aload_n 2, 1) := by decide +kernel
theorem dY_law_122 : decode (am_by jY_law) 122 = .ok (.aload_n 0, 1) := by decide +kernel
theorem dY_law_123 : decode (am_by jY_law) 123 = .ok (.iload_n 3, 1) := by decide +kernel
theorem dY_law_124 : decode (am_by jY_law) 124 = .ok (.iconst 1, 1) := by decide +kernel
theorem dY_law_125 : decode (am_by jY_law) 125 = .ok (.iadd, 1) := by decide +kernel
theorem dY_law_126 : decode (am_by jY_law) 126 = .ok (.iaload, 1) := by decide +kernel
theorem dY_law_127 : decode (am_by jY_law) 127 = .ok (.invokevirtual 17, 3) := by decide +kernel
theorem dY_law_130 : decode (am_by jY_law) 130 = .ok (.if_icmp .eq 648, 3) := by decide +kernel
theorem dY_law_133 : decode (am_by jY_law) 133 = .ok (.iconst 0, 1) := by decide +kernel
theorem dY_law_134 : decode (am_by jY_law) 134 = .ok (.ireturn, 1) := by decide +kernel
theorem dY_law_135 : decode (am_by jY_law) 135 = .ok (.aload_n 1, 1) := by decide +kernel
theorem dY_law_136 : decode (am_by jY_law) 136 = .ok (.invokevirtual 18, 3) := by decide +kernel
theorem dY_law_139 : decode (am_by jY_law) 139 = .ok (.aload_n 2, 1) := by decide +kernel
theorem dY_law_140 : decode (am_by jY_law) 140 = .ok (.invokevirtual 22, 3) := by decide +kernel
theorem dY_law_143 : decode (am_by jY_law) 143 = .ok (.if_icmp .eq 635, 3) := by decide +kernel
theorem dY_law_146 : decode (am_by jY_law) 146 = .ok (.iconst 0, 1) := by decide +kernel
theorem dY_law_147 : decode (am_by jY_law) 147 = .ok (.ireturn, 1) := by decide +kernel
theorem dY_law_148 : decode (am_by jY_law) 148 = .ok (.aload_n 1, 1) := by decide +kernel
theorem dY_law_149 : decode (am_by jY_law) 149 = .ok (.aload_n 0, 1) := by decide +kernel
theorem dY_law_150 : decode (am_by jY_law) 150 = .ok (.iload_n 3, 1) := by decide +kernel
theorem dY_law_151 : decode (am_by jY_law) 151 = .ok (.iconst 1, 1) := by decide +kernel
theorem dY_law_152 : decode (am_by jY_law) 152 = .ok (.iadd, 1) := by decide +kernel
theorem dY_law_153 : decode (am_by jY_law) 153 = .ok (.iaload, 1) := by decide +kernel
theorem dY_law_154 : decode (am_by jY_law) 154 = .ok (.aload_n 0, 1) := by decide +kernel
theorem dY_law_155 : decode (am_by jY_law) 155 = .ok (.iload_n 3, 1) := by decide +kernel
theorem dY_law_156 : decode (am_by jY_law) 156 = .ok (.iconst 2, 1) := by decide +kernel
theorem dY_law_157 : decode (am_by jY_law) 157 = .ok (.iadd, 1) := by decide +kernel
theorem dY_law_158 : decode (am_by jY_law) 158 = .ok (.iaload, 1) := by decide +kernel
theorem dY_law_159 : decode (am_by jY_law) 159 = .ok (.aload_n 0, 1) := by decide +kernel
theorem dY_law_160 : decode (am_by jY_law) 160 = .ok (.iload_n 3, 1) := by decide +kernel
theorem dY_law_161 : decode (am_by jY_law) 161 = .ok (.iconst 3, 1) := by decide +kernel
theorem dY_law_162 : decode (am_by jY_law) 162 = .ok (.iadd, 1) := by decide +kernel
theorem dY_law_163 : decode (am_by jY_law) 163 = .ok (.iaload, 1) := by decide +kernel
theorem dY_law_164 : decode (am_by jY_law) 164 = .ok (.ifCond .eq 7, 3) := by decide +kernel
theorem dY_law_167 : decode (am_by jY_law) 167 = .ok (.iconst 1, 1) := by decide +kernel
theorem dY_law_168 : decode (am_by jY_law) 168 = .ok (.goto 4, 3) := by decide +kernel
theorem dY_law_171 : decode (am_by jY_law) 171 = .ok (.iconst 0, 1) := by decide +kernel
theorem dY_law_172 : decode (am_by jY_law) 172 = .ok (.invokevirtual 23, 3) := by decide +kernel
theorem dY_law_175 : decode (am_by jY_law) 175 = .ok (.aload_n 2, 1) := by decide +kernel
theorem dY_law_176 : decode (am_by jY_law) 176 = .ok (.aload_n 0, 1) := by decide +kernel
theorem dY_law_177 : decode (am_by jY_law) 177 = .ok (.iload_n 3, 1) := by decide +kernel
theorem dY_law_178 : decode (am_by jY_law) 178 = .ok (.iconst 1, 1) := by decide +kernel
theorem dY_law_179 : decode (am_by jY_law) 179 = .ok (.iadd, 1) := by decide +kernel
theorem dY_law_180 : decode (am_by jY_law) 180 = .ok (.iaload, 1) := by decide +kernel
theorem dY_law_181 : decode (am_by jY_law) 181 = .ok (.aload_n 0, 1) := by decide +kernel
theorem dY_law_182 : decode (am_by jY_law) 182 = .ok (.iload_n 3, 1) := by decide +kernel
theorem dY_law_183 : decode (am_by jY_law) 183 = .ok (.iconst 2, 1) := by decide +kernel
theorem dY_law_184 : decode (am_by jY_law) 184 = .ok (.iadd, 1) := by decide +kernel
theorem dY_law_185 : decode (am_by jY_law) 185 = .ok (.iaload, 1) := by decide +kernel
theorem dY_law_186 : decode (am_by jY_law) 186 = .ok (.aload_n 0, 1) := by decide +kernel
theorem dY_law_187 : decode (am_by jY_law) 187 = .ok (.iload_n 3, 1) := by decide +kernel
theorem dY_law_188 : decode (am_by jY_law) 188 = .ok (.iconst 3, 1) := by decide +kernel
theorem dY_law_189 : decode (am_by jY_law) 189 = .ok (.iadd, 1) := by decide +kernel
theorem dY_law_190 : decode (am_by jY_law) 190 = .ok (.iaload, 1) := by decide +kernel
theorem dY_law_191 : decode (am_by jY_law) 191 = .ok (.ifCond .eq 7, 3) := by decide +kernel
theorem dY_law_194 : decode (am_by jY_law) 194 = .ok (.iconst 1, 1) := by decide +kernel
theorem dY_law_195 : decode (am_by jY_law) 195 = .ok (.goto 4, 3) := by decide +kernel
theorem dY_law_198 : decode (am_by jY_law) 198 = .ok (.iconst 0, 1) := by decide +kernel
theorem dY_law_199 : decode (am_by jY_law) 199 = .ok (.invokevirtual 27, 3) := by decide +kernel
theorem dY_law_202 : decode (am_by jY_law) 202 = .ok (.if_icmp .eq 576, 3) := by decide +kernel
theorem dY_law_205 : decode (am_by jY_law) 205 = .ok (.iconst 0, 1) := by decide +kernel
theorem dY_law_206 : decode (am_by jY_law) 206 = .ok (.ireturn, 1) := by decide +kernel
theorem dY_law_207 : decode (am_by jY_law) 207 = .ok (.aload_n 1, 1) := by decide +kernel
theorem dY_law_208 : decode (am_by jY_law) 208 = .ok (.aload_n 0, 1) := by decide +kernel
theorem dY_law_209 : decode (am_by jY_law) 209 = .ok (.iload_n 3, 1) := by decide +kernel
theorem dY_law_210 : decode (am_by jY_law) 210 = .ok (.iconst 1, 1) := by decide +kernel
theorem dY_law_211 : decode (am_by jY_law) 211 = .ok (.iadd, 1) := by decide +kernel
theorem dY_law_212 : decode (am_by jY_law) 212 = .ok (.iaload, 1) := by decide +kernel
theorem dY_law_213 : decode (am_by jY_law) 213 = .ok (.aload_n 0, 1) := by decide +kernel
theorem dY_law_214 : decode (am_by jY_law) 214 = .ok (.iload_n 3, 1) := by decide +kernel
theorem dY_law_215 : decode (am_by jY_law) 215 = .ok (.iconst 2, 1) := by decide +kernel
theorem dY_law_216 : decode (am_by jY_law) 216 = .ok (.iadd, 1) := by decide +kernel
theorem dY_law_217 : decode (am_by jY_law) 217 = .ok (.iaload, 1) := by decide +kernel
theorem dY_law_218 : decode (am_by jY_law) 218 = .ok (.aload_n 0, 1) := by decide +kernel
theorem dY_law_219 : decode (am_by jY_law) 219 = .ok (.iload_n 3, 1) := by decide +kernel
theorem dY_law_220 : decode (am_by jY_law) 220 = .ok (.iconst 3, 1) := by decide +kernel
theorem dY_law_221 : decode (am_by jY_law) 221 = .ok (.iadd, 1) := by decide +kernel
theorem dY_law_222 : decode (am_by jY_law) 222 = .ok (.iaload, 1) := by decide +kernel
theorem dY_law_223 : decode (am_by jY_law) 223 = .ok (.aload_n 0, 1) := by decide +kernel
theorem dY_law_224 : decode (am_by jY_law) 224 = .ok (.iload_n 3, 1) := by decide +kernel
theorem dY_law_225 : decode (am_by jY_law) 225 = .ok (.iconst 4, 1) := by decide +kernel
theorem dY_law_226 : decode (am_by jY_law) 226 = .ok (.iadd, 1) := by decide +kernel
theorem dY_law_227 : decode (am_by jY_law) 227 = .ok (.iaload, 1) := by decide +kernel
theorem dY_law_228 : decode (am_by jY_law) 228 = .ok (.invokevirtual 28, 3) := by decide +kernel
theorem dY_law_231 : decode (am_by jY_law) 231 = .ok (.aload_n 2, 1) := by decide +kernel
theorem dY_law_232 : decode (am_by jY_law) 232 = .ok (.aload_n 0, 1) := by decide +kernel
theorem dY_law_233 : decode (am_by jY_law) 233 = .ok (.iload_n 3, 1) := by decide +kernel
theorem dY_law_234 : decode (am_by jY_law) 234 = .ok (.iconst 1, 1) := by decide +kernel
theorem dY_law_235 : decode (am_by jY_law) 235 = .ok (.iadd, 1) := by decide +kernel
theorem dY_law_236 : decode (am_by jY_law) 236 = .ok (.iaload, 1) := by decide +kernel
theorem dY_law_237 : decode (am_by jY_law) 237 = .ok (.aload_n 0, 1) := by decide +kernel
theorem dY_law_238 : decode (am_by jY_law) 238 = .ok (.iload_n 3, 1) := by decide +kernel
theorem dY_law_239 : decode (am_by jY_law) 239 = .ok (.iconst 2, 1) := by decide +kernel
theorem dY_law_240 : decode (am_by jY_law) 240 = .ok (.iadd, 1) := by decide +kernel
theorem dY_law_241 : decode (am_by jY_law) 241 = .ok (.iaload, 1) := by decide +kernel
theorem dY_law_242 : decode (am_by jY_law) 242 = .ok (.aload_n 0, 1) := by decide +kernel
theorem dY_law_243 : decode (am_by jY_law) 243 = .ok (.iload_n 3, 1) := by decide +kernel
theorem dY_law_244 : decode (am_by jY_law) 244 = .ok (.iconst 3, 1) := by decide +kernel
theorem dY_law_245 : decode (am_by jY_law) 245 = .ok (.iadd, 1) := by decide +kernel
theorem dY_law_246 : decode (am_by jY_law) 246 = .ok (.iaload, 1) := by decide +kernel
theorem dY_law_247 : decode (am_by jY_law) 247 = .ok (.aload_n 0, 1) := by decide +kernel
theorem dY_law_248 : decode (am_by jY_law) 248 = .ok (.iload_n 3, 1) := by decide +kernel
theorem dY_law_249 : decode (am_by jY_law) 249 = .ok (.iconst 4, 1) := by decide +kernel
theorem dY_law_250 : decode (am_by jY_law) 250 = .ok (.iadd, 1) := by decide +kernel
theorem dY_law_251 : decode (am_by jY_law) 251 = .ok (.iaload, 1) := by decide +kernel
theorem dY_law_252 : decode (am_by jY_law) 252 = .ok (.invokevirtual 32, 3) := by decide +kernel
theorem dY_law_255 : decode (am_by jY_law) 255 = .ok (.if_icmp .eq 523, 3) := by decide +kernel
theorem dY_law_258 : decode (am_by jY_law) 258 = .ok (.iconst 0, 1) := by decide +kernel
theorem dY_law_259 : decode (am_by jY_law) 259 = .ok (.ireturn, 1) := by decide +kernel
theorem dY_law_260 : decode (am_by jY_law) 260 = .ok (.aload_n 1, 1) := by decide +kernel
theorem dY_law_261 : decode (am_by jY_law) 261 = .ok (.aload_n 0, 1) := by decide +kernel
theorem dY_law_262 : decode (am_by jY_law) 262 = .ok (.iload_n 3, 1) := by decide +kernel
theorem dY_law_263 : decode (am_by jY_law) 263 = .ok (.iconst 1, 1) := by decide +kernel
theorem dY_law_264 : decode (am_by jY_law) 264 = .ok (.iadd, 1) := by decide +kernel
theorem dY_law_265 : decode (am_by jY_law) 265 = .ok (.iaload, 1) := by decide +kernel
theorem dY_law_266 : decode (am_by jY_law) 266 = .ok (.aload_n 0, 1) := by decide +kernel
theorem dY_law_267 : decode (am_by jY_law) 267 = .ok (.iload_n 3, 1) := by decide +kernel
theorem dY_law_268 : decode (am_by jY_law) 268 = .ok (.iconst 2, 1) := by decide +kernel
theorem dY_law_269 : decode (am_by jY_law) 269 = .ok (.iadd, 1) := by decide +kernel
theorem dY_law_270 : decode (am_by jY_law) 270 = .ok (.iaload, 1) := by decide +kernel
theorem dY_law_271 : decode (am_by jY_law) 271 = .ok (.aload_n 0, 1) := by decide +kernel
theorem dY_law_272 : decode (am_by jY_law) 272 = .ok (.iload_n 3, 1) := by decide +kernel
theorem dY_law_273 : decode (am_by jY_law) 273 = .ok (.iconst 3, 1) := by decide +kernel
theorem dY_law_274 : decode (am_by jY_law) 274 = .ok (.iadd, 1) := by decide +kernel
theorem dY_law_275 : decode (am_by jY_law) 275 = .ok (.iaload, 1) := by decide +kernel
theorem dY_law_276 : decode (am_by jY_law) 276 = .ok (.aload_n 0, 1) := by decide +kernel
theorem dY_law_277 : decode (am_by jY_law) 277 = .ok (.iload_n 3, 1) := by decide +kernel
theorem dY_law_278 : decode (am_by jY_law) 278 = .ok (.iconst 4, 1) := by decide +kernel
theorem dY_law_279 : decode (am_by jY_law) 279 = .ok (.iadd, 1) := by decide +kernel
theorem dY_law_280 : decode (am_by jY_law) 280 = .ok (.iaload, 1) := by decide +kernel
theorem dY_law_281 : decode (am_by jY_law) 281 = .ok (.aload_n 0, 1) := by decide +kernel
theorem dY_law_282 : decode (am_by jY_law) 282 = .ok (.iload_n 3, 1) := by decide +kernel
theorem dY_law_283 : decode (am_by jY_law) 283 = .ok (.iconst 5, 1) := by decide +kernel
theorem dY_law_284 : decode (am_by jY_law) 284 = .ok (.iadd, 1) := by decide +kernel
theorem dY_law_285 : decode (am_by jY_law) 285 = .ok (.iaload, 1) := by decide +kernel
theorem dY_law_286 : decode (am_by jY_law) 286 = .ok (.invokevirtual 33, 3) := by decide +kernel
theorem dY_law_289 : decode (am_by jY_law) 289 = .ok (.aload_n 2, 1) := by decide +kernel
theorem dY_law_290 : decode (am_by jY_law) 290 = .ok (.aload_n 0, 1) := by decide +kernel
theorem dY_law_291 : decode (am_by jY_law) 291 = .ok (.iload_n 3, 1) := by decide +kernel
theorem dY_law_292 : decode (am_by jY_law) 292 = .ok (.iconst 1, 1) := by decide +kernel
theorem dY_law_293 : decode (am_by jY_law) 293 = .ok (.iadd, 1) := by decide +kernel
theorem dY_law_294 : decode (am_by jY_law) 294 = .ok (.iaload, 1) := by decide +kernel
theorem dY_law_295 : decode (am_by jY_law) 295 = .ok (.aload_n 0, 1) := by decide +kernel
theorem dY_law_296 : decode (am_by jY_law) 296 = .ok (.iload_n 3, 1) := by decide +kernel
theorem dY_law_297 : decode (am_by jY_law) 297 = .ok (.iconst 2, 1) := by decide +kernel
theorem dY_law_298 : decode (am_by jY_law) 298 = .ok (.iadd, 1) := by decide +kernel
theorem dY_law_299 : decode (am_by jY_law) 299 = .ok (.iaload, 1) := by decide +kernel
theorem dY_law_300 : decode (am_by jY_law) 300 = .ok (.aload_n 0, 1) := by decide +kernel
theorem dY_law_301 : decode (am_by jY_law) 301 = .ok (.iload_n 3, 1) := by decide +kernel
theorem dY_law_302 : decode (am_by jY_law) 302 = .ok (.iconst 3, 1) := by decide +kernel
theorem dY_law_303 : decode (am_by jY_law) 303 = .ok (.iadd, 1) := by decide +kernel
theorem dY_law_304 : decode (am_by jY_law) 304 = .ok (.iaload, 1) := by decide +kernel
theorem dY_law_305 : decode (am_by jY_law) 305 = .ok (.aload_n 0, 1) := by decide +kernel
theorem dY_law_306 : decode (am_by jY_law) 306 = .ok (.iload_n 3, 1) := by decide +kernel
theorem dY_law_307 : decode (am_by jY_law) 307 = .ok (.iconst 4, 1) := by decide +kernel
theorem dY_law_308 : decode (am_by jY_law) 308 = .ok (.iadd, 1) := by decide +kernel
theorem dY_law_309 : decode (am_by jY_law) 309 = .ok (.iaload, 1) := by decide +kernel
theorem dY_law_310 : decode (am_by jY_law) 310 = .ok (.aload_n 0, 1) := by decide +kernel
theorem dY_law_311 : decode (am_by jY_law) 311 = .ok (.iload_n 3, 1) := by decide +kernel
theorem dY_law_312 : decode (am_by jY_law) 312 = .ok (.iconst 5, 1) := by decide +kernel
theorem dY_law_313 : decode (am_by jY_law) 313 = .ok (.iadd, 1) := by decide +kernel
theorem dY_law_314 : decode (am_by jY_law) 314 = .ok (.iaload, 1) := by decide +kernel
theorem dY_law_315 : decode (am_by jY_law) 315 = .ok (.invokevirtual 37, 3) := by decide +kernel
theorem dY_law_318 : decode (am_by jY_law) 318 = .ok (.if_icmp .eq 460, 3) := by decide +kernel
theorem dY_law_321 : decode (am_by jY_law) 321 = .ok (.iconst 0, 1) := by decide +kernel
theorem dY_law_322 : decode (am_by jY_law) 322 = .ok (.ireturn, 1) := by decide +kernel
theorem dY_law_323 : decode (am_by jY_law) 323 = .ok (.aload_n 1, 1) := by decide +kernel
theorem dY_law_324 : decode (am_by jY_law) 324 = .ok (.aload_n 0, 1) := by decide +kernel
theorem dY_law_325 : decode (am_by jY_law) 325 = .ok (.iload_n 3, 1) := by decide +kernel
theorem dY_law_326 : decode (am_by jY_law) 326 = .ok (.iconst 1, 1) := by decide +kernel
theorem dY_law_327 : decode (am_by jY_law) 327 = .ok (.iadd, 1) := by decide +kernel
theorem dY_law_328 : decode (am_by jY_law) 328 = .ok (.iaload, 1) := by decide +kernel
theorem dY_law_329 : decode (am_by jY_law) 329 = .ok (.aload_n 0, 1) := by decide +kernel
theorem dY_law_330 : decode (am_by jY_law) 330 = .ok (.iload_n 3, 1) := by decide +kernel
theorem dY_law_331 : decode (am_by jY_law) 331 = .ok (.iconst 2, 1) := by decide +kernel
theorem dY_law_332 : decode (am_by jY_law) 332 = .ok (.iadd, 1) := by decide +kernel
theorem dY_law_333 : decode (am_by jY_law) 333 = .ok (.iaload, 1) := by decide +kernel
theorem dY_law_334 : decode (am_by jY_law) 334 = .ok (.aload_n 0, 1) := by decide +kernel
theorem dY_law_335 : decode (am_by jY_law) 335 = .ok (.iload_n 3, 1) := by decide +kernel
theorem dY_law_336 : decode (am_by jY_law) 336 = .ok (.iconst 3, 1) := by decide +kernel
theorem dY_law_337 : decode (am_by jY_law) 337 = .ok (.iadd, 1) := by decide +kernel
theorem dY_law_338 : decode (am_by jY_law) 338 = .ok (.iaload, 1) := by decide +kernel
theorem dY_law_339 : decode (am_by jY_law) 339 = .ok (.aload_n 0, 1) := by decide +kernel
theorem dY_law_340 : decode (am_by jY_law) 340 = .ok (.iload_n 3, 1) := by decide +kernel
theorem dY_law_341 : decode (am_by jY_law) 341 = .ok (.iconst 4, 1) := by decide +kernel
theorem dY_law_342 : decode (am_by jY_law) 342 = .ok (.iadd, 1) := by decide +kernel
theorem dY_law_343 : decode (am_by jY_law) 343 = .ok (.iaload, 1) := by decide +kernel
theorem dY_law_344 : decode (am_by jY_law) 344 = .ok (.aload_n 0, 1) := by decide +kernel
theorem dY_law_345 : decode (am_by jY_law) 345 = .ok (.iload_n 3, 1) := by decide +kernel
theorem dY_law_346 : decode (am_by jY_law) 346 = .ok (.iconst 5, 1) := by decide +kernel
theorem dY_law_347 : decode (am_by jY_law) 347 = .ok (.iadd, 1) := by decide +kernel
theorem dY_law_348 : decode (am_by jY_law) 348 = .ok (.iaload, 1) := by decide +kernel
theorem dY_law_349 : decode (am_by jY_law) 349 = .ok (.invokevirtual 38, 3) := by decide +kernel
theorem dY_law_352 : decode (am_by jY_law) 352 = .ok (.aload_n 2, 1) := by decide +kernel
theorem dY_law_353 : decode (am_by jY_law) 353 = .ok (.aload_n 0, 1) := by decide +kernel
theorem dY_law_354 : decode (am_by jY_law) 354 = .ok (.iload_n 3, 1) := by decide +kernel
theorem dY_law_355 : decode (am_by jY_law) 355 = .ok (.iconst 1, 1) := by decide +kernel
theorem dY_law_356 : decode (am_by jY_law) 356 = .ok (.iadd, 1) := by decide +kernel
theorem dY_law_357 : decode (am_by jY_law) 357 = .ok (.iaload, 1) := by decide +kernel
theorem dY_law_358 : decode (am_by jY_law) 358 = .ok (.aload_n 0, 1) := by decide +kernel
theorem dY_law_359 : decode (am_by jY_law) 359 = .ok (.iload_n 3, 1) := by decide +kernel
theorem dY_law_360 : decode (am_by jY_law) 360 = .ok (.iconst 2, 1) := by decide +kernel
theorem dY_law_361 : decode (am_by jY_law) 361 = .ok (.iadd, 1) := by decide +kernel
theorem dY_law_362 : decode (am_by jY_law) 362 = .ok (.iaload, 1) := by decide +kernel
theorem dY_law_363 : decode (am_by jY_law) 363 = .ok (.aload_n 0, 1) := by decide +kernel
theorem dY_law_364 : decode (am_by jY_law) 364 = .ok (.iload_n 3, 1) := by decide +kernel
theorem dY_law_365 : decode (am_by jY_law) 365 = .ok (.iconst 3, 1) := by decide +kernel
theorem dY_law_366 : decode (am_by jY_law) 366 = .ok (.iadd, 1) := by decide +kernel
theorem dY_law_367 : decode (am_by jY_law) 367 = .ok (.iaload, 1) := by decide +kernel
theorem dY_law_368 : decode (am_by jY_law) 368 = .ok (.aload_n 0, 1) := by decide +kernel
theorem dY_law_369 : decode (am_by jY_law) 369 = .ok (.iload_n 3, 1) := by decide +kernel
theorem dY_law_370 : decode (am_by jY_law) 370 = .ok (.iconst 4, 1) := by decide +kernel
theorem dY_law_371 : decode (am_by jY_law) 371 = .ok (.iadd, 1) := by decide +kernel
theorem dY_law_372 : decode (am_by jY_law) 372 = .ok (.iaload, 1) := by decide +kernel
theorem dY_law_373 : decode (am_by jY_law) 373 = .ok (.aload_n 0, 1) := by decide +kernel
theorem dY_law_374 : decode (am_by jY_law) 374 = .ok (.iload_n 3, 1) := by decide +kernel
theorem dY_law_375 : decode (am_by jY_law) 375 = .ok (.iconst 5, 1) := by decide +kernel
theorem dY_law_376 : decode (am_by jY_law) 376 = .ok (.iadd, 1) := by decide +kernel
theorem dY_law_377 : decode (am_by jY_law) 377 = .ok (.iaload, 1) := by decide +kernel
theorem dY_law_378 : decode (am_by jY_law) 378 = .ok (.invokevirtual 42, 3) := by decide +kernel
theorem dY_law_381 : decode (am_by jY_law) 381 = .ok (.if_icmp .eq 397, 3) := by decide +kernel
theorem dY_law_384 : decode (am_by jY_law) 384 = .ok (.iconst 0, 1) := by decide +kernel
theorem dY_law_385 : decode (am_by jY_law) 385 = .ok (.ireturn, 1) := by decide +kernel
theorem dY_law_386 : decode (am_by jY_law) 386 = .ok (.aload_n 1, 1) := by decide +kernel
theorem dY_law_387 : decode (am_by jY_law) 387 = .ok (.aload_n 0, 1) := by decide +kernel
theorem dY_law_388 : decode (am_by jY_law) 388 = .ok (.iload_n 3, 1) := by decide +kernel
theorem dY_law_389 : decode (am_by jY_law) 389 = .ok (.iconst 1, 1) := by decide +kernel
theorem dY_law_390 : decode (am_by jY_law) 390 = .ok (.iadd, 1) := by decide +kernel
theorem dY_law_391 : decode (am_by jY_law) 391 = .ok (.iaload, 1) := by decide +kernel
theorem dY_law_392 : decode (am_by jY_law) 392 = .ok (.invokevirtual 43, 3) := by decide +kernel
theorem dY_law_395 : decode (am_by jY_law) 395 = .ok (.aload_n 2, 1) := by decide +kernel
theorem dY_law_396 : decode (am_by jY_law) 396 = .ok (.aload_n 0, 1) := by decide +kernel
theorem dY_law_397 : decode (am_by jY_law) 397 = .ok (.iload_n 3, 1) := by decide +kernel
theorem dY_law_398 : decode (am_by jY_law) 398 = .ok (.iconst 1, 1) := by decide +kernel
theorem dY_law_399 : decode (am_by jY_law) 399 = .ok (.iadd, 1) := by decide +kernel
theorem dY_law_400 : decode (am_by jY_law) 400 = .ok (.iaload, 1) := by decide +kernel
theorem dY_law_401 : decode (am_by jY_law) 401 = .ok (.invokevirtual 47, 3) := by decide +kernel
theorem dY_law_404 : decode (am_by jY_law) 404 = .ok (.if_icmp .eq 374, 3) := by decide +kernel
theorem dY_law_407 : decode (am_by jY_law) 407 = .ok (.iconst 0, 1) := by decide +kernel
theorem dY_law_408 : decode (am_by jY_law) 408 = .ok (.ireturn, 1) := by decide +kernel
theorem dY_law_409 : decode (am_by jY_law) 409 = .ok (.aload_n 1, 1) := by decide +kernel
theorem dY_law_410 : decode (am_by jY_law) 410 = .ok (.aload_n 0, 1) := by decide +kernel
theorem dY_law_411 : decode (am_by jY_law) 411 = .ok (.iload_n 3, 1) := by decide +kernel
theorem dY_law_412 : decode (am_by jY_law) 412 = .ok (.iconst 1, 1) := by decide +kernel
theorem dY_law_413 : decode (am_by jY_law) 413 = .ok (.iadd, 1) := by decide +kernel
theorem dY_law_414 : decode (am_by jY_law) 414 = .ok (.iaload, 1) := by decide +kernel
theorem dY_law_415 : decode (am_by jY_law) 415 = .ok (.aload_n 0, 1) := by decide +kernel
theorem dY_law_416 : decode (am_by jY_law) 416 = .ok (.iload_n 3, 1) := by decide +kernel
theorem dY_law_417 : decode (am_by jY_law) 417 = .ok (.iconst 2, 1) := by decide +kernel
theorem dY_law_418 : decode (am_by jY_law) 418 = .ok (.iadd, 1) := by decide +kernel
theorem dY_law_419 : decode (am_by jY_law) 419 = .ok (.iaload, 1) := by decide +kernel
theorem dY_law_420 : decode (am_by jY_law) 420 = .ok (.aload_n 0, 1) := by decide +kernel
theorem dY_law_421 : decode (am_by jY_law) 421 = .ok (.iload_n 3, 1) := by decide +kernel
theorem dY_law_422 : decode (am_by jY_law) 422 = .ok (.iconst 3, 1) := by decide +kernel
theorem dY_law_423 : decode (am_by jY_law) 423 = .ok (.iadd, 1) := by decide +kernel
theorem dY_law_424 : decode (am_by jY_law) 424 = .ok (.iaload, 1) := by decide +kernel
theorem dY_law_425 : decode (am_by jY_law) 425 = .ok (.invokevirtual 48, 3) := by decide +kernel
theorem dY_law_428 : decode (am_by jY_law) 428 = .ok (.aload_n 2, 1) := by decide +kernel
theorem dY_law_429 : decode (am_by jY_law) 429 = .ok (.aload_n 0, 1) := by decide +kernel
theorem dY_law_430 : decode (am_by jY_law) 430 = .ok (.iload_n 3, 1) := by decide +kernel
theorem dY_law_431 : decode (am_by jY_law) 431 = .ok (.iconst 1, 1) := by decide +kernel
theorem dY_law_432 : decode (am_by jY_law) 432 = .ok (.iadd, 1) := by decide +kernel
theorem dY_law_433 : decode (am_by jY_law) 433 = .ok (.iaload, 1) := by decide +kernel
theorem dY_law_434 : decode (am_by jY_law) 434 = .ok (.aload_n 0, 1) := by decide +kernel
theorem dY_law_435 : decode (am_by jY_law) 435 = .ok (.iload_n 3, 1) := by decide +kernel
theorem dY_law_436 : decode (am_by jY_law) 436 = .ok (.iconst 2, 1) := by decide +kernel
theorem dY_law_437 : decode (am_by jY_law) 437 = .ok (.iadd, 1) := by decide +kernel
theorem dY_law_438 : decode (am_by jY_law) 438 = .ok (.iaload, 1) := by decide +kernel
theorem dY_law_439 : decode (am_by jY_law) 439 = .ok (.aload_n 0, 1) := by decide +kernel
theorem dY_law_440 : decode (am_by jY_law) 440 = .ok (.iload_n 3, 1) := by decide +kernel
theorem dY_law_441 : decode (am_by jY_law) 441 = .ok (.iconst 3, 1) := by decide +kernel
theorem dY_law_442 : decode (am_by jY_law) 442 = .ok (.iadd, 1) := by decide +kernel
theorem dY_law_443 : decode (am_by jY_law) 443 = .ok (.iaload, 1) := by decide +kernel
theorem dY_law_444 : decode (am_by jY_law) 444 = .ok (.invokevirtual 52, 3) := by decide +kernel
theorem dY_law_447 : decode (am_by jY_law) 447 = .ok (.if_icmp .eq 331, 3) := by decide +kernel
theorem dY_law_450 : decode (am_by jY_law) 450 = .ok (.iconst 0, 1) := by decide +kernel
theorem dY_law_451 : decode (am_by jY_law) 451 = .ok (.ireturn, 1) := by decide +kernel
theorem dY_law_452 : decode (am_by jY_law) 452 = .ok (.aload_n 1, 1) := by decide +kernel
theorem dY_law_453 : decode (am_by jY_law) 453 = .ok (.aload_n 0, 1) := by decide +kernel
theorem dY_law_454 : decode (am_by jY_law) 454 = .ok (.iload_n 3, 1) := by decide +kernel
theorem dY_law_455 : decode (am_by jY_law) 455 = .ok (.iconst 1, 1) := by decide +kernel
theorem dY_law_456 : decode (am_by jY_law) 456 = .ok (.iadd, 1) := by decide +kernel
theorem dY_law_457 : decode (am_by jY_law) 457 = .ok (.iaload, 1) := by decide +kernel
theorem dY_law_458 : decode (am_by jY_law) 458 = .ok (.aload_n 0, 1) := by decide +kernel
theorem dY_law_459 : decode (am_by jY_law) 459 = .ok (.iload_n 3, 1) := by decide +kernel
theorem dY_law_460 : decode (am_by jY_law) 460 = .ok (.iconst 2, 1) := by decide +kernel
theorem dY_law_461 : decode (am_by jY_law) 461 = .ok (.iadd, 1) := by decide +kernel
theorem dY_law_462 : decode (am_by jY_law) 462 = .ok (.iaload, 1) := by decide +kernel
theorem dY_law_463 : decode (am_by jY_law) 463 = .ok (.aload_n 0, 1) := by decide +kernel
theorem dY_law_464 : decode (am_by jY_law) 464 = .ok (.iload_n 3, 1) := by decide +kernel
theorem dY_law_465 : decode (am_by jY_law) 465 = .ok (.iconst 3, 1) := by decide +kernel
theorem dY_law_466 : decode (am_by jY_law) 466 = .ok (.iadd, 1) := by decide +kernel
theorem dY_law_467 : decode (am_by jY_law) 467 = .ok (.iaload, 1) := by decide +kernel
theorem dY_law_468 : decode (am_by jY_law) 468 = .ok (.aload_n 0, 1) := by decide +kernel
theorem dY_law_469 : decode (am_by jY_law) 469 = .ok (.iload_n 3, 1) := by decide +kernel
theorem dY_law_470 : decode (am_by jY_law) 470 = .ok (.iconst 4, 1) := by decide +kernel
theorem dY_law_471 : decode (am_by jY_law) 471 = .ok (.iadd, 1) := by decide +kernel
theorem dY_law_472 : decode (am_by jY_law) 472 = .ok (.iaload, 1) := by decide +kernel
theorem dY_law_473 : decode (am_by jY_law) 473 = .ok (.aload_n 0, 1) := by decide +kernel
theorem dY_law_474 : decode (am_by jY_law) 474 = .ok (.iload_n 3, 1) := by decide +kernel
theorem dY_law_475 : decode (am_by jY_law) 475 = .ok (.iconst 5, 1) := by decide +kernel
theorem dY_law_476 : decode (am_by jY_law) 476 = .ok (.iadd, 1) := by decide +kernel
theorem dY_law_477 : decode (am_by jY_law) 477 = .ok (.iaload, 1) := by decide +kernel
theorem dY_law_478 : decode (am_by jY_law) 478 = .ok (.aload_n 0, 1) := by decide +kernel
theorem dY_law_479 : decode (am_by jY_law) 479 = .ok (.iload_n 3, 1) := by decide +kernel
theorem dY_law_480 : decode (am_by jY_law) 480 = .ok (.bipush 6, 2) := by decide +kernel
theorem dY_law_482 : decode (am_by jY_law) 482 = .ok (.iadd, 1) := by decide +kernel
theorem dY_law_483 : decode (am_by jY_law) 483 = .ok (.iaload, 1) := by decide +kernel
theorem dY_law_484 : decode (am_by jY_law) 484 = .ok (.invokevirtual 53, 3) := by decide +kernel
theorem dY_law_487 : decode (am_by jY_law) 487 = .ok (.aload_n 2, 1) := by decide +kernel
theorem dY_law_488 : decode (am_by jY_law) 488 = .ok (.aload_n 0, 1) := by decide +kernel
theorem dY_law_489 : decode (am_by jY_law) 489 = .ok (.iload_n 3, 1) := by decide +kernel
theorem dY_law_490 : decode (am_by jY_law) 490 = .ok (.iconst 1, 1) := by decide +kernel
theorem dY_law_491 : decode (am_by jY_law) 491 = .ok (.iadd, 1) := by decide +kernel
theorem dY_law_492 : decode (am_by jY_law) 492 = .ok (.iaload, 1) := by decide +kernel
theorem dY_law_493 : decode (am_by jY_law) 493 = .ok (.aload_n 0, 1) := by decide +kernel
theorem dY_law_494 : decode (am_by jY_law) 494 = .ok (.iload_n 3, 1) := by decide +kernel
theorem dY_law_495 : decode (am_by jY_law) 495 = .ok (.iconst 2, 1) := by decide +kernel
theorem dY_law_496 : decode (am_by jY_law) 496 = .ok (.iadd, 1) := by decide +kernel
theorem dY_law_497 : decode (am_by jY_law) 497 = .ok (.iaload, 1) := by decide +kernel
theorem dY_law_498 : decode (am_by jY_law) 498 = .ok (.aload_n 0, 1) := by decide +kernel
theorem dY_law_499 : decode (am_by jY_law) 499 = .ok (.iload_n 3, 1) := by decide +kernel
theorem dY_law_500 : decode (am_by jY_law) 500 = .ok (.iconst 3, 1) := by decide +kernel
theorem dY_law_501 : decode (am_by jY_law) 501 = .ok (.iadd, 1) := by decide +kernel
theorem dY_law_502 : decode (am_by jY_law) 502 = .ok (.iaload, 1) := by decide +kernel
theorem dY_law_503 : decode (am_by jY_law) 503 = .ok (.aload_n 0, 1) := by decide +kernel
theorem dY_law_504 : decode (am_by jY_law) 504 = .ok (.iload_n 3, 1) := by decide +kernel
theorem dY_law_505 : decode (am_by jY_law) 505 = .ok (.iconst 4, 1) := by decide +kernel
theorem dY_law_506 : decode (am_by jY_law) 506 = .ok (.iadd, 1) := by decide +kernel
theorem dY_law_507 : decode (am_by jY_law) 507 = .ok (.iaload, 1) := by decide +kernel
theorem dY_law_508 : decode (am_by jY_law) 508 = .ok (.aload_n 0, 1) := by decide +kernel
theorem dY_law_509 : decode (am_by jY_law) 509 = .ok (.iload_n 3, 1) := by decide +kernel
theorem dY_law_510 : decode (am_by jY_law) 510 = .ok (.iconst 5, 1) := by decide +kernel
theorem dY_law_511 : decode (am_by jY_law) 511 = .ok (.iadd, 1) := by decide +kernel
theorem dY_law_512 : decode (am_by jY_law) 512 = .ok (.iaload, 1) := by decide +kernel
theorem dY_law_513 : decode (am_by jY_law) 513 = .ok (.aload_n 0, 1) := by decide +kernel
theorem dY_law_514 : decode (am_by jY_law) 514 = .ok (.iload_n 3, 1) := by decide +kernel
theorem dY_law_515 : decode (am_by jY_law) 515 = .ok (.bipush 6, 2) := by decide +kernel
theorem dY_law_517 : decode (am_by jY_law) 517 = .ok (.iadd, 1) := by decide +kernel
theorem dY_law_518 : decode (am_by jY_law) 518 = .ok (.iaload, 1) := by decide +kernel
theorem dY_law_519 : decode (am_by jY_law) 519 = .ok (.invokevirtual 57, 3) := by decide +kernel
theorem dY_law_522 : decode (am_by jY_law) 522 = .ok (.if_icmp .eq 256, 3) := by decide +kernel
theorem dY_law_525 : decode (am_by jY_law) 525 = .ok (.iconst 0, 1) := by decide +kernel
theorem dY_law_526 : decode (am_by jY_law) 526 = .ok (.ireturn, 1) := by decide +kernel
theorem dY_law_527 : decode (am_by jY_law) 527 = .ok (.aload_n 1, 1) := by decide +kernel
theorem dY_law_528 : decode (am_by jY_law) 528 = .ok (.aload_n 0, 1) := by decide +kernel
theorem dY_law_529 : decode (am_by jY_law) 529 = .ok (.iload_n 3, 1) := by decide +kernel
theorem dY_law_530 : decode (am_by jY_law) 530 = .ok (.iconst 1, 1) := by decide +kernel
theorem dY_law_531 : decode (am_by jY_law) 531 = .ok (.iadd, 1) := by decide +kernel
theorem dY_law_532 : decode (am_by jY_law) 532 = .ok (.iaload, 1) := by decide +kernel
theorem dY_law_533 : decode (am_by jY_law) 533 = .ok (.invokevirtual 58, 3) := by decide +kernel
theorem dY_law_536 : decode (am_by jY_law) 536 = .ok (.aload_n 2, 1) := by decide +kernel
theorem dY_law_537 : decode (am_by jY_law) 537 = .ok (.aload_n 0, 1) := by decide +kernel
theorem dY_law_538 : decode (am_by jY_law) 538 = .ok (.iload_n 3, 1) := by decide +kernel
theorem dY_law_539 : decode (am_by jY_law) 539 = .ok (.iconst 1, 1) := by decide +kernel
theorem dY_law_540 : decode (am_by jY_law) 540 = .ok (.iadd, 1) := by decide +kernel
theorem dY_law_541 : decode (am_by jY_law) 541 = .ok (.iaload, 1) := by decide +kernel
theorem dY_law_542 : decode (am_by jY_law) 542 = .ok (.invokevirtual 61, 3) := by decide +kernel
theorem dY_law_545 : decode (am_by jY_law) 545 = .ok (.if_icmp .eq 233, 3) := by decide +kernel
theorem dY_law_548 : decode (am_by jY_law) 548 = .ok (.iconst 0, 1) := by decide +kernel
theorem dY_law_549 : decode (am_by jY_law) 549 = .ok (.ireturn, 1) := by decide +kernel
theorem dY_law_550 : decode (am_by jY_law) 550 = .ok (.aload_n 1, 1) := by decide +kernel
theorem dY_law_551 : decode (am_by jY_law) 551 = .ok (.aload_n 0, 1) := by decide +kernel
theorem dY_law_552 : decode (am_by jY_law) 552 = .ok (.iload_n 3, 1) := by decide +kernel
theorem dY_law_553 : decode (am_by jY_law) 553 = .ok (.iconst 1, 1) := by decide +kernel
theorem dY_law_554 : decode (am_by jY_law) 554 = .ok (.iadd, 1) := by decide +kernel
theorem dY_law_555 : decode (am_by jY_law) 555 = .ok (.iaload, 1) := by decide +kernel
theorem dY_law_556 : decode (am_by jY_law) 556 = .ok (.invokevirtual 62, 3) := by decide +kernel
theorem dY_law_559 : decode (am_by jY_law) 559 = .ok (.aload_n 2, 1) := by decide +kernel
theorem dY_law_560 : decode (am_by jY_law) 560 = .ok (.aload_n 0, 1) := by decide +kernel
theorem dY_law_561 : decode (am_by jY_law) 561 = .ok (.iload_n 3, 1) := by decide +kernel
theorem dY_law_562 : decode (am_by jY_law) 562 = .ok (.iconst 1, 1) := by decide +kernel
theorem dY_law_563 : decode (am_by jY_law) 563 = .ok (.iadd, 1) := by decide +kernel
theorem dY_law_564 : decode (am_by jY_law) 564 = .ok (.iaload, 1) := by decide +kernel
theorem dY_law_565 : decode (am_by jY_law) 565 = .ok (.invokevirtual 65, 3) := by decide +kernel
theorem dY_law_568 : decode (am_by jY_law) 568 = .ok (.if_icmp .eq 210, 3) := by decide +kernel
theorem dY_law_571 : decode (am_by jY_law) 571 = .ok (.iconst 0, 1) := by decide +kernel
theorem dY_law_572 : decode (am_by jY_law) 572 = .ok (.ireturn, 1) := by decide +kernel
theorem dY_law_573 : decode (am_by jY_law) 573 = .ok (.aload_n 1, 1) := by decide +kernel
theorem dY_law_574 : decode (am_by jY_law) 574 = .ok (.aload_n 0, 1) := by decide +kernel
theorem dY_law_575 : decode (am_by jY_law) 575 = .ok (.iload_n 3, 1) := by decide +kernel
theorem dY_law_576 : decode (am_by jY_law) 576 = .ok (.iconst 1, 1) := by decide +kernel
theorem dY_law_577 : decode (am_by jY_law) 577 = .ok (.iadd, 1) := by decide +kernel
theorem dY_law_578 : decode (am_by jY_law) 578 = .ok (.iaload, 1) := by decide +kernel
theorem dY_law_579 : decode (am_by jY_law) 579 = .ok (.aload_n 0, 1) := by decide +kernel
theorem dY_law_580 : decode (am_by jY_law) 580 = .ok (.iload_n 3, 1) := by decide +kernel
theorem dY_law_581 : decode (am_by jY_law) 581 = .ok (.iconst 2, 1) := by decide +kernel
theorem dY_law_582 : decode (am_by jY_law) 582 = .ok (.iadd, 1) := by decide +kernel
theorem dY_law_583 : decode (am_by jY_law) 583 = .ok (.iaload, 1) := by decide +kernel
theorem dY_law_584 : decode (am_by jY_law) 584 = .ok (.aload_n 0, 1) := by decide +kernel
theorem dY_law_585 : decode (am_by jY_law) 585 = .ok (.iload_n 3, 1) := by decide +kernel
theorem dY_law_586 : decode (am_by jY_law) 586 = .ok (.iconst 3, 1) := by decide +kernel
theorem dY_law_587 : decode (am_by jY_law) 587 = .ok (.iadd, 1) := by decide +kernel
theorem dY_law_588 : decode (am_by jY_law) 588 = .ok (.iaload, 1) := by decide +kernel
theorem dY_law_589 : decode (am_by jY_law) 589 = .ok (.aload_n 0, 1) := by decide +kernel
theorem dY_law_590 : decode (am_by jY_law) 590 = .ok (.iload_n 3, 1) := by decide +kernel
theorem dY_law_591 : decode (am_by jY_law) 591 = .ok (.iconst 4, 1) := by decide +kernel
theorem dY_law_592 : decode (am_by jY_law) 592 = .ok (.iadd, 1) := by decide +kernel
theorem dY_law_593 : decode (am_by jY_law) 593 = .ok (.iaload, 1) := by decide +kernel
theorem dY_law_594 : decode (am_by jY_law) 594 = .ok (.invokevirtual 66, 3) := by decide +kernel
theorem dY_law_597 : decode (am_by jY_law) 597 = .ok (.aload_n 2, 1) := by decide +kernel
theorem dY_law_598 : decode (am_by jY_law) 598 = .ok (.aload_n 0, 1) := by decide +kernel
theorem dY_law_599 : decode (am_by jY_law) 599 = .ok (.iload_n 3, 1) := by decide +kernel
theorem dY_law_600 : decode (am_by jY_law) 600 = .ok (.iconst 1, 1) := by decide +kernel
theorem dY_law_601 : decode (am_by jY_law) 601 = .ok (.iadd, 1) := by decide +kernel
theorem dY_law_602 : decode (am_by jY_law) 602 = .ok (.iaload, 1) := by decide +kernel
theorem dY_law_603 : decode (am_by jY_law) 603 = .ok (.aload_n 0, 1) := by decide +kernel
theorem dY_law_604 : decode (am_by jY_law) 604 = .ok (.iload_n 3, 1) := by decide +kernel
theorem dY_law_605 : decode (am_by jY_law) 605 = .ok (.iconst 2, 1) := by decide +kernel
theorem dY_law_606 : decode (am_by jY_law) 606 = .ok (.iadd, 1) := by decide +kernel
theorem dY_law_607 : decode (am_by jY_law) 607 = .ok (.iaload, 1) := by decide +kernel
theorem dY_law_608 : decode (am_by jY_law) 608 = .ok (.aload_n 0, 1) := by decide +kernel
theorem dY_law_609 : decode (am_by jY_law) 609 = .ok (.iload_n 3, 1) := by decide +kernel
theorem dY_law_610 : decode (am_by jY_law) 610 = .ok (.iconst 3, 1) := by decide +kernel
theorem dY_law_611 : decode (am_by jY_law) 611 = .ok (.iadd, 1) := by decide +kernel
theorem dY_law_612 : decode (am_by jY_law) 612 = .ok (.iaload, 1) := by decide +kernel
theorem dY_law_613 : decode (am_by jY_law) 613 = .ok (.aload_n 0, 1) := by decide +kernel
theorem dY_law_614 : decode (am_by jY_law) 614 = .ok (.iload_n 3, 1) := by decide +kernel
theorem dY_law_615 : decode (am_by jY_law) 615 = .ok (.iconst 4, 1) := by decide +kernel
theorem dY_law_616 : decode (am_by jY_law) 616 = .ok (.iadd, 1) := by decide +kernel
theorem dY_law_617 : decode (am_by jY_law) 617 = .ok (.iaload, 1) := by decide +kernel
theorem dY_law_618 : decode (am_by jY_law) 618 = .ok (.invokevirtual 69, 3) := by decide +kernel
theorem dY_law_621 : decode (am_by jY_law) 621 = .ok (.if_icmp .eq 157, 3) := by decide +kernel
theorem dY_law_624 : decode (am_by jY_law) 624 = .ok (.iconst 0, 1) := by decide +kernel
theorem dY_law_625 : decode (am_by jY_law) 625 = .ok (.ireturn, 1) := by decide +kernel
theorem dY_law_626 : decode (am_by jY_law) 626 = .ok (.aload_n 1, 1) := by decide +kernel
theorem dY_law_627 : decode (am_by jY_law) 627 = .ok (.aload_n 0, 1) := by decide +kernel
theorem dY_law_628 : decode (am_by jY_law) 628 = .ok (.iload_n 3, 1) := by decide +kernel
theorem dY_law_629 : decode (am_by jY_law) 629 = .ok (.iconst 1, 1) := by decide +kernel
theorem dY_law_630 : decode (am_by jY_law) 630 = .ok (.iadd, 1) := by decide +kernel
theorem dY_law_631 : decode (am_by jY_law) 631 = .ok (.iaload, 1) := by decide +kernel
theorem dY_law_632 : decode (am_by jY_law) 632 = .ok (.aload_n 0, 1) := by decide +kernel
theorem dY_law_633 : decode (am_by jY_law) 633 = .ok (.iload_n 3, 1) := by decide +kernel
theorem dY_law_634 : decode (am_by jY_law) 634 = .ok (.iconst 2, 1) := by decide +kernel
theorem dY_law_635 : decode (am_by jY_law) 635 = .ok (.iadd, 1) := by decide +kernel
theorem dY_law_636 : decode (am_by jY_law) 636 = .ok (.iaload, 1) := by decide +kernel
theorem dY_law_637 : decode (am_by jY_law) 637 = .ok (.invokevirtual 70, 3) := by decide +kernel
theorem dY_law_640 : decode (am_by jY_law) 640 = .ok (.aload_n 2, 1) := by decide +kernel
theorem dY_law_641 : decode (am_by jY_law) 641 = .ok (.aload_n 0, 1) := by decide +kernel
theorem dY_law_642 : decode (am_by jY_law) 642 = .ok (.iload_n 3, 1) := by decide +kernel
theorem dY_law_643 : decode (am_by jY_law) 643 = .ok (.iconst 1, 1) := by decide +kernel
theorem dY_law_644 : decode (am_by jY_law) 644 = .ok (.iadd, 1) := by decide +kernel
theorem dY_law_645 : decode (am_by jY_law) 645 = .ok (.iaload, 1) := by decide +kernel
theorem dY_law_646 : decode (am_by jY_law) 646 = .ok (.aload_n 0, 1) := by decide +kernel
theorem dY_law_647 : decode (am_by jY_law) 647 = .ok (.iload_n 3, 1) := by decide +kernel
theorem dY_law_648 : decode (am_by jY_law) 648 = .ok (.iconst 2, 1) := by decide +kernel
theorem dY_law_649 : decode (am_by jY_law) 649 = .ok (.iadd, 1) := by decide +kernel
theorem dY_law_650 : decode (am_by jY_law) 650 = .ok (.iaload, 1) := by decide +kernel
theorem dY_law_651 : decode (am_by jY_law) 651 = .ok (.invokevirtual 74, 3) := by decide +kernel
theorem dY_law_654 : decode (am_by jY_law) 654 = .ok (.if_icmp .eq 124, 3) := by decide +kernel
theorem dY_law_657 : decode (am_by jY_law) 657 = .ok (.iconst 0, 1) := by decide +kernel
theorem dY_law_658 : decode (am_by jY_law) 658 = .ok (.ireturn, 1) := by decide +kernel
theorem dY_law_659 : decode (am_by jY_law) 659 = .ok (.aload_n 1, 1) := by decide +kernel
theorem dY_law_660 : decode (am_by jY_law) 660 = .ok (.aload_n 0, 1) := by decide +kernel
theorem dY_law_661 : decode (am_by jY_law) 661 = .ok (.iload_n 3, 1) := by decide +kernel
theorem dY_law_662 : decode (am_by jY_law) 662 = .ok (.iconst 1, 1) := by decide +kernel
theorem dY_law_663 : decode (am_by jY_law) 663 = .ok (.iadd, 1) := by decide +kernel
theorem dY_law_664 : decode (am_by jY_law) 664 = .ok (.iaload, 1) := by decide +kernel
theorem dY_law_665 : decode (am_by jY_law) 665 = .ok (.aload_n 0, 1) := by decide +kernel
theorem dY_law_666 : decode (am_by jY_law) 666 = .ok (.iload_n 3, 1) := by decide +kernel
theorem dY_law_667 : decode (am_by jY_law) 667 = .ok (.iconst 2, 1) := by decide +kernel
theorem dY_law_668 : decode (am_by jY_law) 668 = .ok (.iadd, 1) := by decide +kernel
theorem dY_law_669 : decode (am_by jY_law) 669 = .ok (.iaload, 1) := by decide +kernel
theorem dY_law_670 : decode (am_by jY_law) 670 = .ok (.invokevirtual 75, 3) := by decide +kernel
theorem dY_law_673 : decode (am_by jY_law) 673 = .ok (.aload_n 2, 1) := by decide +kernel
theorem dY_law_674 : decode (am_by jY_law) 674 = .ok (.aload_n 0, 1) := by decide +kernel
theorem dY_law_675 : decode (am_by jY_law) 675 = .ok (.iload_n 3, 1) := by decide +kernel
theorem dY_law_676 : decode (am_by jY_law) 676 = .ok (.iconst 1, 1) := by decide +kernel
theorem dY_law_677 : decode (am_by jY_law) 677 = .ok (.iadd, 1) := by decide +kernel
theorem dY_law_678 : decode (am_by jY_law) 678 = .ok (.iaload, 1) := by decide +kernel
theorem dY_law_679 : decode (am_by jY_law) 679 = .ok (.aload_n 0, 1) := by decide +kernel
theorem dY_law_680 : decode (am_by jY_law) 680 = .ok (.iload_n 3, 1) := by decide +kernel
theorem dY_law_681 : decode (am_by jY_law) 681 = .ok (.iconst 2, 1) := by decide +kernel
theorem dY_law_682 : decode (am_by jY_law) 682 = .ok (.iadd, 1) := by decide +kernel
theorem dY_law_683 : decode (am_by jY_law) 683 = .ok (.iaload, 1) := by decide +kernel
theorem dY_law_684 : decode (am_by jY_law) 684 = .ok (.invokevirtual 78, 3) := by decide +kernel
theorem dY_law_687 : decode (am_by jY_law) 687 = .ok (.if_icmp .eq 91, 3) := by decide +kernel
theorem dY_law_690 : decode (am_by jY_law) 690 = .ok (.iconst 0, 1) := by decide +kernel
theorem dY_law_691 : decode (am_by jY_law) 691 = .ok (.ireturn, 1) := by decide +kernel
theorem dY_law_692 : decode (am_by jY_law) 692 = .ok (.aload_n 1, 1) := by decide +kernel
theorem dY_law_693 : decode (am_by jY_law) 693 = .ok (.aload_n 0, 1) := by decide +kernel
theorem dY_law_694 : decode (am_by jY_law) 694 = .ok (.iload_n 3, 1) := by decide +kernel
theorem dY_law_695 : decode (am_by jY_law) 695 = .ok (.iconst 1, 1) := by decide +kernel
theorem dY_law_696 : decode (am_by jY_law) 696 = .ok (.iadd, 1) := by decide +kernel
theorem dY_law_697 : decode (am_by jY_law) 697 = .ok (.iaload, 1) := by decide +kernel
theorem dY_law_698 : decode (am_by jY_law) 698 = .ok (.aload_n 0, 1) := by decide +kernel
theorem dY_law_699 : decode (am_by jY_law) 699 = .ok (.iload_n 3, 1) := by decide +kernel
theorem dY_law_700 : decode (am_by jY_law) 700 = .ok (.iconst 2, 1) := by decide +kernel
theorem dY_law_701 : decode (am_by jY_law) 701 = .ok (.iadd, 1) := by decide +kernel
theorem dY_law_702 : decode (am_by jY_law) 702 = .ok (.iaload, 1) := by decide +kernel
theorem dY_law_703 : decode (am_by jY_law) 703 = .ok (.aload_n 0, 1) := by decide +kernel
theorem dY_law_704 : decode (am_by jY_law) 704 = .ok (.iload_n 3, 1) := by decide +kernel
theorem dY_law_705 : decode (am_by jY_law) 705 = .ok (.iconst 3, 1) := by decide +kernel
theorem dY_law_706 : decode (am_by jY_law) 706 = .ok (.iadd, 1) := by decide +kernel
theorem dY_law_707 : decode (am_by jY_law) 707 = .ok (.iaload, 1) := by decide +kernel
theorem dY_law_708 : decode (am_by jY_law) 708 = .ok (.invokevirtual 79, 3) := by decide +kernel
theorem dY_law_711 : decode (am_by jY_law) 711 = .ok (.aload_n 2, 1) := by decide +kernel
theorem dY_law_712 : decode (am_by jY_law) 712 = .ok (.aload_n 0, 1) := by decide +kernel
theorem dY_law_713 : decode (am_by jY_law) 713 = .ok (.iload_n 3, 1) := by decide +kernel
theorem dY_law_714 : decode (am_by jY_law) 714 = .ok (.iconst 1, 1) := by decide +kernel
theorem dY_law_715 : decode (am_by jY_law) 715 = .ok (.iadd, 1) := by decide +kernel
theorem dY_law_716 : decode (am_by jY_law) 716 = .ok (.iaload, 1) := by decide +kernel
theorem dY_law_717 : decode (am_by jY_law) 717 = .ok (.aload_n 0, 1) := by decide +kernel
theorem dY_law_718 : decode (am_by jY_law) 718 = .ok (.iload_n 3, 1) := by decide +kernel
theorem dY_law_719 : decode (am_by jY_law) 719 = .ok (.iconst 2, 1) := by decide +kernel
theorem dY_law_720 : decode (am_by jY_law) 720 = .ok (.iadd, 1) := by decide +kernel
theorem dY_law_721 : decode (am_by jY_law) 721 = .ok (.iaload, 1) := by decide +kernel
theorem dY_law_722 : decode (am_by jY_law) 722 = .ok (.aload_n 0, 1) := by decide +kernel
theorem dY_law_723 : decode (am_by jY_law) 723 = .ok (.iload_n 3, 1) := by decide +kernel
theorem dY_law_724 : decode (am_by jY_law) 724 = .ok (.iconst 3, 1) := by decide +kernel
theorem dY_law_725 : decode (am_by jY_law) 725 = .ok (.iadd, 1) := by decide +kernel
theorem dY_law_726 : decode (am_by jY_law) 726 = .ok (.iaload, 1) := by decide +kernel
theorem dY_law_727 : decode (am_by jY_law) 727 = .ok (.invokevirtual 82, 3) := by decide +kernel
theorem dY_law_730 : decode (am_by jY_law) 730 = .ok (.if_icmp .eq 48, 3) := by decide +kernel
theorem dY_law_733 : decode (am_by jY_law) 733 = .ok (.iconst 0, 1) := by decide +kernel
theorem dY_law_734 : decode (am_by jY_law) 734 = .ok (.ireturn, 1) := by decide +kernel
theorem dY_law_735 : decode (am_by jY_law) 735 = .ok (.aload_n 1, 1) := by decide +kernel
theorem dY_law_736 : decode (am_by jY_law) 736 = .ok (.aload_n 0, 1) := by decide +kernel
theorem dY_law_737 : decode (am_by jY_law) 737 = .ok (.iload_n 3, 1) := by decide +kernel
theorem dY_law_738 : decode (am_by jY_law) 738 = .ok (.iconst 1, 1) := by decide +kernel
theorem dY_law_739 : decode (am_by jY_law) 739 = .ok (.iadd, 1) := by decide +kernel
theorem dY_law_740 : decode (am_by jY_law) 740 = .ok (.iaload, 1) := by decide +kernel
theorem dY_law_741 : decode (am_by jY_law) 741 = .ok (.aload_n 0, 1) := by decide +kernel
theorem dY_law_742 : decode (am_by jY_law) 742 = .ok (.iload_n 3, 1) := by decide +kernel
theorem dY_law_743 : decode (am_by jY_law) 743 = .ok (.iconst 2, 1) := by decide +kernel
theorem dY_law_744 : decode (am_by jY_law) 744 = .ok (.iadd, 1) := by decide +kernel
theorem dY_law_745 : decode (am_by jY_law) 745 = .ok (.iaload, 1) := by decide +kernel
theorem dY_law_746 : decode (am_by jY_law) 746 = .ok (.aload_n 0, 1) := by decide +kernel
theorem dY_law_747 : decode (am_by jY_law) 747 = .ok (.iload_n 3, 1) := by decide +kernel
theorem dY_law_748 : decode (am_by jY_law) 748 = .ok (.iconst 3, 1) := by decide +kernel
theorem dY_law_749 : decode (am_by jY_law) 749 = .ok (.iadd, 1) := by decide +kernel
theorem dY_law_750 : decode (am_by jY_law) 750 = .ok (.iaload, 1) := by decide +kernel
theorem dY_law_751 : decode (am_by jY_law) 751 = .ok (.invokevirtual 83, 3) := by decide +kernel
theorem dY_law_754 : decode (am_by jY_law) 754 = .ok (.aload_n 2, 1) := by decide +kernel
theorem dY_law_755 : decode (am_by jY_law) 755 = .ok (.aload_n 0, 1) := by decide +kernel
theorem dY_law_756 : decode (am_by jY_law) 756 = .ok (.iload_n 3, 1) := by decide +kernel
theorem dY_law_757 : decode (am_by jY_law) 757 = .ok (.iconst 1, 1) := by decide +kernel
theorem dY_law_758 : decode (am_by jY_law) 758 = .ok (.iadd, 1) := by decide +kernel
theorem dY_law_759 : decode (am_by jY_law) 759 = .ok (.iaload, 1) := by decide +kernel
theorem dY_law_760 : decode (am_by jY_law) 760 = .ok (.aload_n 0, 1) := by decide +kernel
theorem dY_law_761 : decode (am_by jY_law) 761 = .ok (.iload_n 3, 1) := by decide +kernel
theorem dY_law_762 : decode (am_by jY_law) 762 = .ok (.iconst 2, 1) := by decide +kernel
theorem dY_law_763 : decode (am_by jY_law) 763 = .ok (.iadd, 1) := by decide +kernel
theorem dY_law_764 : decode (am_by jY_law) 764 = .ok (.iaload, 1) := by decide +kernel
theorem dY_law_765 : decode (am_by jY_law) 765 = .ok (.aload_n 0, 1) := by decide +kernel
theorem dY_law_766 : decode (am_by jY_law) 766 = .ok (.iload_n 3, 1) := by decide +kernel
theorem dY_law_767 : decode (am_by jY_law) 767 = .ok (.iconst 3, 1) := by decide +kernel
theorem dY_law_768 : decode (am_by jY_law) 768 = .ok (.iadd, 1) := by decide +kernel
theorem dY_law_769 : decode (am_by jY_law) 769 = .ok (.iaload, 1) := by decide +kernel
theorem dY_law_770 : decode (am_by jY_law) 770 = .ok (.invokevirtual 86, 3) := by decide +kernel
theorem dY_law_773 : decode (am_by jY_law) 773 = .ok (.if_icmp .eq 5, 3) := by decide +kernel
theorem dY_law_776 : decode (am_by jY_law) 776 = .ok (.iconst 0, 1) := by decide +kernel
theorem dY_law_777 : decode (am_by jY_law) 777 = .ok (.ireturn, 1) := by decide +kernel
theorem dY_law_778 : decode (am_by jY_law) 778 = .ok (.iinc 3 7, 3) := by decide +kernel
theorem dY_law_781 : decode (am_by jY_law) 781 = .ok (.goto (-763), 3) := by decide +kernel
theorem dY_law_784 : decode (am_by jY_law) 784 = .ok (.iconst 1, 1) := by decide +kernel
theorem dY_law_785 : decode (am_by jY_law) 785 = .ok (.ireturn, 1) := by decide +kernel
