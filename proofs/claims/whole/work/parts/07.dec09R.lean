theorem dR_arrive_220 : decode (am_by jR_arrive) 220 = .ok (.baload, 1) := by decide +kernel
theorem dR_arrive_221 : decode (am_by jR_arrive) 221 = .ok (.ifCond .ne 8, 3) := by decide +kernel
theorem dR_arrive_224 : decode (am_by jR_arrive) 224 = .ok (.aload_n 0, 1) := by decide +kernel
theorem dR_arrive_225 : decode (am_by jR_arrive) 225 = .ok (.iconst 1, 1) := by decide +kernel
theorem dR_arrive_226 : decode (am_by jR_arrive) 226 = .ok (.putfield 159, 3) := by decide +kernel
theorem dR_arrive_229 : decode (am_by jR_arrive) 229 = .ok (.aload_n 0, 1) := by decide +kernel
theorem dR_arrive_230 : decode (am_by jR_arrive) 230 = .ok (.getfield 44, 3) := by decide +kernel
theorem dR_arrive_233 : decode (am_by jR_arrive) 233 = .ok (.iload_n 2, 1) := by decide +kernel
theorem dR_arrive_234 : decode (am_by jR_arrive) 234 = .ok (.iconst 1, 1) := by decide +kernel
theorem dR_arrive_235 : decode (am_by jR_arrive) 235 = .ok (.bastore, 1) := by decide +kernel
theorem dR_arrive_236 : decode (am_by jR_arrive) 236 = .ok (.aload_n 0, 1) := by decide +kernel
theorem dR_arrive_237 : decode (am_by jR_arrive) 237 = .ok (.getfield 47, 3) := by decide +kernel
theorem dR_arrive_240 : decode (am_by jR_arrive) 240 = .ok (.iload_n 2, 1) := by decide +kernel
theorem dR_arrive_241 : decode (am_by jR_arrive) 241 = .ok (.aload_n 0, 1) := by decide +kernel
theorem dR_arrive_242 : decode (am_by jR_arrive) 242 = .ok (.getfield 152, 3) := by decide +kernel
theorem dR_arrive_245 : decode (am_by jR_arrive) 245 = .ok (.iastore, 1) := by decide +kernel
theorem dR_arrive_246 : decode (am_by jR_arrive) 246 = .ok (.return_, 1) := by decide +kernel
theorem dR_move_0 : decode (am_by jR_move) 0 = .ok (.aload_n 0, 1) := by decide +kernel
theorem dR_move_1 : decode (am_by jR_move) 1 = .ok (.getfield 152, 3) := by decide +kernel
theorem dR_move_4 : decode (am_by jR_move) 4 = .ok (.ifCond .le 17, 3) := by decide +kernel
theorem dR_move_7 : decode (am_by jR_move) 7 = .ok (.aload_n 0, 1) := by decide +kernel
theorem dR_move_8 : decode (am_by jR_move) 8 = .ok (.getfield 56, 3) := by decide +kernel
theorem dR_move_11 : decode (am_by jR_move) 11 = .ok (.aload_n 0, 1) := by decide +kernel
theorem dR_move_12 : decode (am_by jR_move) 12 = .ok (.getfield 152, 3) := by decide +kernel
theorem dR_move_15 : decode (am_by jR_move) 15 = .ok (.iconst 1, 1) := by decide +kernel
theorem dR_move_16 : decode (am_by jR_move) 16 = .ok (.isub, 1) := by decide +kernel
theorem dR_move_17 : decode (am_by jR_move) 17 = .ok (.iaload, 1) := by decide +kernel
theorem dR_move_18 : decode (am_by jR_move) 18 = .ok (.goto 4, 3) := by decide +kernel
theorem dR_move_21 : decode (am_by jR_move) 21 = .ok (.iconst (-1), 1) := by decide +kernel
theorem dR_move_22 : decode (am_by jR_move) 22 = .ok (.istore_n 2, 1) := by decide +kernel
theorem dR_move_23 : decode (am_by jR_move) 23 = .ok (.aload_n 0, 1) := by decide +kernel
theorem dR_move_24 : decode (am_by jR_move) 24 = .ok (.getfield 152, 3) := by decide +kernel
theorem dR_move_27 : decode (am_by jR_move) 27 = .ok (.iconst 1, 1) := by decide +kernel
theorem dR_move_28 : decode (am_by jR_move) 28 = .ok (.if_icmp .le 17, 3) := by decide +kernel
theorem dR_move_31 : decode (am_by jR_move) 31 = .ok (.aload_n 0, 1) := by decide +kernel
theorem dR_move_32 : decode (am_by jR_move) 32 = .ok (.getfield 56, 3) := by decide +kernel
theorem dR_move_35 : decode (am_by jR_move) 35 = .ok (.aload_n 0, 1) := by decide +kernel
theorem dR_move_36 : decode (am_by jR_move) 36 = .ok (.getfield 152, 3) := by decide +kernel
theorem dR_move_39 : decode (am_by jR_move) 39 = .ok (.iconst 2, 1) := by decide +kernel
theorem dR_move_40 : decode (am_by jR_move) 40 = .ok (.isub, 1) := by decide +kernel
theorem dR_move_41 : decode (am_by jR_move) 41 = .ok (.iaload, 1) := by decide +kernel
theorem dR_move_42 : decode (am_by jR_move) 42 = .ok (.goto 4, 3) := by decide +kernel
theorem dR_move_45 : decode (am_by jR_move) 45 = .ok (.iconst (-1), 1) := by decide +kernel
theorem dR_move_46 : decode (am_by jR_move) 46 = .ok (.istore_n 3, 1) := by decide +kernel
theorem dR_move_47 : decode (am_by jR_move) 47 = .ok (.iload_n 1, 1) := by decide +kernel
theorem dR_move_48 : decode (am_by jR_move) 48 = .ok (.iconst 4, 1) := by decide +kernel
theorem dR_move_49 : decode (am_by jR_move) 49 = .ok (.if_icmp .ne 11, 3) := by decide +kernel
theorem dR_move_52 : decode (am_by jR_move) 52 = .ok (.aload_n 0, 1) := by decide +kernel
theorem dR_move_53 : decode (am_by jR_move) 53 = .ok (.iconst (-1), 1) := by decide +kernel
theorem dR_move_54 : decode (am_by jR_move) 54 = .ok (.invokevirtual 162, 3) := by decide +kernel
theorem dR_move_57 : decode (am_by jR_move) 57 = .ok (.goto 71, 3) := by decide +kernel
theorem dR_move_60 : decode (am_by jR_move) 60 = .ok (.iload_n 1, 1) := by decide +kernel
theorem dR_move_61 : decode (am_by jR_move) 61 = .ok (.iconst 5, 1) := by decide +kernel
theorem dR_move_62 : decode (am_by jR_move) 62 = .ok (.if_icmp .ne 26, 3) := by decide +kernel
theorem dR_move_65 : decode (am_by jR_move) 65 = .ok (.aload_n 0, 1) := by decide +kernel
theorem dR_move_66 : decode (am_by jR_move) 66 = .ok (.getfield 152, 3) := by decide +kernel
theorem dR_move_69 : decode (am_by jR_move) 69 = .ok (.ifCond .ne 11, 3) := by decide +kernel
theorem dR_move_72 : decode (am_by jR_move) 72 = .ok (.aload_n 0, 1) := by decide +kernel
theorem dR_move_73 : decode (am_by jR_move) 73 = .ok (.iconst 0, 1) := by decide +kernel
theorem dR_move_74 : decode (am_by jR_move) 74 = .ok (.putfield 155, 3) := by decide +kernel
theorem dR_move_77 : decode (am_by jR_move) 77 = .ok (.goto 51, 3) := by decide +kernel
theorem dR_move_80 : decode (am_by jR_move) 80 = .ok (.aload_n 0, 1) := by decide +kernel
theorem dR_move_81 : decode (am_by jR_move) 81 = .ok (.iload_n 2, 1) := by decide +kernel
theorem dR_move_82 : decode (am_by jR_move) 82 = .ok (.invokevirtual 166, 3) := by decide +kernel
theorem dR_move_85 : decode (am_by jR_move) 85 = .ok (.goto 43, 3) := by decide +kernel
theorem dR_move_88 : decode (am_by jR_move) 88 = .ok (.aload_n 0, 1) := by decide +kernel
theorem dR_move_89 : decode (am_by jR_move) 89 = .ok (.getfield 152, 3) := by decide +kernel
theorem dR_move_92 : decode (am_by jR_move) 92 = .ok (.iconst 2, 1) := by decide +kernel
theorem dR_move_93 : decode (am_by jR_move) 93 = .ok (.if_icmp .ge 11, 3) := by decide +kernel
theorem dR_move_96 : decode (am_by jR_move) 96 = .ok (.aload_n 0, 1) := by decide +kernel
theorem dR_move_97 : decode (am_by jR_move) 97 = .ok (.iconst 0, 1) := by decide +kernel
theorem dR_move_98 : decode (am_by jR_move) 98 = .ok (.putfield 155, 3) := by decide +kernel
theorem dR_move_101 : decode (am_by jR_move) 101 = .ok (.goto 27, 3) := by decide +kernel
theorem dR_move_104 : decode (am_by jR_move) 104 = .ok (.aload_n 0, 1) := by decide +kernel
theorem dR_move_105 : decode (am_by jR_move) 105 = .ok (.getfield 56, 3) := by decide +kernel
theorem dR_move_108 : decode (am_by jR_move) 108 = .ok (.aload_n 0, 1) := by decide +kernel
theorem dR_move_109 : decode (am_by jR_move) 109 = .ok (.getfield 152, 3) := by decide +kernel
theorem dR_move_112 : decode (am_by jR_move) 112 = .ok (.iconst 2, 1) := by decide +kernel
theorem dR_move_113 : decode (am_by jR_move) 113 = .ok (.isub, 1) := by decide +kernel
theorem dR_move_114 : decode (am_by jR_move) 114 = .ok (.iload_n 2, 1) := by decide +kernel
theorem dR_move_115 : decode (am_by jR_move) 115 = .ok (.iastore, 1) := by decide +kernel
theorem dR_move_116 : decode (am_by jR_move) 116 = .ok (.aload_n 0, 1) := by decide +kernel
theorem dR_move_117 : decode (am_by jR_move) 117 = .ok (.getfield 56, 3) := by decide +kernel
theorem dR_move_120 : decode (am_by jR_move) 120 = .ok (.aload_n 0, 1) := by decide +kernel
theorem dR_move_121 : decode (am_by jR_move) 121 = .ok (.getfield 152, 3) := by decide +kernel
theorem dR_move_124 : decode (am_by jR_move) 124 = .ok (.iconst 1, 1) := by decide +kernel
theorem dR_move_125 : decode (am_by jR_move) 125 = .ok (.isub, 1) := by decide +kernel
theorem dR_move_126 : decode (am_by jR_move) 126 = .ok (.iload_n 3, 1) := by decide +kernel
theorem dR_move_127 : decode (am_by jR_move) 127 = .ok (.iastore, 1) := by decide +kernel
theorem dR_move_128 : decode (am_by jR_move) 128 = .ok (.return_, 1) := by decide +kernel
theorem dR_leave_0 : decode (am_by jR_leave) 0 = .ok (.aload_n 0, 1) := by decide +kernel
theorem dR_leave_1 : decode (am_by jR_leave) 1 = .ok (.getfield 7, 3) := by decide +kernel
theorem dR_leave_4 : decode (am_by jR_leave) 4 = .ok (.bipush 60, 2) := by decide +kernel
theorem dR_leave_6 : decode (am_by jR_leave) 6 = .ok (.iload_n 1, 1) := by decide +kernel
theorem dR_leave_7 : decode (am_by jR_leave) 7 = .ok (.imul, 1) := by decide +kernel
theorem dR_leave_8 : decode (am_by jR_leave) 8 = .ok (.iload_n 2, 1) := by decide +kernel
theorem dR_leave_9 : decode (am_by jR_leave) 9 = .ok (.iadd, 1) := by decide +kernel
theorem dR_leave_10 : decode (am_by jR_leave) 10 = .ok (.iaload, 1) := by decide +kernel
theorem dR_leave_11 : decode (am_by jR_leave) 11 = .ok (.istore_n 3, 1) := by decide +kernel
theorem dR_leave_12 : decode (am_by jR_leave) 12 = .ok (.aload_n 0, 1) := by decide +kernel
theorem dR_leave_13 : decode (am_by jR_leave) 13 = .ok (.getfield 13, 3) := by decide +kernel
theorem dR_leave_16 : decode (am_by jR_leave) 16 = .ok (.bipush 60, 2) := by decide +kernel
theorem dR_leave_18 : decode (am_by jR_leave) 18 = .ok (.iload_n 1, 1) := by decide +kernel
theorem dR_leave_19 : decode (am_by jR_leave) 19 = .ok (.imul, 1) := by decide +kernel
theorem dR_leave_20 : decode (am_by jR_leave) 20 = .ok (.iload_n 2, 1) := by decide +kernel
theorem dR_leave_21 : decode (am_by jR_leave) 21 = .ok (.iadd, 1) := by decide +kernel
theorem dR_leave_22 : decode (am_by jR_leave) 22 = .ok (.iaload, 1) := by decide +kernel
theorem dR_leave_23 : decode (am_by jR_leave) 23 = .ok (.istore 4, 2) := by decide +kernel
theorem dR_leave_25 : decode (am_by jR_leave) 25 = .ok (.iload_n 3, 1) := by decide +kernel
theorem dR_leave_26 : decode (am_by jR_leave) 26 = .ok (.tableswitch 373 0 26 #[122, 125, 133, 176, 207, 207, 207, 215, 215, 215, 215, 122, 233, 241, 241, 249, 262, 275, 275, 275, 275, 283, 233, 332, 353, 233, 249], 122) := by decide +kernel
theorem dR_leave_148 : decode (am_by jR_leave) 148 = .ok (.goto 266, 3) := by decide +kernel
theorem dR_leave_151 : decode (am_by jR_leave) 151 = .ok (.aload_n 0, 1) := by decide +kernel
theorem dR_leave_152 : decode (am_by jR_leave) 152 = .ok (.iconst 0, 1) := by decide +kernel
theorem dR_leave_153 : decode (am_by jR_leave) 153 = .ok (.invokevirtual 166, 3) := by decide +kernel
theorem dR_leave_156 : decode (am_by jR_leave) 156 = .ok (.goto 258, 3) := by decide +kernel
theorem dR_leave_159 : decode (am_by jR_leave) 159 = .ok (.aload_n 0, 1) := by decide +kernel
theorem dR_leave_160 : decode (am_by jR_leave) 160 = .ok (.getfield 59, 3) := by decide +kernel
theorem dR_leave_163 : decode (am_by jR_leave) 163 = .ok (.iload 4, 2) := by decide +kernel
theorem dR_leave_165 : decode (am_by jR_leave) 165 = .ok (.iaload, 1) := by decide +kernel
theorem dR_leave_166 : decode (am_by jR_leave) 166 = .ok (.ifCond .eq 22, 3) := by decide +kernel
theorem dR_leave_169 : decode (am_by jR_leave) 169 = .ok (.aload_n 0, 1) := by decide +kernel
theorem dR_leave_170 : decode (am_by jR_leave) 170 = .ok (.getfield 59, 3) := by decide +kernel
theorem dR_leave_173 : decode (am_by jR_leave) 173 = .ok (.iload 4, 2) := by decide +kernel
theorem dR_leave_175 : decode (am_by jR_leave) 175 = .ok (.iaload, 1) := by decide +kernel
theorem dR_leave_176 : decode (am_by jR_leave) 176 = .ok (.iconst 1, 1) := by decide +kernel
theorem dR_leave_177 : decode (am_by jR_leave) 177 = .ok (.if_icmp .eq 11, 3) := by decide +kernel
theorem dR_leave_180 : decode (am_by jR_leave) 180 = .ok (.aload_n 0, 1) := by decide +kernel
theorem dR_leave_181 : decode (am_by jR_leave) 181 = .ok (.iconst 0, 1) := by decide +kernel
theorem dR_leave_182 : decode (am_by jR_leave) 182 = .ok (.putfield 155, 3) := by decide +kernel
theorem dR_leave_185 : decode (am_by jR_leave) 185 = .ok (.goto 229, 3) := by decide +kernel
theorem dR_leave_188 : decode (am_by jR_leave) 188 = .ok (.aload_n 0, 1) := by decide +kernel
theorem dR_leave_189 : decode (am_by jR_leave) 189 = .ok (.aload_n 0, 1) := by decide +kernel
theorem dR_leave_190 : decode (am_by jR_leave) 190 = .ok (.getfield 59, 3) := by decide +kernel
theorem dR_leave_193 : decode (am_by jR_leave) 193 = .ok (.iload 4, 2) := by decide +kernel
theorem dR_leave_195 : decode (am_by jR_leave) 195 = .ok (.iaload, 1) := by decide +kernel
theorem dR_leave_196 : decode (am_by jR_leave) 196 = .ok (.invokevirtual 166, 3) := by decide +kernel
theorem dR_leave_199 : decode (am_by jR_leave) 199 = .ok (.goto 215, 3) := by decide +kernel
theorem dR_leave_202 : decode (am_by jR_leave) 202 = .ok (.aload_n 0, 1) := by decide +kernel
theorem dR_leave_203 : decode (am_by jR_leave) 203 = .ok (.iconst (-1), 1) := by decide +kernel
theorem dR_leave_204 : decode (am_by jR_leave) 204 = .ok (.invokevirtual 162, 3) := by decide +kernel
theorem dR_leave_207 : decode (am_by jR_leave) 207 = .ok (.aload_n 0, 1) := by decide +kernel
theorem dR_leave_208 : decode (am_by jR_leave) 208 = .ok (.getfield 155, 3) := by decide +kernel
theorem dR_leave_211 : decode (am_by jR_leave) 211 = .ok (.ifCond .eq 203, 3) := by decide +kernel
theorem dR_leave_214 : decode (am_by jR_leave) 214 = .ok (.aload_n 0, 1) := by decide +kernel
theorem dR_leave_215 : decode (am_by jR_leave) 215 = .ok (.getfield 59, 3) := by decide +kernel
theorem dR_leave_218 : decode (am_by jR_leave) 218 = .ok (.iload 4, 2) := by decide +kernel
theorem dR_leave_220 : decode (am_by jR_leave) 220 = .ok (.aload_n 0, 1) := by decide +kernel
theorem dR_leave_221 : decode (am_by jR_leave) 221 = .ok (.getfield 56, 3) := by decide +kernel
theorem dR_leave_224 : decode (am_by jR_leave) 224 = .ok (.aload_n 0, 1) := by decide +kernel
theorem dR_leave_225 : decode (am_by jR_leave) 225 = .ok (.getfield 152, 3) := by decide +kernel
theorem dR_leave_228 : decode (am_by jR_leave) 228 = .ok (.iaload, 1) := by decide +kernel
theorem dR_leave_229 : decode (am_by jR_leave) 229 = .ok (.iastore, 1) := by decide +kernel
theorem dR_leave_230 : decode (am_by jR_leave) 230 = .ok (.goto 184, 3) := by decide +kernel
theorem dR_leave_233 : decode (am_by jR_leave) 233 = .ok (.aload_n 0, 1) := by decide +kernel
theorem dR_leave_234 : decode (am_by jR_leave) 234 = .ok (.iload_n 3, 1) := by decide +kernel
theorem dR_leave_235 : decode (am_by jR_leave) 235 = .ok (.invokevirtual 169, 3) := by decide +kernel
theorem dR_leave_238 : decode (am_by jR_leave) 238 = .ok (.goto 176, 3) := by decide +kernel
theorem dR_leave_241 : decode (am_by jR_leave) 241 = .ok (.aload_n 0, 1) := by decide +kernel
theorem dR_leave_242 : decode (am_by jR_leave) 242 = .ok (.iconst 0, 1) := by decide +kernel
theorem dR_leave_243 : decode (am_by jR_leave) 243 = .ok (.invokevirtual 162, 3) := by decide +kernel
theorem dR_leave_246 : decode (am_by jR_leave) 246 = .ok (.aload_n 0, 1) := by decide +kernel
theorem dR_leave_247 : decode (am_by jR_leave) 247 = .ok (.iconst 0, 1) := by decide +kernel
theorem dR_leave_248 : decode (am_by jR_leave) 248 = .ok (.invokevirtual 162, 3) := by decide +kernel
theorem dR_leave_251 : decode (am_by jR_leave) 251 = .ok (.aload_n 0, 1) := by decide +kernel
theorem dR_leave_252 : decode (am_by jR_leave) 252 = .ok (.iconst 0, 1) := by decide +kernel
theorem dR_leave_253 : decode (am_by jR_leave) 253 = .ok (.invokevirtual 166, 3) := by decide +kernel
theorem dR_leave_256 : decode (am_by jR_leave) 256 = .ok (.goto 158, 3) := by decide +kernel
theorem dR_leave_259 : decode (am_by jR_leave) 259 = .ok (.aload_n 0, 1) := by decide +kernel
theorem dR_leave_260 : decode (am_by jR_leave) 260 = .ok (.iconst 0, 1) := by decide +kernel
theorem dR_leave_261 : decode (am_by jR_leave) 261 = .ok (.invokevirtual 162, 3) := by decide +kernel
theorem dR_leave_264 : decode (am_by jR_leave) 264 = .ok (.goto 150, 3) := by decide +kernel
theorem dR_leave_267 : decode (am_by jR_leave) 267 = .ok (.aload_n 0, 1) := by decide +kernel
theorem dR_leave_268 : decode (am_by jR_leave) 268 = .ok (.iconst 1, 1) := by decide +kernel
theorem dR_leave_269 : decode (am_by jR_leave) 269 = .ok (.invokevirtual 166, 3) := by decide +kernel
theorem dR_leave_272 : decode (am_by jR_leave) 272 = .ok (.goto 142, 3) := by decide +kernel
theorem dR_leave_275 : decode (am_by jR_leave) 275 = .ok (.aload_n 0, 1) := by decide +kernel
theorem dR_leave_276 : decode (am_by jR_leave) 276 = .ok (.iconst 1, 1) := by decide +kernel
theorem dR_leave_277 : decode (am_by jR_leave) 277 = .ok (.invokevirtual 162, 3) := by decide +kernel
theorem dR_leave_280 : decode (am_by jR_leave) 280 = .ok (.aload_n 0, 1) := by decide +kernel
theorem dR_leave_281 : decode (am_by jR_leave) 281 = .ok (.iconst 0, 1) := by decide +kernel
theorem dR_leave_282 : decode (am_by jR_leave) 282 = .ok (.invokevirtual 166, 3) := by decide +kernel
theorem dR_leave_285 : decode (am_by jR_leave) 285 = .ok (.goto 129, 3) := by decide +kernel
theorem dR_leave_288 : decode (am_by jR_leave) 288 = .ok (.aload_n 0, 1) := by decide +kernel
theorem dR_leave_289 : decode (am_by jR_leave) 289 = .ok (.iconst 0, 1) := by decide +kernel
theorem dR_leave_290 : decode (am_by jR_leave) 290 = .ok (.invokevirtual 162, 3) := by decide +kernel
theorem dR_leave_293 : decode (am_by jR_leave) 293 = .ok (.aload_n 0, 1) := by decide +kernel
theorem dR_leave_294 : decode (am_by jR_leave) 294 = .ok (.iconst 1, 1) := by decide +kernel
theorem dR_leave_295 : decode (am_by jR_leave) 295 = .ok (.invokevirtual 162, 3) := by decide +kernel
theorem dR_leave_298 : decode (am_by jR_leave) 298 = .ok (.goto 116, 3) := by decide +kernel
theorem dR_leave_301 : decode (am_by jR_leave) 301 = .ok (.aload_n 0, 1) := by decide +kernel
theorem dR_leave_302 : decode (am_by jR_leave) 302 = .ok (.iconst 1, 1) := by decide +kernel
theorem dR_leave_303 : decode (am_by jR_leave) 303 = .ok (.invokevirtual 162, 3) := by decide +kernel
theorem dR_leave_306 : decode (am_by jR_leave) 306 = .ok (.goto 108, 3) := by decide +kernel
theorem dR_leave_309 : decode (am_by jR_leave) 309 = .ok (.iconst 0, 1) := by decide +kernel
theorem dR_leave_310 : decode (am_by jR_leave) 310 = .ok (.istore 5, 2) := by decide +kernel
theorem dR_leave_312 : decode (am_by jR_leave) 312 = .ok (.iload 5, 2) := by decide +kernel
theorem dR_leave_314 : decode (am_by jR_leave) 314 = .ok (.aload_n 0, 1) := by decide +kernel
theorem dR_leave_315 : decode (am_by jR_leave) 315 = .ok (.getfield 22, 3) := by decide +kernel
theorem dR_leave_318 : decode (am_by jR_leave) 318 = .ok (.iload_n 1, 1) := by decide +kernel
theorem dR_leave_319 : decode (am_by jR_leave) 319 = .ok (.bipush 6, 2) := by decide +kernel
theorem dR_leave_321 : decode (am_by jR_leave) 321 = .ok (.idiv, 1) := by decide +kernel
theorem dR_leave_322 : decode (am_by jR_leave) 322 = .ok (.bipush 6, 2) := by decide +kernel
theorem dR_leave_324 : decode (am_by jR_leave) 324 = .ok (.imul, 1) := by decide +kernel
theorem dR_leave_325 : decode (am_by jR_leave) 325 = .ok (.iload 4, 2) := by decide +kernel
theorem dR_leave_327 : decode (am_by jR_leave) 327 = .ok (.iadd, 1) := by decide +kernel
theorem dR_leave_328 : decode (am_by jR_leave) 328 = .ok (.iaload, 1) := by decide +kernel
theorem dR_leave_329 : decode (am_by jR_leave) 329 = .ok (.if_icmp .ge 21, 3) := by decide +kernel
theorem dR_leave_332 : decode (am_by jR_leave) 332 = .ok (.aload_n 0, 1) := by decide +kernel
theorem dR_leave_333 : decode (am_by jR_leave) 333 = .ok (.getfield 155, 3) := by decide +kernel
theorem dR_leave_336 : decode (am_by jR_leave) 336 = .ok (.ifCond .eq 14, 3) := by decide +kernel
theorem dR_leave_339 : decode (am_by jR_leave) 339 = .ok (.aload_n 0, 1) := by decide +kernel
theorem dR_leave_340 : decode (am_by jR_leave) 340 = .ok (.iconst 0, 1) := by decide +kernel
theorem dR_leave_341 : decode (am_by jR_leave) 341 = .ok (.invokevirtual 162, 3) := by decide +kernel
theorem dR_leave_344 : decode (am_by jR_leave) 344 = .ok (.iinc 5 1, 3) := by decide +kernel
theorem dR_leave_347 : decode (am_by jR_leave) 347 = .ok (.goto (-35), 3) := by decide +kernel
theorem dR_leave_350 : decode (am_by jR_leave) 350 = .ok (.aload_n 0, 1) := by decide +kernel
theorem dR_leave_351 : decode (am_by jR_leave) 351 = .ok (.iconst 0, 1) := by decide +kernel
theorem dR_leave_352 : decode (am_by jR_leave) 352 = .ok (.invokevirtual 166, 3) := by decide +kernel
theorem dR_leave_355 : decode (am_by jR_leave) 355 = .ok (.goto 59, 3) := by decide +kernel
theorem dR_leave_358 : decode (am_by jR_leave) 358 = .ok (.aload_n 0, 1) := by decide +kernel
theorem dR_leave_359 : decode (am_by jR_leave) 359 = .ok (.bipush 10, 2) := by decide +kernel
theorem dR_leave_361 : decode (am_by jR_leave) 361 = .ok (.aload_n 0, 1) := by decide +kernel
theorem dR_leave_362 : decode (am_by jR_leave) 362 = .ok (.getfield 16, 3) := by decide +kernel
theorem dR_leave_365 : decode (am_by jR_leave) 365 = .ok (.bipush 60, 2) := by decide +kernel
theorem dR_leave_367 : decode (am_by jR_leave) 367 = .ok (.iload_n 1, 1) := by decide +kernel
theorem dR_leave_368 : decode (am_by jR_leave) 368 = .ok (.imul, 1) := by decide +kernel
theorem dR_leave_369 : decode (am_by jR_leave) 369 = .ok (.iload_n 2, 1) := by decide +kernel
theorem dR_leave_370 : decode (am_by jR_leave) 370 = .ok (.iadd, 1) := by decide +kernel
theorem dR_leave_371 : decode (am_by jR_leave) 371 = .ok (.iaload, 1) := by decide +kernel
theorem dR_leave_372 : decode (am_by jR_leave) 372 = .ok (.iadd, 1) := by decide +kernel
theorem dR_leave_373 : decode (am_by jR_leave) 373 = .ok (.invokevirtual 166, 3) := by decide +kernel
theorem dR_leave_376 : decode (am_by jR_leave) 376 = .ok (.goto 38, 3) := by decide +kernel
theorem dR_leave_379 : decode (am_by jR_leave) 379 = .ok (.aload_n 0, 1) := by decide +kernel
theorem dR_leave_380 : decode (am_by jR_leave) 380 = .ok (.getfield 59, 3) := by decide +kernel
theorem dR_leave_383 : decode (am_by jR_leave) 383 = .ok (.iload 4, 2) := by decide +kernel
theorem dR_leave_385 : decode (am_by jR_leave) 385 = .ok (.iaload, 1) := by decide +kernel
theorem dR_leave_386 : decode (am_by jR_leave) 386 = .ok (.bipush 10, 2) := by decide +kernel
theorem dR_leave_388 : decode (am_by jR_leave) 388 = .ok (.if_icmp .ge 26, 3) := by decide +kernel
theorem dR_leave_391 : decode (am_by jR_leave) 391 = .ok (.aload_n 0, 1) := by decide +kernel
theorem dR_leave_392 : decode (am_by jR_leave) 392 = .ok (.iconst 0, 1) := by decide +kernel
theorem dR_leave_393 : decode (am_by jR_leave) 393 = .ok (.putfield 155, 3) := by decide +kernel
theorem dR_leave_396 : decode (am_by jR_leave) 396 = .ok (.goto 18, 3) := by decide +kernel
theorem dR_leave_399 : decode (am_by jR_leave) 399 = .ok (.aload_n 0, 1) := by decide +kernel
theorem dR_leave_400 : decode (am_by jR_leave) 400 = .ok (.getfield 59, 3) := by decide +kernel
theorem dR_leave_403 : decode (am_by jR_leave) 403 = .ok (.iload 4, 2) := by decide +kernel
theorem dR_leave_405 : decode (am_by jR_leave) 405 = .ok (.iaload, 1) := by decide +kernel
theorem dR_leave_406 : decode (am_by jR_leave) 406 = .ok (.ifCond .eq 8, 3) := by decide +kernel
theorem dR_leave_409 : decode (am_by jR_leave) 409 = .ok (.aload_n 0, 1) := by decide +kernel
theorem dR_leave_410 : decode (am_by jR_leave) 410 = .ok (.iconst 0, 1) := by decide +kernel
theorem dR_leave_411 : decode (am_by jR_leave) 411 = .ok (.putfield 155, 3) := by decide +kernel
theorem dR_leave_414 : decode (am_by jR_leave) 414 = .ok (.return_, 1) := by decide +kernel
theorem dR_goOn_0 : decode (am_by jR_goOn) 0 = .ok (.aload_n 0, 1) := by decide +kernel
theorem dR_goOn_1 : decode (am_by jR_goOn) 1 = .ok (.getfield 7, 3) := by decide +kernel
theorem dR_goOn_4 : decode (am_by jR_goOn) 4 = .ok (.bipush 60, 2) := by decide +kernel
theorem dR_goOn_6 : decode (am_by jR_goOn) 6 = .ok (.iload_n 1, 1) := by decide +kernel
theorem dR_goOn_7 : decode (am_by jR_goOn) 7 = .ok (.imul, 1) := by decide +kernel
theorem dR_goOn_8 : decode (am_by jR_goOn) 8 = .ok (.iload_n 2, 1) := by decide +kernel
theorem dR_goOn_9 : decode (am_by jR_goOn) 9 = .ok (.iadd, 1) := by decide +kernel
theorem dR_goOn_10 : decode (am_by jR_goOn) 10 = .ok (.iaload, 1) := by decide +kernel
theorem dR_goOn_11 : decode (am_by jR_goOn) 11 = .ok (.istore_n 3, 1) := by decide +kernel
theorem dR_goOn_12 : decode (am_by jR_goOn) 12 = .ok (.aload_n 0, 1) := by decide +kernel
theorem dR_goOn_13 : decode (am_by jR_goOn) 13 = .ok (.getfield 16, 3) := by decide +kernel
theorem dR_goOn_16 : decode (am_by jR_goOn) 16 = .ok (.bipush 60, 2) := by decide +kernel
theorem dR_goOn_18 : decode (am_by jR_goOn) 18 = .ok (.iload_n 1, 1) := by decide +kernel
theorem dR_goOn_19 : decode (am_by jR_goOn) 19 = .ok (.imul, 1) := by decide +kernel
theorem dR_goOn_20 : decode (am_by jR_goOn) 20 = .ok (.iload_n 2, 1) := by decide +kernel
theorem dR_goOn_21 : decode (am_by jR_goOn) 21 = .ok (.iadd, 1) := by decide +kernel
theorem dR_goOn_22 : decode (am_by jR_goOn) 22 = .ok (.iaload, 1) := by decide +kernel
theorem dR_goOn_23 : decode (am_by jR_goOn) 23 = .ok (.istore 4, 2) := by decide +kernel
theorem dR_goOn_25 : decode (am_by jR_goOn) 25 = .ok (.iload_n 3, 1) := by decide +kernel
theorem dR_goOn_26 : decode (am_by jR_goOn) 26 = .ok (.bipush 24, 2) := by decide +kernel
theorem dR_goOn_28 : decode (am_by jR_goOn) 28 = .ok (.if_icmp .ne 105, 3) := by decide +kernel
theorem dR_goOn_31 : decode (am_by jR_goOn) 31 = .ok (.aload_n 0, 1) := by decide +kernel
theorem dR_goOn_32 : decode (am_by jR_goOn) 32 = .ok (.getfield 59, 3) := by decide +kernel
theorem dR_goOn_35 : decode (am_by jR_goOn) 35 = .ok (.aload_n 0, 1) := by decide +kernel
theorem dR_goOn_36 : decode (am_by jR_goOn) 36 = .ok (.getfield 13, 3) := by decide +kernel
theorem dR_goOn_39 : decode (am_by jR_goOn) 39 = .ok (.bipush 60, 2) := by decide +kernel
theorem dR_goOn_41 : decode (am_by jR_goOn) 41 = .ok (.iload_n 1, 1) := by decide +kernel
theorem dR_goOn_42 : decode (am_by jR_goOn) 42 = .ok (.imul, 1) := by decide +kernel
theorem dR_goOn_43 : decode (am_by jR_goOn) 43 = .ok (.iload_n 2, 1) := by decide +kernel
theorem dR_goOn_44 : decode (am_by jR_goOn) 44 = .ok (.iadd, 1) := by decide +kernel
theorem dR_goOn_45 : decode (am_by jR_goOn) 45 = .ok (.iaload, 1) := by decide +kernel
theorem dR_goOn_46 : decode (am_by jR_goOn) 46 = .ok (.iaload, 1) := by decide +kernel
theorem dR_goOn_47 : decode (am_by jR_goOn) 47 = .ok (.bipush 10, 2) := by decide +kernel
theorem dR_goOn_49 : decode (am_by jR_goOn) 49 = .ok (.isub, 1) := by decide +kernel
theorem dR_goOn_50 : decode (am_by jR_goOn) 50 = .ok (.istore 5, 2) := by decide +kernel
theorem dR_goOn_52 : decode (am_by jR_goOn) 52 = .ok (.iconst 0, 1) := by decide +kernel
theorem dR_goOn_53 : decode (am_by jR_goOn) 53 = .ok (.istore 6, 2) := by decide +kernel
theorem dR_goOn_55 : decode (am_by jR_goOn) 55 = .ok (.iload 6, 2) := by decide +kernel
theorem dR_goOn_57 : decode (am_by jR_goOn) 57 = .ok (.aload_n 0, 1) := by decide +kernel
theorem dR_goOn_58 : decode (am_by jR_goOn) 58 = .ok (.getfield 19, 3) := by decide +kernel
theorem dR_goOn_61 : decode (am_by jR_goOn) 61 = .ok (.iload_n 1, 1) := by decide +kernel
theorem dR_goOn_62 : decode (am_by jR_goOn) 62 = .ok (.iaload, 1) := by decide +kernel
theorem dR_goOn_63 : decode (am_by jR_goOn) 63 = .ok (.if_icmp .ge 69, 3) := by decide +kernel
theorem dR_goOn_66 : decode (am_by jR_goOn) 66 = .ok (.aload_n 0, 1) := by decide +kernel
theorem dR_goOn_67 : decode (am_by jR_goOn) 67 = .ok (.getfield 155, 3) := by decide +kernel
theorem dR_goOn_70 : decode (am_by jR_goOn) 70 = .ok (.ifCond .eq 62, 3) := by decide +kernel
theorem dR_goOn_73 : decode (am_by jR_goOn) 73 = .ok (.aload_n 0, 1) := by decide +kernel
theorem dR_goOn_74 : decode (am_by jR_goOn) 74 = .ok (.getfield 44, 3) := by decide +kernel
theorem dR_goOn_77 : decode (am_by jR_goOn) 77 = .ok (.iload 6, 2) := by decide +kernel
theorem dR_goOn_79 : decode (am_by jR_goOn) 79 = .ok (.baload, 1) := by decide +kernel
theorem dR_goOn_80 : decode (am_by jR_goOn) 80 = .ok (.ifCond .eq 46, 3) := by decide +kernel
theorem dR_goOn_83 : decode (am_by jR_goOn) 83 = .ok (.aload_n 0, 1) := by decide +kernel
theorem dR_goOn_84 : decode (am_by jR_goOn) 84 = .ok (.getfield 7, 3) := by decide +kernel
theorem dR_goOn_87 : decode (am_by jR_goOn) 87 = .ok (.bipush 60, 2) := by decide +kernel
theorem dR_goOn_89 : decode (am_by jR_goOn) 89 = .ok (.iload_n 1, 1) := by decide +kernel
theorem dR_goOn_90 : decode (am_by jR_goOn) 90 = .ok (.imul, 1) := by decide +kernel
theorem dR_goOn_91 : decode (am_by jR_goOn) 91 = .ok (.iload 6, 2) := by decide +kernel
theorem dR_goOn_93 : decode (am_by jR_goOn) 93 = .ok (.iadd, 1) := by decide +kernel
theorem dR_goOn_94 : decode (am_by jR_goOn) 94 = .ok (.iaload, 1) := by decide +kernel
theorem dR_goOn_95 : decode (am_by jR_goOn) 95 = .ok (.bipush 23, 2) := by decide +kernel
theorem dR_goOn_97 : decode (am_by jR_goOn) 97 = .ok (.if_icmp .ne 29, 3) := by decide +kernel
theorem dR_goOn_100 : decode (am_by jR_goOn) 100 = .ok (.aload_n 0, 1) := by decide +kernel
theorem dR_goOn_101 : decode (am_by jR_goOn) 101 = .ok (.getfield 16, 3) := by decide +kernel
theorem dR_goOn_104 : decode (am_by jR_goOn) 104 = .ok (.bipush 60, 2) := by decide +kernel
theorem dR_goOn_106 : decode (am_by jR_goOn) 106 = .ok (.iload_n 1, 1) := by decide +kernel
theorem dR_goOn_107 : decode (am_by jR_goOn) 107 = .ok (.imul, 1) := by decide +kernel
theorem dR_goOn_108 : decode (am_by jR_goOn) 108 = .ok (.iload 6, 2) := by decide +kernel
theorem dR_goOn_110 : decode (am_by jR_goOn) 110 = .ok (.iadd, 1) := by decide +kernel
theorem dR_goOn_111 : decode (am_by jR_goOn) 111 = .ok (.iaload, 1) := by decide +kernel
theorem dR_goOn_112 : decode (am_by jR_goOn) 112 = .ok (.iload 5, 2) := by decide +kernel
theorem dR_goOn_114 : decode (am_by jR_goOn) 114 = .ok (.if_icmp .ne 12, 3) := by decide +kernel
theorem dR_goOn_117 : decode (am_by jR_goOn) 117 = .ok (.aload_n 0, 1) := by decide +kernel
theorem dR_goOn_118 : decode (am_by jR_goOn) 118 = .ok (.iload_n 1, 1) := by decide +kernel
theorem dR_goOn_119 : decode (am_by jR_goOn) 119 = .ok (.iload 6, 2) := by decide +kernel
theorem dR_goOn_121 : decode (am_by jR_goOn) 121 = .ok (.iconst 1, 1) := by decide +kernel
theorem dR_goOn_122 : decode (am_by jR_goOn) 122 = .ok (.iadd, 1) := by decide +kernel
theorem dR_goOn_123 : decode (am_by jR_goOn) 123 = .ok (.invokevirtual 172, 3) := by decide +kernel
theorem dR_goOn_126 : decode (am_by jR_goOn) 126 = .ok (.iinc 6 1, 3) := by decide +kernel
theorem dR_goOn_129 : decode (am_by jR_goOn) 129 = .ok (.goto (-74), 3) := by decide +kernel
theorem dR_goOn_132 : decode (am_by jR_goOn) 132 = .ok (.return_, 1) := by decide +kernel
theorem dR_goOn_133 : decode (am_by jR_goOn) 133 = .ok (.iload_n 3, 1) := by decide +kernel
theorem dR_goOn_134 : decode (am_by jR_goOn) 134 = .ok (.invokestatic 139, 3) := by decide +kernel
theorem dR_goOn_137 : decode (am_by jR_goOn) 137 = .ok (.ifCond .eq 10, 3) := by decide +kernel
theorem dR_goOn_140 : decode (am_by jR_goOn) 140 = .ok (.aload_n 0, 1) := by decide +kernel
theorem dR_goOn_141 : decode (am_by jR_goOn) 141 = .ok (.iload_n 1, 1) := by decide +kernel
theorem dR_goOn_142 : decode (am_by jR_goOn) 142 = .ok (.iload 4, 2) := by decide +kernel
theorem dR_goOn_144 : decode (am_by jR_goOn) 144 = .ok (.invokevirtual 172, 3) := by decide +kernel
theorem dR_goOn_147 : decode (am_by jR_goOn) 147 = .ok (.aload_n 0, 1) := by decide +kernel
theorem dR_goOn_148 : decode (am_by jR_goOn) 148 = .ok (.getfield 155, 3) := by decide +kernel
theorem dR_goOn_151 : decode (am_by jR_goOn) 151 = .ok (.ifCond .eq 35, 3) := by decide +kernel
theorem dR_goOn_154 : decode (am_by jR_goOn) 154 = .ok (.iload_n 3, 1) := by decide +kernel
theorem dR_goOn_155 : decode (am_by jR_goOn) 155 = .ok (.bipush 11, 2) := by decide +kernel
theorem dR_goOn_157 : decode (am_by jR_goOn) 157 = .ok (.if_icmp .eq 29, 3) := by decide +kernel
theorem dR_goOn_160 : decode (am_by jR_goOn) 160 = .ok (.iload_n 3, 1) := by decide +kernel
theorem dR_goOn_161 : decode (am_by jR_goOn) 161 = .ok (.bipush 23, 2) := by decide +kernel
theorem dR_goOn_163 : decode (am_by jR_goOn) 163 = .ok (.if_icmp .eq 23, 3) := by decide +kernel
theorem dR_goOn_166 : decode (am_by jR_goOn) 166 = .ok (.iload_n 3, 1) := by decide +kernel
theorem dR_goOn_167 : decode (am_by jR_goOn) 167 = .ok (.bipush 20, 2) := by decide +kernel
theorem dR_goOn_169 : decode (am_by jR_goOn) 169 = .ok (.if_icmp .eq 17, 3) := by decide +kernel
theorem dR_goOn_172 : decode (am_by jR_goOn) 172 = .ok (.iload_n 3, 1) := by decide +kernel
theorem dR_goOn_173 : decode (am_by jR_goOn) 173 = .ok (.bipush 22, 2) := by decide +kernel
theorem dR_goOn_175 : decode (am_by jR_goOn) 175 = .ok (.if_icmp .eq 11, 3) := by decide +kernel
theorem dR_goOn_178 : decode (am_by jR_goOn) 178 = .ok (.aload_n 0, 1) := by decide +kernel
theorem dR_goOn_179 : decode (am_by jR_goOn) 179 = .ok (.iload_n 1, 1) := by decide +kernel
theorem dR_goOn_180 : decode (am_by jR_goOn) 180 = .ok (.iload_n 2, 1) := by decide +kernel
theorem dR_goOn_181 : decode (am_by jR_goOn) 181 = .ok (.iconst 1, 1) := by decide +kernel
theorem dR_goOn_182 : decode (am_by jR_goOn) 182 = .ok (.iadd, 1) := by decide +kernel
theorem dR_goOn_183 : decode (am_by jR_goOn) 183 = .ok (.invokevirtual 172, 3) := by decide +kernel
theorem dR_goOn_186 : decode (am_by jR_goOn) 186 = .ok (.return_, 1) := by decide +kernel
theorem dR_refuse_0 : decode (am_by jR_refuse) 0 = .ok (.iconst 0, 1) := by decide +kernel
theorem dR_refuse_1 : decode (am_by jR_refuse) 1 = .ok (.istore_n 3, 1) := by decide +kernel
theorem dR_refuse_2 : decode (am_by jR_refuse) 2 = .ok (.iload_n 3, 1) := by decide +kernel
theorem dR_refuse_3 : decode (am_by jR_refuse) 3 = .ok (.aload_n 0, 1) := by decide +kernel
theorem dR_refuse_4 : decode (am_by jR_refuse) 4 = .ok (.getfield 25, 3) := by decide +kernel
theorem dR_refuse_7 : decode (am_by jR_refuse) 7 = .ok (.iload_n 1, 1) := by decide +kernel
theorem dR_refuse_8 : decode (am_by jR_refuse) 8 = .ok (.iaload, 1) := by decide +kernel
theorem dR_refuse_9 : decode (am_by jR_refuse) 9 = .ok (.if_icmp .ge 80, 3) := by decide +kernel
theorem dR_refuse_12 : decode (am_by jR_refuse) 12 = .ok (.aload_n 0, 1) := by decide +kernel
theorem dR_refuse_13 : decode (am_by jR_refuse) 13 = .ok (.getfield 155, 3) := by decide +kernel
theorem dR_refuse_16 : decode (am_by jR_refuse) 16 = .ok (.ifCond .eq 73, 3) := by decide +kernel
theorem dR_refuse_19 : decode (am_by jR_refuse) 19 = .ok (.iload_n 2, 1) := by decide +kernel
theorem dR_refuse_20 : decode (am_by jR_refuse) 20 = .ok (.aload_n 0, 1) := by decide +kernel
theorem dR_refuse_21 : decode (am_by jR_refuse) 21 = .ok (.getfield 28, 3) := by decide +kernel
theorem dR_refuse_24 : decode (am_by jR_refuse) 24 = .ok (.bipush 8, 2) := by decide +kernel
theorem dR_refuse_26 : decode (am_by jR_refuse) 26 = .ok (.iload_n 1, 1) := by decide +kernel
theorem dR_refuse_27 : decode (am_by jR_refuse) 27 = .ok (.imul, 1) := by decide +kernel
theorem dR_refuse_28 : decode (am_by jR_refuse) 28 = .ok (.iload_n 3, 1) := by decide +kernel
theorem dR_refuse_29 : decode (am_by jR_refuse) 29 = .ok (.iadd, 1) := by decide +kernel
theorem dR_refuse_30 : decode (am_by jR_refuse) 30 = .ok (.iaload, 1) := by decide +kernel
theorem dR_refuse_31 : decode (am_by jR_refuse) 31 = .ok (.if_icmp .lt 52, 3) := by decide +kernel
theorem dR_refuse_34 : decode (am_by jR_refuse) 34 = .ok (.iload_n 2, 1) := by decide +kernel
theorem dR_refuse_35 : decode (am_by jR_refuse) 35 = .ok (.aload_n 0, 1) := by decide +kernel
theorem dR_refuse_36 : decode (am_by jR_refuse) 36 = .ok (.getfield 31, 3) := by decide +kernel
theorem dR_refuse_39 : decode (am_by jR_refuse) 39 = .ok (.bipush 8, 2) := by decide +kernel
theorem dR_refuse_41 : decode (am_by jR_refuse) 41 = .ok (.iload_n 1, 1) := by decide +kernel
theorem dR_refuse_42 : decode (am_by jR_refuse) 42 = .ok (.imul, 1) := by decide +kernel
theorem dR_refuse_43 : decode (am_by jR_refuse) 43 = .ok (.iload_n 3, 1) := by decide +kernel
theorem dR_refuse_44 : decode (am_by jR_refuse) 44 = .ok (.iadd, 1) := by decide +kernel
theorem dR_refuse_45 : decode (am_by jR_refuse) 45 = .ok (.iaload, 1) := by decide +kernel
theorem dR_refuse_46 : decode (am_by jR_refuse) 46 = .ok (.if_icmp .lt 6, 3) := by decide +kernel
theorem dR_refuse_49 : decode (am_by jR_refuse) 49 = .ok (.goto 34, 3) := by decide +kernel
theorem dR_refuse_52 : decode (am_by jR_refuse) 52 = .ok (.aload_n 0, 1) := by decide +kernel
theorem dR_refuse_53 : decode (am_by jR_refuse) 53 = .ok (.iload_n 2, 1) := by decide +kernel
theorem dR_refuse_54 : decode (am_by jR_refuse) 54 = .ok (.invokevirtual 176, 3) := by decide +kernel
theorem dR_refuse_57 : decode (am_by jR_refuse) 57 = .ok (.aload_n 0, 1) := by decide +kernel
theorem dR_refuse_58 : decode (am_by jR_refuse) 58 = .ok (.iconst 0, 1) := by decide +kernel
theorem dR_refuse_59 : decode (am_by jR_refuse) 59 = .ok (.putfield 152, 3) := by decide +kernel
theorem dR_refuse_62 : decode (am_by jR_refuse) 62 = .ok (.aload_n 0, 1) := by decide +kernel
theorem dR_refuse_63 : decode (am_by jR_refuse) 63 = .ok (.iconst 1, 1) := by decide +kernel
theorem dR_refuse_64 : decode (am_by jR_refuse) 64 = .ok (.invokevirtual 166, 3) := by decide +kernel
theorem dR_refuse_67 : decode (am_by jR_refuse) 67 = .ok (.aload_n 0, 1) := by decide +kernel
theorem dR_refuse_68 : decode (am_by jR_refuse) 68 = .ok (.iload_n 1, 1) := by decide +kernel
theorem dR_refuse_69 : decode (am_by jR_refuse) 69 = .ok (.aload_n 0, 1) := by decide +kernel
theorem dR_refuse_70 : decode (am_by jR_refuse) 70 = .ok (.getfield 34, 3) := by decide +kernel
theorem dR_refuse_73 : decode (am_by jR_refuse) 73 = .ok (.bipush 8, 2) := by decide +kernel
theorem dR_refuse_75 : decode (am_by jR_refuse) 75 = .ok (.iload_n 1, 1) := by decide +kernel
theorem dR_refuse_76 : decode (am_by jR_refuse) 76 = .ok (.imul, 1) := by decide +kernel
theorem dR_refuse_77 : decode (am_by jR_refuse) 77 = .ok (.iload_n 3, 1) := by decide +kernel
theorem dR_refuse_78 : decode (am_by jR_refuse) 78 = .ok (.iadd, 1) := by decide +kernel
theorem dR_refuse_79 : decode (am_by jR_refuse) 79 = .ok (.iaload, 1) := by decide +kernel
theorem dR_refuse_80 : decode (am_by jR_refuse) 80 = .ok (.invokevirtual 172, 3) := by decide +kernel
theorem dR_refuse_83 : decode (am_by jR_refuse) 83 = .ok (.iinc 3 1, 3) := by decide +kernel
theorem dR_refuse_86 : decode (am_by jR_refuse) 86 = .ok (.goto (-84), 3) := by decide +kernel
theorem dR_refuse_89 : decode (am_by jR_refuse) 89 = .ok (.return_, 1) := by decide +kernel
theorem dR_isRight_0 : decode (am_by jR_isRight) 0 = .ok (.aload_n 0, 1) := by decide +kernel
theorem dR_isRight_1 : decode (am_by jR_isRight) 1 = .ok (.aload_n 0, 1) := by decide +kernel
theorem dR_isRight_2 : decode (am_by jR_isRight) 2 = .ok (.getfield 19, 3) := by decide +kernel
theorem dR_isRight_5 : decode (am_by jR_isRight) 5 = .ok (.iload_n 1, 1) := by decide +kernel
theorem dR_isRight_6 : decode (am_by jR_isRight) 6 = .ok (.iaload, 1) := by decide +kernel
theorem dR_isRight_7 : decode (am_by jR_isRight) 7 = .ok (.ifCond .le 7, 3) := by decide +kernel
theorem dR_isRight_10 : decode (am_by jR_isRight) 10 = .ok (.iconst 1, 1) := by decide +kernel
theorem dR_isRight_11 : decode (am_by jR_isRight) 11 = .ok (.goto 4, 3) := by decide +kernel
theorem dR_isRight_14 : decode (am_by jR_isRight) 14 = .ok (.iconst 0, 1) := by decide +kernel
theorem dR_isRight_15 : decode (am_by jR_isRight) 15 = .ok (.putfield 155, 3) := by decide +kernel
theorem dR_isRight_18 : decode (am_by jR_isRight) 18 = .ok (.iconst 0, 1) := by decide +kernel
theorem dR_isRight_19 : decode (am_by jR_isRight) 19 = .ok (.istore_n 2, 1) := by decide +kernel
theorem dR_isRight_20 : decode (am_by jR_isRight) 20 = .ok (.iload_n 2, 1) := by decide +kernel
theorem dR_isRight_21 : decode (am_by jR_isRight) 21 = .ok (.bipush 60, 2) := by decide +kernel
theorem dR_isRight_23 : decode (am_by jR_isRight) 23 = .ok (.if_icmp .ge 16, 3) := by decide +kernel
theorem dR_isRight_26 : decode (am_by jR_isRight) 26 = .ok (.aload_n 0, 1) := by decide +kernel
theorem dR_isRight_27 : decode (am_by jR_isRight) 27 = .ok (.getfield 44, 3) := by decide +kernel
theorem dR_isRight_30 : decode (am_by jR_isRight) 30 = .ok (.iload_n 2, 1) := by decide +kernel
theorem dR_isRight_31 : decode (am_by jR_isRight) 31 = .ok (.iconst 0, 1) := by decide +kernel
theorem dR_isRight_32 : decode (am_by jR_isRight) 32 = .ok (.bastore, 1) := by decide +kernel
theorem dR_isRight_33 : decode (am_by jR_isRight) 33 = .ok (.iinc 2 1, 3) := by decide +kernel
theorem dR_isRight_36 : decode (am_by jR_isRight) 36 = .ok (.goto (-16), 3) := by decide +kernel
theorem dR_isRight_39 : decode (am_by jR_isRight) 39 = .ok (.aload_n 0, 1) := by decide +kernel
theorem dR_isRight_40 : decode (am_by jR_isRight) 40 = .ok (.getfield 155, 3) := by decide +kernel
theorem dR_isRight_43 : decode (am_by jR_isRight) 43 = .ok (.ifCond .ne 5, 3) := by decide +kernel
theorem dR_isRight_46 : decode (am_by jR_isRight) 46 = .ok (.iconst 0, 1) := by decide +kernel
theorem dR_isRight_47 : decode (am_by jR_isRight) 47 = .ok (.ireturn, 1) := by decide +kernel
theorem dR_isRight_48 : decode (am_by jR_isRight) 48 = .ok (.aload_n 0, 1) := by decide +kernel
theorem dR_isRight_49 : decode (am_by jR_isRight) 49 = .ok (.iconst 0, 1) := by decide +kernel
theorem dR_isRight_50 : decode (am_by jR_isRight) 50 = .ok (.putfield 152, 3) := by decide +kernel
theorem dR_isRight_53 : decode (am_by jR_isRight) 53 = .ok (.iconst 0, 1) := by decide +kernel
theorem dR_isRight_54 : decode (am_by jR_isRight) 54 = .ok (.istore_n 2, 1) := by decide +kernel
theorem dR_isRight_55 : decode (am_by jR_isRight) 55 = .ok (.iload_n 2, 1) := by decide +kernel
theorem dR_isRight_56 : decode (am_by jR_isRight) 56 = .ok (.bipush 8, 2) := by decide +kernel
theorem dR_isRight_58 : decode (am_by jR_isRight) 58 = .ok (.if_icmp .ge 30, 3) := by decide +kernel
theorem dR_isRight_61 : decode (am_by jR_isRight) 61 = .ok (.aload_n 0, 1) := by decide +kernel
theorem dR_isRight_62 : decode (am_by jR_isRight) 62 = .ok (.getfield 59, 3) := by decide +kernel
theorem dR_isRight_65 : decode (am_by jR_isRight) 65 = .ok (.iload_n 2, 1) := by decide +kernel
theorem dR_isRight_66 : decode (am_by jR_isRight) 66 = .ok (.iload_n 2, 1) := by decide +kernel
theorem dR_isRight_67 : decode (am_by jR_isRight) 67 = .ok (.aload_n 0, 1) := by decide +kernel
theorem dR_isRight_68 : decode (am_by jR_isRight) 68 = .ok (.getfield 22, 3) := by decide +kernel
theorem dR_isRight_71 : decode (am_by jR_isRight) 71 = .ok (.iload_n 1, 1) := by decide +kernel
theorem dR_isRight_72 : decode (am_by jR_isRight) 72 = .ok (.iaload, 1) := by decide +kernel
theorem dR_isRight_73 : decode (am_by jR_isRight) 73 = .ok (.if_icmp .ge 7, 3) := by decide +kernel
theorem dR_isRight_76 : decode (am_by jR_isRight) 76 = .ok (.iconst 0, 1) := by decide +kernel
theorem dR_isRight_77 : decode (am_by jR_isRight) 77 = .ok (.goto 4, 3) := by decide +kernel
theorem dR_isRight_80 : decode (am_by jR_isRight) 80 = .ok (.iconst (-1), 1) := by decide +kernel
theorem dR_isRight_81 : decode (am_by jR_isRight) 81 = .ok (.iastore, 1) := by decide +kernel
theorem dR_isRight_82 : decode (am_by jR_isRight) 82 = .ok (.iinc 2 1, 3) := by decide +kernel
theorem dR_isRight_85 : decode (am_by jR_isRight) 85 = .ok (.goto (-30), 3) := by decide +kernel
theorem dR_isRight_88 : decode (am_by jR_isRight) 88 = .ok (.aload_n 0, 1) := by decide +kernel
theorem dR_isRight_89 : decode (am_by jR_isRight) 89 = .ok (.iload_n 1, 1) := by decide +kernel
theorem dR_isRight_90 : decode (am_by jR_isRight) 90 = .ok (.iconst 0, 1) := by decide +kernel
theorem dR_isRight_91 : decode (am_by jR_isRight) 91 = .ok (.invokevirtual 172, 3) := by decide +kernel
theorem dR_isRight_94 : decode (am_by jR_isRight) 94 = .ok (.aload_n 0, 1) := by decide +kernel
theorem dR_isRight_95 : decode (am_by jR_isRight) 95 = .ok (.iconst 1, 1) := by decide +kernel
theorem dR_isRight_96 : decode (am_by jR_isRight) 96 = .ok (.putfield 159, 3) := by decide +kernel
theorem dR_isRight_99 : decode (am_by jR_isRight) 99 = .ok (.aload_n 0, 1) := by decide +kernel
theorem dR_isRight_100 : decode (am_by jR_isRight) 100 = .ok (.getfield 159, 3) := by decide +kernel
theorem dR_isRight_103 : decode (am_by jR_isRight) 103 = .ok (.ifCond .eq 92, 3) := by decide +kernel
theorem dR_isRight_106 : decode (am_by jR_isRight) 106 = .ok (.aload_n 0, 1) := by decide +kernel
theorem dR_isRight_107 : decode (am_by jR_isRight) 107 = .ok (.getfield 155, 3) := by decide +kernel
theorem dR_isRight_110 : decode (am_by jR_isRight) 110 = .ok (.ifCond .eq 85, 3) := by decide +kernel
theorem dR_isRight_113 : decode (am_by jR_isRight) 113 = .ok (.aload_n 0, 1) := by decide +kernel
theorem dR_isRight_114 : decode (am_by jR_isRight) 114 = .ok (.iconst 0, 1) := by decide +kernel
theorem dR_isRight_115 : decode (am_by jR_isRight) 115 = .ok (.putfield 159, 3) := by decide +kernel
theorem dR_isRight_118 : decode (am_by jR_isRight) 118 = .ok (.iconst 0, 1) := by decide +kernel
theorem dR_isRight_119 : decode (am_by jR_isRight) 119 = .ok (.istore_n 2, 1) := by decide +kernel
theorem dR_isRight_120 : decode (am_by jR_isRight) 120 = .ok (.iload_n 2, 1) := by decide +kernel
theorem dR_isRight_121 : decode (am_by jR_isRight) 121 = .ok (.aload_n 0, 1) := by decide +kernel
theorem dR_isRight_122 : decode (am_by jR_isRight) 122 = .ok (.getfield 19, 3) := by decide +kernel
theorem dR_isRight_125 : decode (am_by jR_isRight) 125 = .ok (.iload_n 1, 1) := by decide +kernel
theorem dR_isRight_126 : decode (am_by jR_isRight) 126 = .ok (.iaload, 1) := by decide +kernel
theorem dR_isRight_127 : decode (am_by jR_isRight) 127 = .ok (.if_icmp .ge 65, 3) := by decide +kernel
theorem dR_isRight_130 : decode (am_by jR_isRight) 130 = .ok (.aload_n 0, 1) := by decide +kernel
theorem dR_isRight_131 : decode (am_by jR_isRight) 131 = .ok (.getfield 155, 3) := by decide +kernel
theorem dR_isRight_134 : decode (am_by jR_isRight) 134 = .ok (.ifCond .eq 58, 3) := by decide +kernel
theorem dR_isRight_137 : decode (am_by jR_isRight) 137 = .ok (.aload_n 0, 1) := by decide +kernel
theorem dR_isRight_138 : decode (am_by jR_isRight) 138 = .ok (.getfield 44, 3) := by decide +kernel
theorem dR_isRight_141 : decode (am_by jR_isRight) 141 = .ok (.iload_n 2, 1) := by decide +kernel
theorem dR_isRight_142 : decode (am_by jR_isRight) 142 = .ok (.baload, 1) := by decide +kernel
theorem dR_isRight_143 : decode (am_by jR_isRight) 143 = .ok (.ifCond .ne 6, 3) := by decide +kernel
theorem dR_isRight_146 : decode (am_by jR_isRight) 146 = .ok (.goto 40, 3) := by decide +kernel
theorem dR_isRight_149 : decode (am_by jR_isRight) 149 = .ok (.aload_n 0, 1) := by decide +kernel
theorem dR_isRight_150 : decode (am_by jR_isRight) 150 = .ok (.iload_n 2, 1) := by decide +kernel
theorem dR_isRight_151 : decode (am_by jR_isRight) 151 = .ok (.invokevirtual 176, 3) := by decide +kernel
theorem dR_isRight_154 : decode (am_by jR_isRight) 154 = .ok (.aload_n 0, 1) := by decide +kernel
theorem dR_isRight_155 : decode (am_by jR_isRight) 155 = .ok (.iload_n 1, 1) := by decide +kernel
theorem dR_isRight_156 : decode (am_by jR_isRight) 156 = .ok (.iload_n 2, 1) := by decide +kernel
theorem dR_isRight_157 : decode (am_by jR_isRight) 157 = .ok (.invokevirtual 179, 3) := by decide +kernel
theorem dR_isRight_160 : decode (am_by jR_isRight) 160 = .ok (.aload_n 0, 1) := by decide +kernel
theorem dR_isRight_161 : decode (am_by jR_isRight) 161 = .ok (.getfield 155, 3) := by decide +kernel
theorem dR_isRight_164 : decode (am_by jR_isRight) 164 = .ok (.ifCond .eq 9, 3) := by decide +kernel
theorem dR_isRight_167 : decode (am_by jR_isRight) 167 = .ok (.aload_n 0, 1) := by decide +kernel
theorem dR_isRight_168 : decode (am_by jR_isRight) 168 = .ok (.iload_n 1, 1) := by decide +kernel
theorem dR_isRight_169 : decode (am_by jR_isRight) 169 = .ok (.iload_n 2, 1) := by decide +kernel
theorem dR_isRight_170 : decode (am_by jR_isRight) 170 = .ok (.invokevirtual 182, 3) := by decide +kernel
theorem dR_isRight_173 : decode (am_by jR_isRight) 173 = .ok (.aload_n 0, 1) := by decide +kernel
theorem dR_isRight_174 : decode (am_by jR_isRight) 174 = .ok (.getfield 155, 3) := by decide +kernel
theorem dR_isRight_177 : decode (am_by jR_isRight) 177 = .ok (.ifCond .eq 9, 3) := by decide +kernel
theorem dR_isRight_180 : decode (am_by jR_isRight) 180 = .ok (.aload_n 0, 1) := by decide +kernel
theorem dR_isRight_181 : decode (am_by jR_isRight) 181 = .ok (.iload_n 1, 1) := by decide +kernel
theorem dR_isRight_182 : decode (am_by jR_isRight) 182 = .ok (.iload_n 2, 1) := by decide +kernel
theorem dR_isRight_183 : decode (am_by jR_isRight) 183 = .ok (.invokevirtual 185, 3) := by decide +kernel
theorem dR_isRight_186 : decode (am_by jR_isRight) 186 = .ok (.iinc 2 1, 3) := by decide +kernel
theorem dR_isRight_189 : decode (am_by jR_isRight) 189 = .ok (.goto (-69), 3) := by decide +kernel
theorem dR_isRight_192 : decode (am_by jR_isRight) 192 = .ok (.goto (-93), 3) := by decide +kernel
theorem dR_isRight_195 : decode (am_by jR_isRight) 195 = .ok (.aload_n 0, 1) := by decide +kernel
theorem dR_isRight_196 : decode (am_by jR_isRight) 196 = .ok (.getfield 155, 3) := by decide +kernel
theorem dR_isRight_199 : decode (am_by jR_isRight) 199 = .ok (.ireturn, 1) := by decide +kernel
theorem dR_check_0 : decode (am_by jR_check) 0 = .ok (.iload_n 1, 1) := by decide +kernel
theorem dR_check_1 : decode (am_by jR_check) 1 = .ok (.iconst 0, 1) := by decide +kernel
theorem dR_check_2 : decode (am_by jR_check) 2 = .ok (.iconst 5, 1) := by decide +kernel
theorem dR_check_3 : decode (am_by jR_check) 3 = .ok (.invokestatic 123, 3) := by decide +kernel
theorem dR_check_6 : decode (am_by jR_check) 6 = .ok (.ifCond .ne 5, 3) := by decide +kernel
theorem dR_check_9 : decode (am_by jR_check) 9 = .ok (.iconst (-1), 1) := by decide +kernel
theorem dR_check_10 : decode (am_by jR_check) 10 = .ok (.ireturn, 1) := by decide +kernel
theorem dR_check_11 : decode (am_by jR_check) 11 = .ok (.aload_n 0, 1) := by decide +kernel
theorem dR_check_12 : decode (am_by jR_check) 12 = .ok (.aload_n 0, 1) := by decide +kernel
theorem dR_check_13 : decode (am_by jR_check) 13 = .ok (.iload_n 1, 1) := by decide +kernel
theorem dR_check_14 : decode (am_by jR_check) 14 = .ok (.invokevirtual 135, 3) := by decide +kernel
theorem dR_check_17 : decode (am_by jR_check) 17 = .ok (.invokevirtual 188, 3) := by decide +kernel
theorem dR_check_20 : decode (am_by jR_check) 20 = .ok (.istore_n 2, 1) := by decide +kernel
theorem dR_check_21 : decode (am_by jR_check) 21 = .ok (.iload_n 2, 1) := by decide +kernel
theorem dR_check_22 : decode (am_by jR_check) 22 = .ok (.ifCond .ne 6, 3) := by decide +kernel
theorem dR_check_25 : decode (am_by jR_check) 25 = .ok (.bipush (-4), 2) := by decide +kernel
theorem dR_check_27 : decode (am_by jR_check) 27 = .ok (.ireturn, 1) := by decide +kernel
theorem dR_check_28 : decode (am_by jR_check) 28 = .ok (.iconst 0, 1) := by decide +kernel
theorem dR_check_29 : decode (am_by jR_check) 29 = .ok (.istore_n 3, 1) := by decide +kernel
theorem dR_check_30 : decode (am_by jR_check) 30 = .ok (.iconst 0, 1) := by decide +kernel
theorem dR_check_31 : decode (am_by jR_check) 31 = .ok (.istore 4, 2) := by decide +kernel
theorem dR_check_33 : decode (am_by jR_check) 33 = .ok (.iload 4, 2) := by decide +kernel
theorem dR_check_35 : decode (am_by jR_check) 35 = .ok (.bipush 60, 2) := by decide +kernel
theorem dR_check_37 : decode (am_by jR_check) 37 = .ok (.if_icmp .ge 22, 3) := by decide +kernel
theorem dR_check_40 : decode (am_by jR_check) 40 = .ok (.aload_n 0, 1) := by decide +kernel
theorem dR_check_41 : decode (am_by jR_check) 41 = .ok (.getfield 44, 3) := by decide +kernel
theorem dR_check_44 : decode (am_by jR_check) 44 = .ok (.iload 4, 2) := by decide +kernel
theorem dR_check_46 : decode (am_by jR_check) 46 = .ok (.baload, 1) := by decide +kernel
theorem dR_check_47 : decode (am_by jR_check) 47 = .ok (.ifCond .eq 6, 3) := by decide +kernel
theorem dR_check_50 : decode (am_by jR_check) 50 = .ok (.iinc 3 1, 3) := by decide +kernel
theorem dR_check_53 : decode (am_by jR_check) 53 = .ok (.iinc 4 1, 3) := by decide +kernel
theorem dR_check_56 : decode (am_by jR_check) 56 = .ok (.goto (-23), 3) := by decide +kernel
theorem dR_check_59 : decode (am_by jR_check) 59 = .ok (.iload_n 3, 1) := by decide +kernel
theorem dR_check_60 : decode (am_by jR_check) 60 = .ok (.ireturn, 1) := by decide +kernel
theorem dR_kindAt_0 : decode (am_by jR_kindAt) 0 = .ok (.iload_n 1, 1) := by decide +kernel
theorem dR_kindAt_1 : decode (am_by jR_kindAt) 1 = .ok (.iconst 0, 1) := by decide +kernel
theorem dR_kindAt_2 : decode (am_by jR_kindAt) 2 = .ok (.iconst 5, 1) := by decide +kernel
theorem dR_kindAt_3 : decode (am_by jR_kindAt) 3 = .ok (.invokestatic 123, 3) := by decide +kernel
theorem dR_kindAt_6 : decode (am_by jR_kindAt) 6 = .ok (.ifCond .eq 24, 3) := by decide +kernel
theorem dR_kindAt_9 : decode (am_by jR_kindAt) 9 = .ok (.iload_n 3, 1) := by decide +kernel
theorem dR_kindAt_10 : decode (am_by jR_kindAt) 10 = .ok (.iconst (-1), 1) := by decide +kernel
theorem dR_kindAt_11 : decode (am_by jR_kindAt) 11 = .ok (.bipush 7, 2) := by decide +kernel
theorem dR_kindAt_13 : decode (am_by jR_kindAt) 13 = .ok (.invokestatic 123, 3) := by decide +kernel
theorem dR_kindAt_16 : decode (am_by jR_kindAt) 16 = .ok (.ifCond .ne 16, 3) := by decide +kernel
theorem dR_kindAt_19 : decode (am_by jR_kindAt) 19 = .ok (.iload_n 3, 1) := by decide +kernel
theorem dR_kindAt_20 : decode (am_by jR_kindAt) 20 = .ok (.bipush 10, 2) := by decide +kernel
theorem dR_kindAt_22 : decode (am_by jR_kindAt) 22 = .ok (.bipush 17, 2) := by decide +kernel
theorem dR_kindAt_24 : decode (am_by jR_kindAt) 24 = .ok (.invokestatic 123, 3) := by decide +kernel
theorem dR_kindAt_27 : decode (am_by jR_kindAt) 27 = .ok (.ifCond .ne 5, 3) := by decide +kernel
theorem dR_kindAt_30 : decode (am_by jR_kindAt) 30 = .ok (.iconst (-1), 1) := by decide +kernel
theorem dR_kindAt_31 : decode (am_by jR_kindAt) 31 = .ok (.ireturn, 1) := by decide +kernel
theorem dR_kindAt_32 : decode (am_by jR_kindAt) 32 = .ok (.aload_n 0, 1) := by decide +kernel
theorem dR_kindAt_33 : decode (am_by jR_kindAt) 33 = .ok (.aload_n 0, 1) := by decide +kernel
theorem dR_kindAt_34 : decode (am_by jR_kindAt) 34 = .ok (.iload_n 1, 1) := by decide +kernel
theorem dR_kindAt_35 : decode (am_by jR_kindAt) 35 = .ok (.invokevirtual 135, 3) := by decide +kernel
theorem dR_kindAt_38 : decode (am_by jR_kindAt) 38 = .ok (.invokevirtual 188, 3) := by decide +kernel
theorem dR_kindAt_41 : decode (am_by jR_kindAt) 41 = .ok (.istore 4, 2) := by decide +kernel
theorem dR_kindAt_43 : decode (am_by jR_kindAt) 43 = .ok (.iload 4, 2) := by decide +kernel
theorem dR_kindAt_45 : decode (am_by jR_kindAt) 45 = .ok (.ifCond .eq 22, 3) := by decide +kernel
theorem dR_kindAt_48 : decode (am_by jR_kindAt) 48 = .ok (.iload_n 2, 1) := by decide +kernel
theorem dR_kindAt_49 : decode (am_by jR_kindAt) 49 = .ok (.iconst 0, 1) := by decide +kernel
theorem dR_kindAt_50 : decode (am_by jR_kindAt) 50 = .ok (.bipush 59, 2) := by decide +kernel
theorem dR_kindAt_52 : decode (am_by jR_kindAt) 52 = .ok (.invokestatic 123, 3) := by decide +kernel
theorem dR_kindAt_55 : decode (am_by jR_kindAt) 55 = .ok (.ifCond .eq 12, 3) := by decide +kernel
theorem dR_kindAt_58 : decode (am_by jR_kindAt) 58 = .ok (.aload_n 0, 1) := by decide +kernel
theorem dR_kindAt_59 : decode (am_by jR_kindAt) 59 = .ok (.getfield 44, 3) := by decide +kernel
theorem dR_kindAt_62 : decode (am_by jR_kindAt) 62 = .ok (.iload_n 2, 1) := by decide +kernel
theorem dR_kindAt_63 : decode (am_by jR_kindAt) 63 = .ok (.baload, 1) := by decide +kernel
theorem dR_kindAt_64 : decode (am_by jR_kindAt) 64 = .ok (.ifCond .ne 6, 3) := by decide +kernel
theorem dR_kindAt_67 : decode (am_by jR_kindAt) 67 = .ok (.bipush (-2), 2) := by decide +kernel
theorem dR_kindAt_69 : decode (am_by jR_kindAt) 69 = .ok (.ireturn, 1) := by decide +kernel
theorem dR_kindAt_70 : decode (am_by jR_kindAt) 70 = .ok (.iload_n 3, 1) := by decide +kernel
theorem dR_kindAt_71 : decode (am_by jR_kindAt) 71 = .ok (.iconst (-1), 1) := by decide +kernel
theorem dR_kindAt_72 : decode (am_by jR_kindAt) 72 = .ok (.if_icmp .ne 10, 3) := by decide +kernel
theorem dR_kindAt_75 : decode (am_by jR_kindAt) 75 = .ok (.aload_n 0, 1) := by decide +kernel
theorem dR_kindAt_76 : decode (am_by jR_kindAt) 76 = .ok (.getfield 47, 3) := by decide +kernel
theorem dR_kindAt_79 : decode (am_by jR_kindAt) 79 = .ok (.iload_n 2, 1) := by decide +kernel
theorem dR_kindAt_80 : decode (am_by jR_kindAt) 80 = .ok (.iaload, 1) := by decide +kernel
theorem dR_kindAt_81 : decode (am_by jR_kindAt) 81 = .ok (.ireturn, 1) := by decide +kernel
theorem dR_kindAt_82 : decode (am_by jR_kindAt) 82 = .ok (.iload_n 3, 1) := by decide +kernel
theorem dR_kindAt_83 : decode (am_by jR_kindAt) 83 = .ok (.bipush 8, 2) := by decide +kernel
theorem dR_kindAt_85 : decode (am_by jR_kindAt) 85 = .ok (.if_icmp .ge 30, 3) := by decide +kernel
theorem dR_kindAt_88 : decode (am_by jR_kindAt) 88 = .ok (.iload_n 3, 1) := by decide +kernel
theorem dR_kindAt_89 : decode (am_by jR_kindAt) 89 = .ok (.aload_n 0, 1) := by decide +kernel
theorem dR_kindAt_90 : decode (am_by jR_kindAt) 90 = .ok (.getfield 47, 3) := by decide +kernel
theorem dR_kindAt_93 : decode (am_by jR_kindAt) 93 = .ok (.iload_n 2, 1) := by decide +kernel
theorem dR_kindAt_94 : decode (am_by jR_kindAt) 94 = .ok (.iaload, 1) := by decide +kernel
theorem dR_kindAt_95 : decode (am_by jR_kindAt) 95 = .ok (.if_icmp .ge 17, 3) := by decide +kernel
theorem dR_kindAt_98 : decode (am_by jR_kindAt) 98 = .ok (.aload_n 0, 1) := by decide +kernel
theorem dR_kindAt_99 : decode (am_by jR_kindAt) 99 = .ok (.getfield 50, 3) := by decide +kernel
theorem dR_kindAt_102 : decode (am_by jR_kindAt) 102 = .ok (.bipush 8, 2) := by decide +kernel
theorem dR_kindAt_104 : decode (am_by jR_kindAt) 104 = .ok (.iload_n 2, 1) := by decide +kernel
theorem dR_kindAt_105 : decode (am_by jR_kindAt) 105 = .ok (.imul, 1) := by decide +kernel
theorem dR_kindAt_106 : decode (am_by jR_kindAt) 106 = .ok (.iload_n 3, 1) := by decide +kernel
theorem dR_kindAt_107 : decode (am_by jR_kindAt) 107 = .ok (.iadd, 1) := by decide +kernel
theorem dR_kindAt_108 : decode (am_by jR_kindAt) 108 = .ok (.iaload, 1) := by decide +kernel
theorem dR_kindAt_109 : decode (am_by jR_kindAt) 109 = .ok (.goto 5, 3) := by decide +kernel
theorem dR_kindAt_112 : decode (am_by jR_kindAt) 112 = .ok (.bipush (-2), 2) := by decide +kernel
theorem dR_kindAt_114 : decode (am_by jR_kindAt) 114 = .ok (.ireturn, 1) := by decide +kernel
theorem dR_kindAt_115 : decode (am_by jR_kindAt) 115 = .ok (.aload_n 0, 1) := by decide +kernel
theorem dR_kindAt_116 : decode (am_by jR_kindAt) 116 = .ok (.getfield 53, 3) := by decide +kernel
theorem dR_kindAt_119 : decode (am_by jR_kindAt) 119 = .ok (.bipush 8, 2) := by decide +kernel
theorem dR_kindAt_121 : decode (am_by jR_kindAt) 121 = .ok (.iload_n 2, 1) := by decide +kernel
theorem dR_kindAt_122 : decode (am_by jR_kindAt) 122 = .ok (.imul, 1) := by decide +kernel
theorem dR_kindAt_123 : decode (am_by jR_kindAt) 123 = .ok (.iload_n 3, 1) := by decide +kernel
theorem dR_kindAt_124 : decode (am_by jR_kindAt) 124 = .ok (.iadd, 1) := by decide +kernel
theorem dR_kindAt_125 : decode (am_by jR_kindAt) 125 = .ok (.bipush 10, 2) := by decide +kernel
theorem dR_kindAt_127 : decode (am_by jR_kindAt) 127 = .ok (.isub, 1) := by decide +kernel
theorem dR_kindAt_128 : decode (am_by jR_kindAt) 128 = .ok (.iaload, 1) := by decide +kernel
theorem dR_kindAt_129 : decode (am_by jR_kindAt) 129 = .ok (.ifCond .ge 8, 3) := by decide +kernel
theorem dR_kindAt_132 : decode (am_by jR_kindAt) 132 = .ok (.bipush (-2), 2) := by decide +kernel
theorem dR_kindAt_134 : decode (am_by jR_kindAt) 134 = .ok (.goto 17, 3) := by decide +kernel
theorem dR_kindAt_137 : decode (am_by jR_kindAt) 137 = .ok (.aload_n 0, 1) := by decide +kernel
theorem dR_kindAt_138 : decode (am_by jR_kindAt) 138 = .ok (.getfield 53, 3) := by decide +kernel
theorem dR_kindAt_141 : decode (am_by jR_kindAt) 141 = .ok (.bipush 8, 2) := by decide +kernel
theorem dR_kindAt_143 : decode (am_by jR_kindAt) 143 = .ok (.iload_n 2, 1) := by decide +kernel
theorem dR_kindAt_144 : decode (am_by jR_kindAt) 144 = .ok (.imul, 1) := by decide +kernel
theorem dR_kindAt_145 : decode (am_by jR_kindAt) 145 = .ok (.iload_n 3, 1) := by decide +kernel
theorem dR_kindAt_146 : decode (am_by jR_kindAt) 146 = .ok (.iadd, 1) := by decide +kernel
theorem dR_kindAt_147 : decode (am_by jR_kindAt) 147 = .ok (.bipush 10, 2) := by decide +kernel
theorem dR_kindAt_149 : decode (am_by jR_kindAt) 149 = .ok (.isub, 1) := by decide +kernel
theorem dR_kindAt_150 : decode (am_by jR_kindAt) 150 = .ok (.iaload, 1) := by decide +kernel
theorem dR_kindAt_151 : decode (am_by jR_kindAt) 151 = .ok (.ireturn, 1) := by decide +kernel
theorem dR_isUnder_0 : decode (am_by jR_isUnder) 0 = .ok (.iload_n 0, 1) := by decide +kernel
theorem dR_isUnder_1 : decode (am_by jR_isUnder) 1 = .ok (.istore_n 2, 1) := by decide +kernel
theorem dR_isUnder_2 : decode (am_by jR_isUnder) 2 = .ok (.iload_n 2, 1) := by decide +kernel
theorem dR_isUnder_3 : decode (am_by jR_isUnder) 3 = .ok (.ifCond .eq 42, 3) := by decide +kernel
theorem dR_isUnder_6 : decode (am_by jR_isUnder) 6 = .ok (.iload_n 2, 1) := by decide +kernel
theorem dR_isUnder_7 : decode (am_by jR_isUnder) 7 = .ok (.iload_n 1, 1) := by decide +kernel
theorem dR_isUnder_8 : decode (am_by jR_isUnder) 8 = .ok (.if_icmp .eq 37, 3) := by decide +kernel
theorem dR_isUnder_11 : decode (am_by jR_isUnder) 11 = .ok (.iload_n 2, 1) := by decide +kernel
theorem dR_isUnder_12 : decode (am_by jR_isUnder) 12 = .ok (.iconst 5, 1) := by decide +kernel
theorem dR_isUnder_13 : decode (am_by jR_isUnder) 13 = .ok (.if_icmp .ne 7, 3) := by decide +kernel
theorem dR_isUnder_16 : decode (am_by jR_isUnder) 16 = .ok (.iconst 1, 1) := by decide +kernel
theorem dR_isUnder_17 : decode (am_by jR_isUnder) 17 = .ok (.goto 24, 3) := by decide +kernel
theorem dR_isUnder_20 : decode (am_by jR_isUnder) 20 = .ok (.iload_n 2, 1) := by decide +kernel
theorem dR_isUnder_21 : decode (am_by jR_isUnder) 21 = .ok (.bipush 6, 2) := by decide +kernel
theorem dR_isUnder_23 : decode (am_by jR_isUnder) 23 = .ok (.if_icmp .ne 7, 3) := by decide +kernel
theorem dR_isUnder_26 : decode (am_by jR_isUnder) 26 = .ok (.iconst 2, 1) := by decide +kernel
theorem dR_isUnder_27 : decode (am_by jR_isUnder) 27 = .ok (.goto 14, 3) := by decide +kernel
theorem dR_isUnder_30 : decode (am_by jR_isUnder) 30 = .ok (.iload_n 2, 1) := by decide +kernel
theorem dR_isUnder_31 : decode (am_by jR_isUnder) 31 = .ok (.bipush 7, 2) := by decide +kernel
theorem dR_isUnder_33 : decode (am_by jR_isUnder) 33 = .ok (.if_icmp .ne 7, 3) := by decide +kernel
theorem dR_isUnder_36 : decode (am_by jR_isUnder) 36 = .ok (.iconst 5, 1) := by decide +kernel
theorem dR_isUnder_37 : decode (am_by jR_isUnder) 37 = .ok (.goto 4, 3) := by decide +kernel
theorem dR_isUnder_40 : decode (am_by jR_isUnder) 40 = .ok (.iconst 0, 1) := by decide +kernel
theorem dR_isUnder_41 : decode (am_by jR_isUnder) 41 = .ok (.istore_n 2, 1) := by decide +kernel
theorem dR_isUnder_42 : decode (am_by jR_isUnder) 42 = .ok (.goto (-40), 3) := by decide +kernel
theorem dR_isUnder_45 : decode (am_by jR_isUnder) 45 = .ok (.iload_n 2, 1) := by decide +kernel
theorem dR_isUnder_46 : decode (am_by jR_isUnder) 46 = .ok (.iload_n 1, 1) := by decide +kernel
theorem dR_isUnder_47 : decode (am_by jR_isUnder) 47 = .ok (.if_icmp .ne 7, 3) := by decide +kernel
theorem dR_isUnder_50 : decode (am_by jR_isUnder) 50 = .ok (.iconst 1, 1) := by decide +kernel
theorem dR_isUnder_51 : decode (am_by jR_isUnder) 51 = .ok (.goto 4, 3) := by decide +kernel
theorem dR_isUnder_54 : decode (am_by jR_isUnder) 54 = .ok (.iconst 0, 1) := by decide +kernel
theorem dR_isUnder_55 : decode (am_by jR_isUnder) 55 = .ok (.ireturn, 1) := by decide +kernel
theorem dR_tell_0 : decode (am_by jR_tell) 0 = .ok (.aload_n 0, 1) := by decide +kernel
theorem dR_tell_1 : decode (am_by jR_tell) 1 = .ok (.getfield 191, 3) := by decide +kernel
theorem dR_tell_4 : decode (am_by jR_tell) 4 = .ok (.bipush 120, 2) := by decide +kernel
theorem dR_tell_6 : decode (am_by jR_tell) 6 = .ok (.if_icmp .ge 18, 3) := by decide +kernel
theorem dR_tell_9 : decode (am_by jR_tell) 9 = .ok (.aload_n 0, 1) := by decide +kernel
theorem dR_tell_10 : decode (am_by jR_tell) 10 = .ok (.getfield 92, 3) := by decide +kernel
theorem dR_tell_13 : decode (am_by jR_tell) 13 = .ok (.aload_n 0, 1) := by decide +kernel
theorem dR_tell_14 : decode (am_by jR_tell) 14 = .ok (.getfield 191, 3) := by decide +kernel
theorem dR_tell_17 : decode (am_by jR_tell) 17 = .ok (.bipush 16, 2) := by decide +kernel
theorem dR_tell_19 : decode (am_by jR_tell) 19 = .ok (.iload_n 1, 1) := by decide +kernel
theorem dR_tell_20 : decode (am_by jR_tell) 20 = .ok (.imul, 1) := by decide +kernel
theorem dR_tell_21 : decode (am_by jR_tell) 21 = .ok (.iload_n 2, 1) := by decide +kernel
theorem dR_tell_22 : decode (am_by jR_tell) 22 = .ok (.iadd, 1) := by decide +kernel
theorem dR_tell_23 : decode (am_by jR_tell) 23 = .ok (.iastore, 1) := by decide +kernel
theorem dR_tell_24 : decode (am_by jR_tell) 24 = .ok (.aload_n 0, 1) := by decide +kernel
theorem dR_tell_25 : decode (am_by jR_tell) 25 = .ok (.dup, 1) := by decide +kernel
theorem dR_tell_26 : decode (am_by jR_tell) 26 = .ok (.getfield 191, 3) := by decide +kernel
theorem dR_tell_29 : decode (am_by jR_tell) 29 = .ok (.iconst 1, 1) := by decide +kernel
theorem dR_tell_30 : decode (am_by jR_tell) 30 = .ok (.iadd, 1) := by decide +kernel
theorem dR_tell_31 : decode (am_by jR_tell) 31 = .ok (.putfield 191, 3) := by decide +kernel
theorem dR_tell_34 : decode (am_by jR_tell) 34 = .ok (.return_, 1) := by decide +kernel
theorem dR_make_0 : decode (am_by jR_make) 0 = .ok (.aload_n 0, 1) := by decide +kernel
theorem dR_make_1 : decode (am_by jR_make) 1 = .ok (.getfield 65, 3) := by decide +kernel
theorem dR_make_4 : decode (am_by jR_make) 4 = .ok (.aload_n 0, 1) := by decide +kernel
theorem dR_make_5 : decode (am_by jR_make) 5 = .ok (.getfield 194, 3) := by decide +kernel
theorem dR_make_8 : decode (am_by jR_make) 8 = .ok (.iload_n 1, 1) := by decide +kernel
theorem dR_make_9 : decode (am_by jR_make) 9 = .ok (.iastore, 1) := by decide +kernel
theorem dR_make_10 : decode (am_by jR_make) 10 = .ok (.aload_n 0, 1) := by decide +kernel
theorem dR_make_11 : decode (am_by jR_make) 11 = .ok (.getfield 68, 3) := by decide +kernel
theorem dR_make_14 : decode (am_by jR_make) 14 = .ok (.aload_n 0, 1) := by decide +kernel
theorem dR_make_15 : decode (am_by jR_make) 15 = .ok (.getfield 194, 3) := by decide +kernel
theorem dR_make_18 : decode (am_by jR_make) 18 = .ok (.iconst 0, 1) := by decide +kernel
theorem dR_make_19 : decode (am_by jR_make) 19 = .ok (.iastore, 1) := by decide +kernel
theorem dR_make_20 : decode (am_by jR_make) 20 = .ok (.aload_n 0, 1) := by decide +kernel
theorem dR_make_21 : decode (am_by jR_make) 21 = .ok (.dup, 1) := by decide +kernel
theorem dR_make_22 : decode (am_by jR_make) 22 = .ok (.getfield 194, 3) := by decide +kernel
theorem dR_make_25 : decode (am_by jR_make) 25 = .ok (.iconst 1, 1) := by decide +kernel
theorem dR_make_26 : decode (am_by jR_make) 26 = .ok (.iadd, 1) := by decide +kernel
theorem dR_make_27 : decode (am_by jR_make) 27 = .ok (.putfield 194, 3) := by decide +kernel
theorem dR_make_30 : decode (am_by jR_make) 30 = .ok (.aload_n 0, 1) := by decide +kernel
theorem dR_make_31 : decode (am_by jR_make) 31 = .ok (.iload_n 1, 1) := by decide +kernel
theorem dR_make_32 : decode (am_by jR_make) 32 = .ok (.iconst 1, 1) := by decide +kernel
theorem dR_make_33 : decode (am_by jR_make) 33 = .ok (.invokevirtual 197, 3) := by decide +kernel
theorem dR_make_36 : decode (am_by jR_make) 36 = .ok (.aload_n 0, 1) := by decide +kernel
theorem dR_make_37 : decode (am_by jR_make) 37 = .ok (.getfield 194, 3) := by decide +kernel
theorem dR_make_40 : decode (am_by jR_make) 40 = .ok (.ireturn, 1) := by decide +kernel
theorem dR_begin_0 : decode (am_by jR_begin) 0 = .ok (.aload_n 0, 1) := by decide +kernel
theorem dR_begin_1 : decode (am_by jR_begin) 1 = .ok (.getfield 74, 3) := by decide +kernel
theorem dR_begin_4 : decode (am_by jR_begin) 4 = .ok (.aload_n 0, 1) := by decide +kernel
theorem dR_begin_5 : decode (am_by jR_begin) 5 = .ok (.getfield 200, 3) := by decide +kernel
theorem dR_begin_8 : decode (am_by jR_begin) 8 = .ok (.iload_n 1, 1) := by decide +kernel
theorem dR_begin_9 : decode (am_by jR_begin) 9 = .ok (.iastore, 1) := by decide +kernel
theorem dR_begin_10 : decode (am_by jR_begin) 10 = .ok (.aload_n 0, 1) := by decide +kernel
theorem dR_begin_11 : decode (am_by jR_begin) 11 = .ok (.getfield 77, 3) := by decide +kernel
theorem dR_begin_14 : decode (am_by jR_begin) 14 = .ok (.aload_n 0, 1) := by decide +kernel
theorem dR_begin_15 : decode (am_by jR_begin) 15 = .ok (.getfield 200, 3) := by decide +kernel
theorem dR_begin_18 : decode (am_by jR_begin) 18 = .ok (.iconst 0, 1) := by decide +kernel
theorem dR_begin_19 : decode (am_by jR_begin) 19 = .ok (.iastore, 1) := by decide +kernel
theorem dR_begin_20 : decode (am_by jR_begin) 20 = .ok (.aload_n 0, 1) := by decide +kernel
theorem dR_begin_21 : decode (am_by jR_begin) 21 = .ok (.getfield 80, 3) := by decide +kernel
theorem dR_begin_24 : decode (am_by jR_begin) 24 = .ok (.aload_n 0, 1) := by decide +kernel
theorem dR_begin_25 : decode (am_by jR_begin) 25 = .ok (.getfield 200, 3) := by decide +kernel
theorem dR_begin_28 : decode (am_by jR_begin) 28 = .ok (.iconst 0, 1) := by decide +kernel
theorem dR_begin_29 : decode (am_by jR_begin) 29 = .ok (.iastore, 1) := by decide +kernel
theorem dR_begin_30 : decode (am_by jR_begin) 30 = .ok (.aload_n 0, 1) := by decide +kernel
theorem dR_begin_31 : decode (am_by jR_begin) 31 = .ok (.getfield 83, 3) := by decide +kernel
theorem dR_begin_34 : decode (am_by jR_begin) 34 = .ok (.aload_n 0, 1) := by decide +kernel
theorem dR_begin_35 : decode (am_by jR_begin) 35 = .ok (.getfield 200, 3) := by decide +kernel
theorem dR_begin_38 : decode (am_by jR_begin) 38 = .ok (.aload_n 0, 1) := by decide +kernel
theorem dR_begin_39 : decode (am_by jR_begin) 39 = .ok (.getfield 203, 3) := by decide +kernel
theorem dR_begin_42 : decode (am_by jR_begin) 42 = .ok (.iastore, 1) := by decide +kernel
theorem dR_begin_43 : decode (am_by jR_begin) 43 = .ok (.aload_n 0, 1) := by decide +kernel
theorem dR_begin_44 : decode (am_by jR_begin) 44 = .ok (.getfield 40, 3) := by decide +kernel
theorem dR_begin_47 : decode (am_by jR_begin) 47 = .ok (.iload_n 1, 1) := by decide +kernel
theorem dR_begin_48 : decode (am_by jR_begin) 48 = .ok (.baload, 1) := by decide +kernel
theorem dR_begin_49 : decode (am_by jR_begin) 49 = .ok (.ifCond .eq 16, 3) := by decide +kernel
theorem dR_begin_52 : decode (am_by jR_begin) 52 = .ok (.aload_n 0, 1) := by decide +kernel
theorem dR_begin_53 : decode (am_by jR_begin) 53 = .ok (.sipush 4000, 3) := by decide +kernel
theorem dR_begin_56 : decode (am_by jR_begin) 56 = .ok (.iload_n 1, 1) := by decide +kernel
theorem dR_begin_57 : decode (am_by jR_begin) 57 = .ok (.bipush 6, 2) := by decide +kernel
theorem dR_begin_59 : decode (am_by jR_begin) 59 = .ok (.irem, 1) := by decide +kernel
theorem dR_begin_60 : decode (am_by jR_begin) 60 = .ok (.iadd, 1) := by decide +kernel
theorem dR_begin_61 : decode (am_by jR_begin) 61 = .ok (.iconst 2, 1) := by decide +kernel
theorem dR_begin_62 : decode (am_by jR_begin) 62 = .ok (.invokevirtual 197, 3) := by decide +kernel
theorem dR_begin_65 : decode (am_by jR_begin) 65 = .ok (.aload_n 0, 1) := by decide +kernel
theorem dR_begin_66 : decode (am_by jR_begin) 66 = .ok (.dup, 1) := by decide +kernel
theorem dR_begin_67 : decode (am_by jR_begin) 67 = .ok (.getfield 200, 3) := by decide +kernel
theorem dR_begin_70 : decode (am_by jR_begin) 70 = .ok (.iconst 1, 1) := by decide +kernel
theorem dR_begin_71 : decode (am_by jR_begin) 71 = .ok (.iadd, 1) := by decide +kernel
theorem dR_begin_72 : decode (am_by jR_begin) 72 = .ok (.putfield 200, 3) := by decide +kernel
theorem dR_begin_75 : decode (am_by jR_begin) 75 = .ok (.aload_n 0, 1) := by decide +kernel
theorem dR_begin_76 : decode (am_by jR_begin) 76 = .ok (.getfield 200, 3) := by decide +kernel
theorem dR_begin_79 : decode (am_by jR_begin) 79 = .ok (.aload_n 0, 1) := by decide +kernel
theorem dR_begin_80 : decode (am_by jR_begin) 80 = .ok (.getfield 206, 3) := by decide +kernel
theorem dR_begin_83 : decode (am_by jR_begin) 83 = .ok (.if_icmp .le 11, 3) := by decide +kernel
theorem dR_begin_86 : decode (am_by jR_begin) 86 = .ok (.aload_n 0, 1) := by decide +kernel
theorem dR_begin_87 : decode (am_by jR_begin) 87 = .ok (.aload_n 0, 1) := by decide +kernel
theorem dR_begin_88 : decode (am_by jR_begin) 88 = .ok (.getfield 200, 3) := by decide +kernel
theorem dR_begin_91 : decode (am_by jR_begin) 91 = .ok (.putfield 206, 3) := by decide +kernel
theorem dR_begin_94 : decode (am_by jR_begin) 94 = .ok (.return_, 1) := by decide +kernel
theorem dR_finish_0 : decode (am_by jR_finish) 0 = .ok (.aload_n 0, 1) := by decide +kernel
theorem dR_finish_1 : decode (am_by jR_finish) 1 = .ok (.getfield 200, 3) := by decide +kernel
theorem dR_finish_4 : decode (am_by jR_finish) 4 = .ok (.iconst 1, 1) := by decide +kernel
theorem dR_finish_5 : decode (am_by jR_finish) 5 = .ok (.isub, 1) := by decide +kernel
theorem dR_finish_6 : decode (am_by jR_finish) 6 = .ok (.istore_n 2, 1) := by decide +kernel
theorem dR_finish_7 : decode (am_by jR_finish) 7 = .ok (.iload_n 1, 1) := by decide +kernel
theorem dR_finish_8 : decode (am_by jR_finish) 8 = .ok (.istore_n 3, 1) := by decide +kernel
theorem dR_finish_9 : decode (am_by jR_finish) 9 = .ok (.aload_n 0, 1) := by decide +kernel
theorem dR_finish_10 : decode (am_by jR_finish) 10 = .ok (.getfield 203, 3) := by decide +kernel
theorem dR_finish_13 : decode (am_by jR_finish) 13 = .ok (.aload_n 0, 1) := by decide +kernel
theorem dR_finish_14 : decode (am_by jR_finish) 14 = .ok (.getfield 83, 3) := by decide +kernel
theorem dR_finish_17 : decode (am_by jR_finish) 17 = .ok (.iload_n 2, 1) := by decide +kernel
theorem dR_finish_18 : decode (am_by jR_finish) 18 = .ok (.iaload, 1) := by decide +kernel
theorem dR_finish_19 : decode (am_by jR_finish) 19 = .ok (.if_icmp .le 7, 3) := by decide +kernel
theorem dR_finish_22 : decode (am_by jR_finish) 22 = .ok (.iconst 1, 1) := by decide +kernel
theorem dR_finish_23 : decode (am_by jR_finish) 23 = .ok (.goto 4, 3) := by decide +kernel
theorem dR_finish_26 : decode (am_by jR_finish) 26 = .ok (.iconst 0, 1) := by decide +kernel
theorem dR_finish_27 : decode (am_by jR_finish) 27 = .ok (.istore 4, 2) := by decide +kernel
theorem dR_finish_29 : decode (am_by jR_finish) 29 = .ok (.aload_n 0, 1) := by decide +kernel
theorem dR_finish_30 : decode (am_by jR_finish) 30 = .ok (.getfield 203, 3) := by decide +kernel
theorem dR_finish_33 : decode (am_by jR_finish) 33 = .ok (.aload_n 0, 1) := by decide +kernel
theorem dR_finish_34 : decode (am_by jR_finish) 34 = .ok (.getfield 83, 3) := by decide +kernel
theorem dR_finish_37 : decode (am_by jR_finish) 37 = .ok (.iload_n 2, 1) := by decide +kernel
theorem dR_finish_38 : decode (am_by jR_finish) 38 = .ok (.iaload, 1) := by decide +kernel
theorem dR_finish_39 : decode (am_by jR_finish) 39 = .ok (.if_icmp .le 30, 3) := by decide +kernel
theorem dR_finish_42 : decode (am_by jR_finish) 42 = .ok (.aload_n 0, 1) := by decide +kernel
theorem dR_finish_43 : decode (am_by jR_finish) 43 = .ok (.dup, 1) := by decide +kernel
theorem dR_finish_44 : decode (am_by jR_finish) 44 = .ok (.getfield 203, 3) := by decide +kernel
theorem dR_finish_47 : decode (am_by jR_finish) 47 = .ok (.iconst 1, 1) := by decide +kernel
theorem dR_finish_48 : decode (am_by jR_finish) 48 = .ok (.isub, 1) := by decide +kernel
theorem dR_finish_49 : decode (am_by jR_finish) 49 = .ok (.putfield 203, 3) := by decide +kernel
theorem dR_finish_52 : decode (am_by jR_finish) 52 = .ok (.aload_n 0, 1) := by decide +kernel
theorem dR_finish_53 : decode (am_by jR_finish) 53 = .ok (.aload_n 0, 1) := by decide +kernel
theorem dR_finish_54 : decode (am_by jR_finish) 54 = .ok (.getfield 71, 3) := by decide +kernel
theorem dR_finish_57 : decode (am_by jR_finish) 57 = .ok (.aload_n 0, 1) := by decide +kernel
theorem dR_finish_58 : decode (am_by jR_finish) 58 = .ok (.getfield 203, 3) := by decide +kernel
theorem dR_finish_61 : decode (am_by jR_finish) 61 = .ok (.iaload, 1) := by decide +kernel
theorem dR_finish_62 : decode (am_by jR_finish) 62 = .ok (.iconst 3, 1) := by decide +kernel
theorem dR_finish_63 : decode (am_by jR_finish) 63 = .ok (.invokevirtual 197, 3) := by decide +kernel
theorem dR_finish_66 : decode (am_by jR_finish) 66 = .ok (.goto (-37), 3) := by decide +kernel
theorem dR_finish_69 : decode (am_by jR_finish) 69 = .ok (.iload 4, 2) := by decide +kernel
theorem dR_finish_71 : decode (am_by jR_finish) 71 = .ok (.ifCond .eq 15, 3) := by decide +kernel
theorem dR_finish_74 : decode (am_by jR_finish) 74 = .ok (.aload_n 0, 1) := by decide +kernel
theorem dR_finish_75 : decode (am_by jR_finish) 75 = .ok (.iconst 3, 1) := by decide +kernel
theorem dR_finish_76 : decode (am_by jR_finish) 76 = .ok (.invokevirtual 209, 3) := by decide +kernel
theorem dR_finish_79 : decode (am_by jR_finish) 79 = .ok (.istore_n 3, 1) := by decide +kernel
theorem dR_finish_80 : decode (am_by jR_finish) 80 = .ok (.aload_n 0, 1) := by decide +kernel
theorem dR_finish_81 : decode (am_by jR_finish) 81 = .ok (.iconst 3, 1) := by decide +kernel
theorem dR_finish_82 : decode (am_by jR_finish) 82 = .ok (.iconst 4, 1) := by decide +kernel
theorem dR_finish_83 : decode (am_by jR_finish) 83 = .ok (.invokevirtual 197, 3) := by decide +kernel
theorem dR_finish_86 : decode (am_by jR_finish) 86 = .ok (.aload_n 0, 1) := by decide +kernel
theorem dR_finish_87 : decode (am_by jR_finish) 87 = .ok (.getfield 40, 3) := by decide +kernel
theorem dR_finish_90 : decode (am_by jR_finish) 90 = .ok (.aload_n 0, 1) := by decide +kernel
theorem dR_finish_91 : decode (am_by jR_finish) 91 = .ok (.getfield 74, 3) := by decide +kernel
theorem dR_finish_94 : decode (am_by jR_finish) 94 = .ok (.iload_n 2, 1) := by decide +kernel
theorem dR_finish_95 : decode (am_by jR_finish) 95 = .ok (.iaload, 1) := by decide +kernel
theorem dR_finish_96 : decode (am_by jR_finish) 96 = .ok (.baload, 1) := by decide +kernel
theorem dR_finish_97 : decode (am_by jR_finish) 97 = .ok (.ifCond .eq 21, 3) := by decide +kernel
theorem dR_finish_100 : decode (am_by jR_finish) 100 = .ok (.aload_n 0, 1) := by decide +kernel
theorem dR_finish_101 : decode (am_by jR_finish) 101 = .ok (.sipush 4000, 3) := by decide +kernel
theorem dR_finish_104 : decode (am_by jR_finish) 104 = .ok (.aload_n 0, 1) := by decide +kernel
theorem dR_finish_105 : decode (am_by jR_finish) 105 = .ok (.getfield 74, 3) := by decide +kernel
theorem dR_finish_108 : decode (am_by jR_finish) 108 = .ok (.iload_n 2, 1) := by decide +kernel
theorem dR_finish_109 : decode (am_by jR_finish) 109 = .ok (.iaload, 1) := by decide +kernel
theorem dR_finish_110 : decode (am_by jR_finish) 110 = .ok (.bipush 6, 2) := by decide +kernel
theorem dR_finish_112 : decode (am_by jR_finish) 112 = .ok (.irem, 1) := by decide +kernel
theorem dR_finish_113 : decode (am_by jR_finish) 113 = .ok (.iadd, 1) := by decide +kernel
theorem dR_finish_114 : decode (am_by jR_finish) 114 = .ok (.iconst 3, 1) := by decide +kernel
theorem dR_finish_115 : decode (am_by jR_finish) 115 = .ok (.invokevirtual 197, 3) := by decide +kernel
theorem dR_finish_118 : decode (am_by jR_finish) 118 = .ok (.aload_n 0, 1) := by decide +kernel
theorem dR_finish_119 : decode (am_by jR_finish) 119 = .ok (.dup, 1) := by decide +kernel
theorem dR_finish_120 : decode (am_by jR_finish) 120 = .ok (.getfield 200, 3) := by decide +kernel
theorem dR_finish_123 : decode (am_by jR_finish) 123 = .ok (.iconst 1, 1) := by decide +kernel
theorem dR_finish_124 : decode (am_by jR_finish) 124 = .ok (.isub, 1) := by decide +kernel
theorem dR_finish_125 : decode (am_by jR_finish) 125 = .ok (.putfield 200, 3) := by decide +kernel
theorem dR_finish_128 : decode (am_by jR_finish) 128 = .ok (.iload_n 3, 1) := by decide +kernel
theorem dR_finish_129 : decode (am_by jR_finish) 129 = .ok (.ireturn, 1) := by decide +kernel
theorem dR_raise_0 : decode (am_by jR_raise) 0 = .ok (.iload_n 1, 1) := by decide +kernel
theorem dR_raise_1 : decode (am_by jR_raise) 1 = .ok (.istore_n 2, 1) := by decide +kernel
theorem dR_raise_2 : decode (am_by jR_raise) 2 = .ok (.aload_n 0, 1) := by decide +kernel
theorem dR_raise_3 : decode (am_by jR_raise) 3 = .ok (.getfield 200, 3) := by decide +kernel
theorem dR_raise_6 : decode (am_by jR_raise) 6 = .ok (.ifCond .le 166, 3) := by decide +kernel
theorem dR_raise_9 : decode (am_by jR_raise) 9 = .ok (.aload_n 0, 1) := by decide +kernel
theorem dR_raise_10 : decode (am_by jR_raise) 10 = .ok (.getfield 200, 3) := by decide +kernel
theorem dR_raise_13 : decode (am_by jR_raise) 13 = .ok (.iconst 1, 1) := by decide +kernel
theorem dR_raise_14 : decode (am_by jR_raise) 14 = .ok (.isub, 1) := by decide +kernel
theorem dR_raise_15 : decode (am_by jR_raise) 15 = .ok (.istore_n 3, 1) := by decide +kernel
theorem dR_raise_16 : decode (am_by jR_raise) 16 = .ok (.aload_n 0, 1) := by decide +kernel
theorem dR_raise_17 : decode (am_by jR_raise) 17 = .ok (.getfield 74, 3) := by decide +kernel
theorem dR_raise_20 : decode (am_by jR_raise) 20 = .ok (.iload_n 3, 1) := by decide +kernel
theorem dR_raise_21 : decode (am_by jR_raise) 21 = .ok (.iaload, 1) := by decide +kernel
theorem dR_raise_22 : decode (am_by jR_raise) 22 = .ok (.istore 4, 2) := by decide +kernel
theorem dR_raise_24 : decode (am_by jR_raise) 24 = .ok (.aload_n 0, 1) := by decide +kernel
theorem dR_raise_25 : decode (am_by jR_raise) 25 = .ok (.getfield 65, 3) := by decide +kernel
theorem dR_raise_28 : decode (am_by jR_raise) 28 = .ok (.iload_n 2, 1) := by decide +kernel
theorem dR_raise_29 : decode (am_by jR_raise) 29 = .ok (.iconst 1, 1) := by decide +kernel
theorem dR_raise_30 : decode (am_by jR_raise) 30 = .ok (.isub, 1) := by decide +kernel
theorem dR_raise_31 : decode (am_by jR_raise) 31 = .ok (.iaload, 1) := by decide +kernel
theorem dR_raise_32 : decode (am_by jR_raise) 32 = .ok (.istore 5, 2) := by decide +kernel
theorem dR_raise_34 : decode (am_by jR_raise) 34 = .ok (.iconst 0, 1) := by decide +kernel
theorem dR_raise_35 : decode (am_by jR_raise) 35 = .ok (.istore 6, 2) := by decide +kernel
theorem dR_raise_37 : decode (am_by jR_raise) 37 = .ok (.iload 6, 2) := by decide +kernel
theorem dR_raise_39 : decode (am_by jR_raise) 39 = .ok (.aload_n 0, 1) := by decide +kernel
theorem dR_raise_40 : decode (am_by jR_raise) 40 = .ok (.getfield 25, 3) := by decide +kernel
theorem dR_raise_43 : decode (am_by jR_raise) 43 = .ok (.iload 4, 2) := by decide +kernel
theorem dR_raise_45 : decode (am_by jR_raise) 45 = .ok (.iaload, 1) := by decide +kernel
theorem dR_raise_46 : decode (am_by jR_raise) 46 = .ok (.if_icmp .ge 117, 3) := by decide +kernel
theorem dR_raise_49 : decode (am_by jR_raise) 49 = .ok (.bipush 8, 2) := by decide +kernel
theorem dR_raise_51 : decode (am_by jR_raise) 51 = .ok (.iload 4, 2) := by decide +kernel
theorem dR_raise_53 : decode (am_by jR_raise) 53 = .ok (.imul, 1) := by decide +kernel
theorem dR_raise_54 : decode (am_by jR_raise) 54 = .ok (.iload 6, 2) := by decide +kernel
theorem dR_raise_56 : decode (am_by jR_raise) 56 = .ok (.iadd, 1) := by decide +kernel
theorem dR_raise_57 : decode (am_by jR_raise) 57 = .ok (.istore 7, 2) := by decide +kernel
theorem dR_raise_59 : decode (am_by jR_raise) 59 = .ok (.aload_n 0, 1) := by decide +kernel
theorem dR_raise_60 : decode (am_by jR_raise) 60 = .ok (.getfield 77, 3) := by decide +kernel
theorem dR_raise_63 : decode (am_by jR_raise) 63 = .ok (.iload_n 3, 1) := by decide +kernel
theorem dR_raise_64 : decode (am_by jR_raise) 64 = .ok (.iaload, 1) := by decide +kernel
theorem dR_raise_65 : decode (am_by jR_raise) 65 = .ok (.aload_n 0, 1) := by decide +kernel
theorem dR_raise_66 : decode (am_by jR_raise) 66 = .ok (.getfield 28, 3) := by decide +kernel
theorem dR_raise_69 : decode (am_by jR_raise) 69 = .ok (.iload 7, 2) := by decide +kernel
