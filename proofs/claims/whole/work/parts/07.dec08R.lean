theorem dR_init_0 : decode (am_by jR_init) 0 = .ok (.aload_n 0, 1) := by decide +kernel
theorem dR_init_1 : decode (am_by jR_init) 1 = .ok (.invokespecial 1, 3) := by decide +kernel
theorem dR_init_4 : decode (am_by jR_init) 4 = .ok (.aload_n 0, 1) := by decide +kernel
theorem dR_init_5 : decode (am_by jR_init) 5 = .ok (.sipush 720, 3) := by decide +kernel
theorem dR_init_8 : decode (am_by jR_init) 8 = .ok (.newarray .int, 2) := by decide +kernel
theorem dR_init_10 : decode (am_by jR_init) 10 = .ok (.putfield 7, 3) := by decide +kernel
theorem dR_init_13 : decode (am_by jR_init) 13 = .ok (.aload_n 0, 1) := by decide +kernel
theorem dR_init_14 : decode (am_by jR_init) 14 = .ok (.sipush 720, 3) := by decide +kernel
theorem dR_init_17 : decode (am_by jR_init) 17 = .ok (.newarray .int, 2) := by decide +kernel
theorem dR_init_19 : decode (am_by jR_init) 19 = .ok (.putfield 13, 3) := by decide +kernel
theorem dR_init_22 : decode (am_by jR_init) 22 = .ok (.aload_n 0, 1) := by decide +kernel
theorem dR_init_23 : decode (am_by jR_init) 23 = .ok (.sipush 720, 3) := by decide +kernel
theorem dR_init_26 : decode (am_by jR_init) 26 = .ok (.newarray .int, 2) := by decide +kernel
theorem dR_init_28 : decode (am_by jR_init) 28 = .ok (.putfield 16, 3) := by decide +kernel
theorem dR_init_31 : decode (am_by jR_init) 31 = .ok (.aload_n 0, 1) := by decide +kernel
theorem dR_init_32 : decode (am_by jR_init) 32 = .ok (.bipush 12, 2) := by decide +kernel
theorem dR_init_34 : decode (am_by jR_init) 34 = .ok (.newarray .int, 2) := by decide +kernel
theorem dR_init_36 : decode (am_by jR_init) 36 = .ok (.putfield 19, 3) := by decide +kernel
theorem dR_init_39 : decode (am_by jR_init) 39 = .ok (.aload_n 0, 1) := by decide +kernel
theorem dR_init_40 : decode (am_by jR_init) 40 = .ok (.bipush 12, 2) := by decide +kernel
theorem dR_init_42 : decode (am_by jR_init) 42 = .ok (.newarray .int, 2) := by decide +kernel
theorem dR_init_44 : decode (am_by jR_init) 44 = .ok (.putfield 22, 3) := by decide +kernel
theorem dR_init_47 : decode (am_by jR_init) 47 = .ok (.aload_n 0, 1) := by decide +kernel
theorem dR_init_48 : decode (am_by jR_init) 48 = .ok (.bipush 12, 2) := by decide +kernel
theorem dR_init_50 : decode (am_by jR_init) 50 = .ok (.newarray .int, 2) := by decide +kernel
theorem dR_init_52 : decode (am_by jR_init) 52 = .ok (.putfield 25, 3) := by decide +kernel
theorem dR_init_55 : decode (am_by jR_init) 55 = .ok (.aload_n 0, 1) := by decide +kernel
theorem dR_init_56 : decode (am_by jR_init) 56 = .ok (.bipush 96, 2) := by decide +kernel
theorem dR_init_58 : decode (am_by jR_init) 58 = .ok (.newarray .int, 2) := by decide +kernel
theorem dR_init_60 : decode (am_by jR_init) 60 = .ok (.putfield 28, 3) := by decide +kernel
theorem dR_init_63 : decode (am_by jR_init) 63 = .ok (.aload_n 0, 1) := by decide +kernel
theorem dR_init_64 : decode (am_by jR_init) 64 = .ok (.bipush 96, 2) := by decide +kernel
theorem dR_init_66 : decode (am_by jR_init) 66 = .ok (.newarray .int, 2) := by decide +kernel
theorem dR_init_68 : decode (am_by jR_init) 68 = .ok (.putfield 31, 3) := by decide +kernel
theorem dR_init_71 : decode (am_by jR_init) 71 = .ok (.aload_n 0, 1) := by decide +kernel
theorem dR_init_72 : decode (am_by jR_init) 72 = .ok (.bipush 96, 2) := by decide +kernel
theorem dR_init_74 : decode (am_by jR_init) 74 = .ok (.newarray .int, 2) := by decide +kernel
theorem dR_init_76 : decode (am_by jR_init) 76 = .ok (.putfield 34, 3) := by decide +kernel
theorem dR_init_79 : decode (am_by jR_init) 79 = .ok (.aload_n 0, 1) := by decide +kernel
theorem dR_init_80 : decode (am_by jR_init) 80 = .ok (.bipush 96, 2) := by decide +kernel
theorem dR_init_82 : decode (am_by jR_init) 82 = .ok (.newarray .int, 2) := by decide +kernel
theorem dR_init_84 : decode (am_by jR_init) 84 = .ok (.putfield 37, 3) := by decide +kernel
theorem dR_init_87 : decode (am_by jR_init) 87 = .ok (.aload_n 0, 1) := by decide +kernel
theorem dR_init_88 : decode (am_by jR_init) 88 = .ok (.bipush 12, 2) := by decide +kernel
theorem dR_init_90 : decode (am_by jR_init) 90 = .ok (.newarray .boolean, 2) := by decide +kernel
theorem dR_init_92 : decode (am_by jR_init) 92 = .ok (.putfield 40, 3) := by decide +kernel
theorem dR_init_95 : decode (am_by jR_init) 95 = .ok (.aload_n 0, 1) := by decide +kernel
theorem dR_init_96 : decode (am_by jR_init) 96 = .ok (.bipush 60, 2) := by decide +kernel
theorem dR_init_98 : decode (am_by jR_init) 98 = .ok (.newarray .boolean, 2) := by decide +kernel
theorem dR_init_100 : decode (am_by jR_init) 100 = .ok (.putfield 44, 3) := by decide +kernel
theorem dR_init_103 : decode (am_by jR_init) 103 = .ok (.aload_n 0, 1) := by decide +kernel
theorem dR_init_104 : decode (am_by jR_init) 104 = .ok (.bipush 60, 2) := by decide +kernel
theorem dR_init_106 : decode (am_by jR_init) 106 = .ok (.newarray .int, 2) := by decide +kernel
theorem dR_init_108 : decode (am_by jR_init) 108 = .ok (.putfield 47, 3) := by decide +kernel
theorem dR_init_111 : decode (am_by jR_init) 111 = .ok (.aload_n 0, 1) := by decide +kernel
theorem dR_init_112 : decode (am_by jR_init) 112 = .ok (.sipush 480, 3) := by decide +kernel
theorem dR_init_115 : decode (am_by jR_init) 115 = .ok (.newarray .int, 2) := by decide +kernel
theorem dR_init_117 : decode (am_by jR_init) 117 = .ok (.putfield 50, 3) := by decide +kernel
theorem dR_init_120 : decode (am_by jR_init) 120 = .ok (.aload_n 0, 1) := by decide +kernel
theorem dR_init_121 : decode (am_by jR_init) 121 = .ok (.sipush 480, 3) := by decide +kernel
theorem dR_init_124 : decode (am_by jR_init) 124 = .ok (.newarray .int, 2) := by decide +kernel
theorem dR_init_126 : decode (am_by jR_init) 126 = .ok (.putfield 53, 3) := by decide +kernel
theorem dR_init_129 : decode (am_by jR_init) 129 = .ok (.aload_n 0, 1) := by decide +kernel
theorem dR_init_130 : decode (am_by jR_init) 130 = .ok (.bipush 8, 2) := by decide +kernel
theorem dR_init_132 : decode (am_by jR_init) 132 = .ok (.newarray .int, 2) := by decide +kernel
theorem dR_init_134 : decode (am_by jR_init) 134 = .ok (.putfield 56, 3) := by decide +kernel
theorem dR_init_137 : decode (am_by jR_init) 137 = .ok (.aload_n 0, 1) := by decide +kernel
theorem dR_init_138 : decode (am_by jR_init) 138 = .ok (.bipush 8, 2) := by decide +kernel
theorem dR_init_140 : decode (am_by jR_init) 140 = .ok (.newarray .int, 2) := by decide +kernel
theorem dR_init_142 : decode (am_by jR_init) 142 = .ok (.putfield 59, 3) := by decide +kernel
theorem dR_init_145 : decode (am_by jR_init) 145 = .ok (.aload_n 0, 1) := by decide +kernel
theorem dR_init_146 : decode (am_by jR_init) 146 = .ok (.bipush 6, 2) := by decide +kernel
theorem dR_init_148 : decode (am_by jR_init) 148 = .ok (.newarray .boolean, 2) := by decide +kernel
theorem dR_init_150 : decode (am_by jR_init) 150 = .ok (.putfield 62, 3) := by decide +kernel
theorem dR_init_153 : decode (am_by jR_init) 153 = .ok (.aload_n 0, 1) := by decide +kernel
theorem dR_init_154 : decode (am_by jR_init) 154 = .ok (.sipush 2200, 3) := by decide +kernel
theorem dR_init_157 : decode (am_by jR_init) 157 = .ok (.newarray .int, 2) := by decide +kernel
theorem dR_init_159 : decode (am_by jR_init) 159 = .ok (.putfield 65, 3) := by decide +kernel
theorem dR_init_162 : decode (am_by jR_init) 162 = .ok (.aload_n 0, 1) := by decide +kernel
theorem dR_init_163 : decode (am_by jR_init) 163 = .ok (.sipush 2200, 3) := by decide +kernel
theorem dR_init_166 : decode (am_by jR_init) 166 = .ok (.newarray .int, 2) := by decide +kernel
theorem dR_init_168 : decode (am_by jR_init) 168 = .ok (.putfield 68, 3) := by decide +kernel
theorem dR_init_171 : decode (am_by jR_init) 171 = .ok (.aload_n 0, 1) := by decide +kernel
theorem dR_init_172 : decode (am_by jR_init) 172 = .ok (.sipush 1100, 3) := by decide +kernel
theorem dR_init_175 : decode (am_by jR_init) 175 = .ok (.newarray .int, 2) := by decide +kernel
theorem dR_init_177 : decode (am_by jR_init) 177 = .ok (.putfield 71, 3) := by decide +kernel
theorem dR_init_180 : decode (am_by jR_init) 180 = .ok (.aload_n 0, 1) := by decide +kernel
theorem dR_init_181 : decode (am_by jR_init) 181 = .ok (.bipush 12, 2) := by decide +kernel
theorem dR_init_183 : decode (am_by jR_init) 183 = .ok (.newarray .int, 2) := by decide +kernel
theorem dR_init_185 : decode (am_by jR_init) 185 = .ok (.putfield 74, 3) := by decide +kernel
theorem dR_init_188 : decode (am_by jR_init) 188 = .ok (.aload_n 0, 1) := by decide +kernel
theorem dR_init_189 : decode (am_by jR_init) 189 = .ok (.bipush 12, 2) := by decide +kernel
theorem dR_init_191 : decode (am_by jR_init) 191 = .ok (.newarray .int, 2) := by decide +kernel
theorem dR_init_193 : decode (am_by jR_init) 193 = .ok (.putfield 77, 3) := by decide +kernel
theorem dR_init_196 : decode (am_by jR_init) 196 = .ok (.aload_n 0, 1) := by decide +kernel
theorem dR_init_197 : decode (am_by jR_init) 197 = .ok (.bipush 12, 2) := by decide +kernel
theorem dR_init_199 : decode (am_by jR_init) 199 = .ok (.newarray .int, 2) := by decide +kernel
theorem dR_init_201 : decode (am_by jR_init) 201 = .ok (.putfield 80, 3) := by decide +kernel
theorem dR_init_204 : decode (am_by jR_init) 204 = .ok (.aload_n 0, 1) := by decide +kernel
theorem dR_init_205 : decode (am_by jR_init) 205 = .ok (.bipush 12, 2) := by decide +kernel
theorem dR_init_207 : decode (am_by jR_init) 207 = .ok (.newarray .int, 2) := by decide +kernel
theorem dR_init_209 : decode (am_by jR_init) 209 = .ok (.putfield 83, 3) := by decide +kernel
theorem dR_init_212 : decode (am_by jR_init) 212 = .ok (.aload_n 0, 1) := by decide +kernel
theorem dR_init_213 : decode (am_by jR_init) 213 = .ok (.bipush 96, 2) := by decide +kernel
theorem dR_init_215 : decode (am_by jR_init) 215 = .ok (.newarray .int, 2) := by decide +kernel
theorem dR_init_217 : decode (am_by jR_init) 217 = .ok (.putfield 86, 3) := by decide +kernel
theorem dR_init_220 : decode (am_by jR_init) 220 = .ok (.aload_n 0, 1) := by decide +kernel
theorem dR_init_221 : decode (am_by jR_init) 221 = .ok (.bipush 96, 2) := by decide +kernel
theorem dR_init_223 : decode (am_by jR_init) 223 = .ok (.newarray .int, 2) := by decide +kernel
theorem dR_init_225 : decode (am_by jR_init) 225 = .ok (.putfield 89, 3) := by decide +kernel
theorem dR_init_228 : decode (am_by jR_init) 228 = .ok (.aload_n 0, 1) := by decide +kernel
theorem dR_init_229 : decode (am_by jR_init) 229 = .ok (.bipush 120, 2) := by decide +kernel
theorem dR_init_231 : decode (am_by jR_init) 231 = .ok (.newarray .int, 2) := by decide +kernel
theorem dR_init_233 : decode (am_by jR_init) 233 = .ok (.putfield 92, 3) := by decide +kernel
theorem dR_init_236 : decode (am_by jR_init) 236 = .ok (.aload_n 0, 1) := by decide +kernel
theorem dR_init_237 : decode (am_by jR_init) 237 = .ok (.bipush 120, 2) := by decide +kernel
theorem dR_init_239 : decode (am_by jR_init) 239 = .ok (.newarray .int, 2) := by decide +kernel
theorem dR_init_241 : decode (am_by jR_init) 241 = .ok (.putfield 95, 3) := by decide +kernel
theorem dR_init_244 : decode (am_by jR_init) 244 = .ok (.aload_n 0, 1) := by decide +kernel
theorem dR_init_245 : decode (am_by jR_init) 245 = .ok (.sipush 130, 3) := by decide +kernel
theorem dR_init_248 : decode (am_by jR_init) 248 = .ok (.newarray .int, 2) := by decide +kernel
theorem dR_init_250 : decode (am_by jR_init) 250 = .ok (.putfield 98, 3) := by decide +kernel
theorem dR_init_253 : decode (am_by jR_init) 253 = .ok (.aload_n 0, 1) := by decide +kernel
theorem dR_init_254 : decode (am_by jR_init) 254 = .ok (.sipush 130, 3) := by decide +kernel
theorem dR_init_257 : decode (am_by jR_init) 257 = .ok (.newarray .int, 2) := by decide +kernel
theorem dR_init_259 : decode (am_by jR_init) 259 = .ok (.putfield 101, 3) := by decide +kernel
theorem dR_init_262 : decode (am_by jR_init) 262 = .ok (.aload_n 0, 1) := by decide +kernel
theorem dR_init_263 : decode (am_by jR_init) 263 = .ok (.sipush 130, 3) := by decide +kernel
theorem dR_init_266 : decode (am_by jR_init) 266 = .ok (.newarray .int, 2) := by decide +kernel
theorem dR_init_268 : decode (am_by jR_init) 268 = .ok (.putfield 104, 3) := by decide +kernel
theorem dR_init_271 : decode (am_by jR_init) 271 = .ok (.aload_n 0, 1) := by decide +kernel
theorem dR_init_272 : decode (am_by jR_init) 272 = .ok (.bipush 40, 2) := by decide +kernel
theorem dR_init_274 : decode (am_by jR_init) 274 = .ok (.newarray .int, 2) := by decide +kernel
theorem dR_init_276 : decode (am_by jR_init) 276 = .ok (.putfield 107, 3) := by decide +kernel
theorem dR_init_279 : decode (am_by jR_init) 279 = .ok (.aload_n 0, 1) := by decide +kernel
theorem dR_init_280 : decode (am_by jR_init) 280 = .ok (.bipush 40, 2) := by decide +kernel
theorem dR_init_282 : decode (am_by jR_init) 282 = .ok (.newarray .int, 2) := by decide +kernel
theorem dR_init_284 : decode (am_by jR_init) 284 = .ok (.putfield 110, 3) := by decide +kernel
theorem dR_init_287 : decode (am_by jR_init) 287 = .ok (.aload_n 0, 1) := by decide +kernel
theorem dR_init_288 : decode (am_by jR_init) 288 = .ok (.bipush 40, 2) := by decide +kernel
theorem dR_init_290 : decode (am_by jR_init) 290 = .ok (.newarray .int, 2) := by decide +kernel
theorem dR_init_292 : decode (am_by jR_init) 292 = .ok (.putfield 113, 3) := by decide +kernel
theorem dR_init_295 : decode (am_by jR_init) 295 = .ok (.aload_n 0, 1) := by decide +kernel
theorem dR_init_296 : decode (am_by jR_init) 296 = .ok (.bipush 40, 2) := by decide +kernel
theorem dR_init_298 : decode (am_by jR_init) 298 = .ok (.newarray .int, 2) := by decide +kernel
theorem dR_init_300 : decode (am_by jR_init) 300 = .ok (.putfield 116, 3) := by decide +kernel
theorem dR_init_303 : decode (am_by jR_init) 303 = .ok (.return_, 1) := by decide +kernel
theorem dR_in_0 : decode (am_by jR_in) 0 = .ok (.iload_n 0, 1) := by decide +kernel
theorem dR_in_1 : decode (am_by jR_in) 1 = .ok (.iload_n 1, 1) := by decide +kernel
theorem dR_in_2 : decode (am_by jR_in) 2 = .ok (.if_icmp .lt 12, 3) := by decide +kernel
theorem dR_in_5 : decode (am_by jR_in) 5 = .ok (.iload_n 0, 1) := by decide +kernel
theorem dR_in_6 : decode (am_by jR_in) 6 = .ok (.iload_n 2, 1) := by decide +kernel
theorem dR_in_7 : decode (am_by jR_in) 7 = .ok (.if_icmp .gt 7, 3) := by decide +kernel
theorem dR_in_10 : decode (am_by jR_in) 10 = .ok (.iconst 1, 1) := by decide +kernel
theorem dR_in_11 : decode (am_by jR_in) 11 = .ok (.goto 4, 3) := by decide +kernel
theorem dR_in_14 : decode (am_by jR_in) 14 = .ok (.iconst 0, 1) := by decide +kernel
theorem dR_in_15 : decode (am_by jR_in) 15 = .ok (.ireturn, 1) := by decide +kernel
theorem dR_own_0 : decode (am_by jR_own) 0 = .ok (.bipush 6, 2) := by decide +kernel
theorem dR_own_2 : decode (am_by jR_own) 2 = .ok (.aload_n 0, 1) := by decide +kernel
theorem dR_own_3 : decode (am_by jR_own) 3 = .ok (.getfield 119, 3) := by decide +kernel
theorem dR_own_6 : decode (am_by jR_own) 6 = .ok (.imul, 1) := by decide +kernel
theorem dR_own_7 : decode (am_by jR_own) 7 = .ok (.iload_n 1, 1) := by decide +kernel
theorem dR_own_8 : decode (am_by jR_own) 8 = .ok (.iadd, 1) := by decide +kernel
theorem dR_own_9 : decode (am_by jR_own) 9 = .ok (.ireturn, 1) := by decide +kernel
theorem dR_write_0 : decode (am_by jR_write) 0 = .ok (.iload_n 1, 1) := by decide +kernel
theorem dR_write_1 : decode (am_by jR_write) 1 = .ok (.iconst 0, 1) := by decide +kernel
theorem dR_write_2 : decode (am_by jR_write) 2 = .ok (.iconst 1, 1) := by decide +kernel
theorem dR_write_3 : decode (am_by jR_write) 3 = .ok (.invokestatic 123, 3) := by decide +kernel
theorem dR_write_6 : decode (am_by jR_write) 6 = .ok (.ifCond .ne 5, 3) := by decide +kernel
theorem dR_write_9 : decode (am_by jR_write) 9 = .ok (.iconst 0, 1) := by decide +kernel
theorem dR_write_10 : decode (am_by jR_write) 10 = .ok (.ireturn, 1) := by decide +kernel
theorem dR_write_11 : decode (am_by jR_write) 11 = .ok (.aload_n 0, 1) := by decide +kernel
theorem dR_write_12 : decode (am_by jR_write) 12 = .ok (.iload_n 1, 1) := by decide +kernel
theorem dR_write_13 : decode (am_by jR_write) 13 = .ok (.putfield 119, 3) := by decide +kernel
theorem dR_write_16 : decode (am_by jR_write) 16 = .ok (.iconst 1, 1) := by decide +kernel
theorem dR_write_17 : decode (am_by jR_write) 17 = .ok (.ireturn, 1) := by decide +kernel
theorem dR_branch_0 : decode (am_by jR_branch) 0 = .ok (.iconst 0, 1) := by decide +kernel
theorem dR_branch_1 : decode (am_by jR_branch) 1 = .ok (.istore_n 1, 1) := by decide +kernel
theorem dR_branch_2 : decode (am_by jR_branch) 2 = .ok (.iconst 0, 1) := by decide +kernel
theorem dR_branch_3 : decode (am_by jR_branch) 3 = .ok (.istore_n 2, 1) := by decide +kernel
theorem dR_branch_4 : decode (am_by jR_branch) 4 = .ok (.iload_n 2, 1) := by decide +kernel
theorem dR_branch_5 : decode (am_by jR_branch) 5 = .ok (.bipush 6, 2) := by decide +kernel
theorem dR_branch_7 : decode (am_by jR_branch) 7 = .ok (.if_icmp .ge 209, 3) := by decide +kernel
theorem dR_branch_10 : decode (am_by jR_branch) 10 = .ok (.aload_n 0, 1) := by decide +kernel
theorem dR_branch_11 : decode (am_by jR_branch) 11 = .ok (.getfield 19, 3) := by decide +kernel
theorem dR_branch_14 : decode (am_by jR_branch) 14 = .ok (.bipush 6, 2) := by decide +kernel
theorem dR_branch_16 : decode (am_by jR_branch) 16 = .ok (.iload_n 2, 1) := by decide +kernel
theorem dR_branch_17 : decode (am_by jR_branch) 17 = .ok (.iadd, 1) := by decide +kernel
theorem dR_branch_18 : decode (am_by jR_branch) 18 = .ok (.aload_n 0, 1) := by decide +kernel
theorem dR_branch_19 : decode (am_by jR_branch) 19 = .ok (.getfield 19, 3) := by decide +kernel
theorem dR_branch_22 : decode (am_by jR_branch) 22 = .ok (.iload_n 2, 1) := by decide +kernel
theorem dR_branch_23 : decode (am_by jR_branch) 23 = .ok (.iaload, 1) := by decide +kernel
theorem dR_branch_24 : decode (am_by jR_branch) 24 = .ok (.iastore, 1) := by decide +kernel
theorem dR_branch_25 : decode (am_by jR_branch) 25 = .ok (.aload_n 0, 1) := by decide +kernel
theorem dR_branch_26 : decode (am_by jR_branch) 26 = .ok (.getfield 22, 3) := by decide +kernel
theorem dR_branch_29 : decode (am_by jR_branch) 29 = .ok (.bipush 6, 2) := by decide +kernel
theorem dR_branch_31 : decode (am_by jR_branch) 31 = .ok (.iload_n 2, 1) := by decide +kernel
theorem dR_branch_32 : decode (am_by jR_branch) 32 = .ok (.iadd, 1) := by decide +kernel
theorem dR_branch_33 : decode (am_by jR_branch) 33 = .ok (.aload_n 0, 1) := by decide +kernel
theorem dR_branch_34 : decode (am_by jR_branch) 34 = .ok (.getfield 22, 3) := by decide +kernel
theorem dR_branch_37 : decode (am_by jR_branch) 37 = .ok (.iload_n 2, 1) := by decide +kernel
theorem dR_branch_38 : decode (am_by jR_branch) 38 = .ok (.iaload, 1) := by decide +kernel
theorem dR_branch_39 : decode (am_by jR_branch) 39 = .ok (.iastore, 1) := by decide +kernel
theorem dR_branch_40 : decode (am_by jR_branch) 40 = .ok (.aload_n 0, 1) := by decide +kernel
theorem dR_branch_41 : decode (am_by jR_branch) 41 = .ok (.getfield 40, 3) := by decide +kernel
theorem dR_branch_44 : decode (am_by jR_branch) 44 = .ok (.bipush 6, 2) := by decide +kernel
theorem dR_branch_46 : decode (am_by jR_branch) 46 = .ok (.iload_n 2, 1) := by decide +kernel
theorem dR_branch_47 : decode (am_by jR_branch) 47 = .ok (.iadd, 1) := by decide +kernel
theorem dR_branch_48 : decode (am_by jR_branch) 48 = .ok (.aload_n 0, 1) := by decide +kernel
theorem dR_branch_49 : decode (am_by jR_branch) 49 = .ok (.getfield 40, 3) := by decide +kernel
theorem dR_branch_52 : decode (am_by jR_branch) 52 = .ok (.iload_n 2, 1) := by decide +kernel
theorem dR_branch_53 : decode (am_by jR_branch) 53 = .ok (.baload, 1) := by decide +kernel
theorem dR_branch_54 : decode (am_by jR_branch) 54 = .ok (.bastore, 1) := by decide +kernel
theorem dR_branch_55 : decode (am_by jR_branch) 55 = .ok (.aload_n 0, 1) := by decide +kernel
theorem dR_branch_56 : decode (am_by jR_branch) 56 = .ok (.getfield 25, 3) := by decide +kernel
theorem dR_branch_59 : decode (am_by jR_branch) 59 = .ok (.bipush 6, 2) := by decide +kernel
theorem dR_branch_61 : decode (am_by jR_branch) 61 = .ok (.iload_n 2, 1) := by decide +kernel
theorem dR_branch_62 : decode (am_by jR_branch) 62 = .ok (.iadd, 1) := by decide +kernel
theorem dR_branch_63 : decode (am_by jR_branch) 63 = .ok (.aload_n 0, 1) := by decide +kernel
theorem dR_branch_64 : decode (am_by jR_branch) 64 = .ok (.getfield 25, 3) := by decide +kernel
theorem dR_branch_67 : decode (am_by jR_branch) 67 = .ok (.iload_n 2, 1) := by decide +kernel
theorem dR_branch_68 : decode (am_by jR_branch) 68 = .ok (.iaload, 1) := by decide +kernel
theorem dR_branch_69 : decode (am_by jR_branch) 69 = .ok (.iastore, 1) := by decide +kernel
theorem dR_branch_70 : decode (am_by jR_branch) 70 = .ok (.iconst 0, 1) := by decide +kernel
theorem dR_branch_71 : decode (am_by jR_branch) 71 = .ok (.istore_n 3, 1) := by decide +kernel
theorem dR_branch_72 : decode (am_by jR_branch) 72 = .ok (.iload_n 3, 1) := by decide +kernel
theorem dR_branch_73 : decode (am_by jR_branch) 73 = .ok (.aload_n 0, 1) := by decide +kernel
theorem dR_branch_74 : decode (am_by jR_branch) 74 = .ok (.getfield 19, 3) := by decide +kernel
theorem dR_branch_77 : decode (am_by jR_branch) 77 = .ok (.iload_n 2, 1) := by decide +kernel
theorem dR_branch_78 : decode (am_by jR_branch) 78 = .ok (.iaload, 1) := by decide +kernel
theorem dR_branch_79 : decode (am_by jR_branch) 79 = .ok (.if_icmp .ge 51, 3) := by decide +kernel
theorem dR_branch_82 : decode (am_by jR_branch) 82 = .ok (.aload_n 0, 1) := by decide +kernel
theorem dR_branch_83 : decode (am_by jR_branch) 83 = .ok (.bipush 6, 2) := by decide +kernel
theorem dR_branch_85 : decode (am_by jR_branch) 85 = .ok (.iload_n 2, 1) := by decide +kernel
theorem dR_branch_86 : decode (am_by jR_branch) 86 = .ok (.iadd, 1) := by decide +kernel
theorem dR_branch_87 : decode (am_by jR_branch) 87 = .ok (.iload_n 3, 1) := by decide +kernel
theorem dR_branch_88 : decode (am_by jR_branch) 88 = .ok (.aload_n 0, 1) := by decide +kernel
theorem dR_branch_89 : decode (am_by jR_branch) 89 = .ok (.getfield 7, 3) := by decide +kernel
theorem dR_branch_92 : decode (am_by jR_branch) 92 = .ok (.bipush 60, 2) := by decide +kernel
theorem dR_branch_94 : decode (am_by jR_branch) 94 = .ok (.iload_n 2, 1) := by decide +kernel
theorem dR_branch_95 : decode (am_by jR_branch) 95 = .ok (.imul, 1) := by decide +kernel
theorem dR_branch_96 : decode (am_by jR_branch) 96 = .ok (.iload_n 3, 1) := by decide +kernel
theorem dR_branch_97 : decode (am_by jR_branch) 97 = .ok (.iadd, 1) := by decide +kernel
theorem dR_branch_98 : decode (am_by jR_branch) 98 = .ok (.iaload, 1) := by decide +kernel
theorem dR_branch_99 : decode (am_by jR_branch) 99 = .ok (.aload_n 0, 1) := by decide +kernel
theorem dR_branch_100 : decode (am_by jR_branch) 100 = .ok (.getfield 13, 3) := by decide +kernel
theorem dR_branch_103 : decode (am_by jR_branch) 103 = .ok (.bipush 60, 2) := by decide +kernel
theorem dR_branch_105 : decode (am_by jR_branch) 105 = .ok (.iload_n 2, 1) := by decide +kernel
theorem dR_branch_106 : decode (am_by jR_branch) 106 = .ok (.imul, 1) := by decide +kernel
theorem dR_branch_107 : decode (am_by jR_branch) 107 = .ok (.iload_n 3, 1) := by decide +kernel
theorem dR_branch_108 : decode (am_by jR_branch) 108 = .ok (.iadd, 1) := by decide +kernel
theorem dR_branch_109 : decode (am_by jR_branch) 109 = .ok (.iaload, 1) := by decide +kernel
theorem dR_branch_110 : decode (am_by jR_branch) 110 = .ok (.aload_n 0, 1) := by decide +kernel
theorem dR_branch_111 : decode (am_by jR_branch) 111 = .ok (.getfield 16, 3) := by decide +kernel
theorem dR_branch_114 : decode (am_by jR_branch) 114 = .ok (.bipush 60, 2) := by decide +kernel
theorem dR_branch_116 : decode (am_by jR_branch) 116 = .ok (.iload_n 2, 1) := by decide +kernel
theorem dR_branch_117 : decode (am_by jR_branch) 117 = .ok (.imul, 1) := by decide +kernel
theorem dR_branch_118 : decode (am_by jR_branch) 118 = .ok (.iload_n 3, 1) := by decide +kernel
theorem dR_branch_119 : decode (am_by jR_branch) 119 = .ok (.iadd, 1) := by decide +kernel
theorem dR_branch_120 : decode (am_by jR_branch) 120 = .ok (.iaload, 1) := by decide +kernel
theorem dR_branch_121 : decode (am_by jR_branch) 121 = .ok (.invokevirtual 127, 3) := by decide +kernel
theorem dR_branch_124 : decode (am_by jR_branch) 124 = .ok (.iinc 3 1, 3) := by decide +kernel
theorem dR_branch_127 : decode (am_by jR_branch) 127 = .ok (.goto (-55), 3) := by decide +kernel
theorem dR_branch_130 : decode (am_by jR_branch) 130 = .ok (.iconst 0, 1) := by decide +kernel
theorem dR_branch_131 : decode (am_by jR_branch) 131 = .ok (.istore_n 3, 1) := by decide +kernel
theorem dR_branch_132 : decode (am_by jR_branch) 132 = .ok (.iload_n 3, 1) := by decide +kernel
theorem dR_branch_133 : decode (am_by jR_branch) 133 = .ok (.aload_n 0, 1) := by decide +kernel
theorem dR_branch_134 : decode (am_by jR_branch) 134 = .ok (.getfield 25, 3) := by decide +kernel
theorem dR_branch_137 : decode (am_by jR_branch) 137 = .ok (.iload_n 2, 1) := by decide +kernel
theorem dR_branch_138 : decode (am_by jR_branch) 138 = .ok (.iaload, 1) := by decide +kernel
theorem dR_branch_139 : decode (am_by jR_branch) 139 = .ok (.if_icmp .ge 62, 3) := by decide +kernel
theorem dR_branch_142 : decode (am_by jR_branch) 142 = .ok (.aload_n 0, 1) := by decide +kernel
theorem dR_branch_143 : decode (am_by jR_branch) 143 = .ok (.bipush 6, 2) := by decide +kernel
theorem dR_branch_145 : decode (am_by jR_branch) 145 = .ok (.iload_n 2, 1) := by decide +kernel
theorem dR_branch_146 : decode (am_by jR_branch) 146 = .ok (.iadd, 1) := by decide +kernel
theorem dR_branch_147 : decode (am_by jR_branch) 147 = .ok (.iload_n 3, 1) := by decide +kernel
theorem dR_branch_148 : decode (am_by jR_branch) 148 = .ok (.aload_n 0, 1) := by decide +kernel
theorem dR_branch_149 : decode (am_by jR_branch) 149 = .ok (.getfield 28, 3) := by decide +kernel
theorem dR_branch_152 : decode (am_by jR_branch) 152 = .ok (.bipush 8, 2) := by decide +kernel
theorem dR_branch_154 : decode (am_by jR_branch) 154 = .ok (.iload_n 2, 1) := by decide +kernel
theorem dR_branch_155 : decode (am_by jR_branch) 155 = .ok (.imul, 1) := by decide +kernel
theorem dR_branch_156 : decode (am_by jR_branch) 156 = .ok (.iload_n 3, 1) := by decide +kernel
theorem dR_branch_157 : decode (am_by jR_branch) 157 = .ok (.iadd, 1) := by decide +kernel
theorem dR_branch_158 : decode (am_by jR_branch) 158 = .ok (.iaload, 1) := by decide +kernel
theorem dR_branch_159 : decode (am_by jR_branch) 159 = .ok (.aload_n 0, 1) := by decide +kernel
theorem dR_branch_160 : decode (am_by jR_branch) 160 = .ok (.getfield 31, 3) := by decide +kernel
theorem dR_branch_163 : decode (am_by jR_branch) 163 = .ok (.bipush 8, 2) := by decide +kernel
theorem dR_branch_165 : decode (am_by jR_branch) 165 = .ok (.iload_n 2, 1) := by decide +kernel
theorem dR_branch_166 : decode (am_by jR_branch) 166 = .ok (.imul, 1) := by decide +kernel
theorem dR_branch_167 : decode (am_by jR_branch) 167 = .ok (.iload_n 3, 1) := by decide +kernel
theorem dR_branch_168 : decode (am_by jR_branch) 168 = .ok (.iadd, 1) := by decide +kernel
theorem dR_branch_169 : decode (am_by jR_branch) 169 = .ok (.iaload, 1) := by decide +kernel
theorem dR_branch_170 : decode (am_by jR_branch) 170 = .ok (.aload_n 0, 1) := by decide +kernel
theorem dR_branch_171 : decode (am_by jR_branch) 171 = .ok (.getfield 34, 3) := by decide +kernel
theorem dR_branch_174 : decode (am_by jR_branch) 174 = .ok (.bipush 8, 2) := by decide +kernel
theorem dR_branch_176 : decode (am_by jR_branch) 176 = .ok (.iload_n 2, 1) := by decide +kernel
theorem dR_branch_177 : decode (am_by jR_branch) 177 = .ok (.imul, 1) := by decide +kernel
theorem dR_branch_178 : decode (am_by jR_branch) 178 = .ok (.iload_n 3, 1) := by decide +kernel
theorem dR_branch_179 : decode (am_by jR_branch) 179 = .ok (.iadd, 1) := by decide +kernel
theorem dR_branch_180 : decode (am_by jR_branch) 180 = .ok (.iaload, 1) := by decide +kernel
theorem dR_branch_181 : decode (am_by jR_branch) 181 = .ok (.aload_n 0, 1) := by decide +kernel
theorem dR_branch_182 : decode (am_by jR_branch) 182 = .ok (.getfield 37, 3) := by decide +kernel
theorem dR_branch_185 : decode (am_by jR_branch) 185 = .ok (.bipush 8, 2) := by decide +kernel
theorem dR_branch_187 : decode (am_by jR_branch) 187 = .ok (.iload_n 2, 1) := by decide +kernel
theorem dR_branch_188 : decode (am_by jR_branch) 188 = .ok (.imul, 1) := by decide +kernel
theorem dR_branch_189 : decode (am_by jR_branch) 189 = .ok (.iload_n 3, 1) := by decide +kernel
theorem dR_branch_190 : decode (am_by jR_branch) 190 = .ok (.iadd, 1) := by decide +kernel
theorem dR_branch_191 : decode (am_by jR_branch) 191 = .ok (.iaload, 1) := by decide +kernel
theorem dR_branch_192 : decode (am_by jR_branch) 192 = .ok (.invokevirtual 131, 3) := by decide +kernel
theorem dR_branch_195 : decode (am_by jR_branch) 195 = .ok (.iinc 3 1, 3) := by decide +kernel
theorem dR_branch_198 : decode (am_by jR_branch) 198 = .ok (.goto (-66), 3) := by decide +kernel
theorem dR_branch_201 : decode (am_by jR_branch) 201 = .ok (.iload_n 1, 1) := by decide +kernel
theorem dR_branch_202 : decode (am_by jR_branch) 202 = .ok (.aload_n 0, 1) := by decide +kernel
theorem dR_branch_203 : decode (am_by jR_branch) 203 = .ok (.getfield 19, 3) := by decide +kernel
theorem dR_branch_206 : decode (am_by jR_branch) 206 = .ok (.iload_n 2, 1) := by decide +kernel
theorem dR_branch_207 : decode (am_by jR_branch) 207 = .ok (.iaload, 1) := by decide +kernel
theorem dR_branch_208 : decode (am_by jR_branch) 208 = .ok (.iadd, 1) := by decide +kernel
theorem dR_branch_209 : decode (am_by jR_branch) 209 = .ok (.istore_n 1, 1) := by decide +kernel
theorem dR_branch_210 : decode (am_by jR_branch) 210 = .ok (.iinc 2 1, 3) := by decide +kernel
theorem dR_branch_213 : decode (am_by jR_branch) 213 = .ok (.goto (-209), 3) := by decide +kernel
theorem dR_branch_216 : decode (am_by jR_branch) 216 = .ok (.aload_n 0, 1) := by decide +kernel
theorem dR_branch_217 : decode (am_by jR_branch) 217 = .ok (.iconst 1, 1) := by decide +kernel
theorem dR_branch_218 : decode (am_by jR_branch) 218 = .ok (.putfield 119, 3) := by decide +kernel
theorem dR_branch_221 : decode (am_by jR_branch) 221 = .ok (.iload_n 1, 1) := by decide +kernel
theorem dR_branch_222 : decode (am_by jR_branch) 222 = .ok (.ireturn, 1) := by decide +kernel
theorem dR_method_0 : decode (am_by jR_method) 0 = .ok (.iload_n 1, 1) := by decide +kernel
theorem dR_method_1 : decode (am_by jR_method) 1 = .ok (.iconst 0, 1) := by decide +kernel
theorem dR_method_2 : decode (am_by jR_method) 2 = .ok (.iconst 5, 1) := by decide +kernel
theorem dR_method_3 : decode (am_by jR_method) 3 = .ok (.invokestatic 123, 3) := by decide +kernel
theorem dR_method_6 : decode (am_by jR_method) 6 = .ok (.ifCond .eq 12, 3) := by decide +kernel
theorem dR_method_9 : decode (am_by jR_method) 9 = .ok (.iload_n 2, 1) := by decide +kernel
theorem dR_method_10 : decode (am_by jR_method) 10 = .ok (.iconst 0, 1) := by decide +kernel
theorem dR_method_11 : decode (am_by jR_method) 11 = .ok (.iconst 3, 1) := by decide +kernel
theorem dR_method_12 : decode (am_by jR_method) 12 = .ok (.invokestatic 123, 3) := by decide +kernel
theorem dR_method_15 : decode (am_by jR_method) 15 = .ok (.ifCond .ne 5, 3) := by decide +kernel
theorem dR_method_18 : decode (am_by jR_method) 18 = .ok (.iconst 0, 1) := by decide +kernel
theorem dR_method_19 : decode (am_by jR_method) 19 = .ok (.ireturn, 1) := by decide +kernel
theorem dR_method_20 : decode (am_by jR_method) 20 = .ok (.aload_n 0, 1) := by decide +kernel
theorem dR_method_21 : decode (am_by jR_method) 21 = .ok (.iload_n 1, 1) := by decide +kernel
theorem dR_method_22 : decode (am_by jR_method) 22 = .ok (.invokevirtual 135, 3) := by decide +kernel
theorem dR_method_25 : decode (am_by jR_method) 25 = .ok (.istore 4, 2) := by decide +kernel
theorem dR_method_27 : decode (am_by jR_method) 27 = .ok (.aload_n 0, 1) := by decide +kernel
theorem dR_method_28 : decode (am_by jR_method) 28 = .ok (.getfield 19, 3) := by decide +kernel
theorem dR_method_31 : decode (am_by jR_method) 31 = .ok (.iload 4, 2) := by decide +kernel
theorem dR_method_33 : decode (am_by jR_method) 33 = .ok (.iconst 0, 1) := by decide +kernel
theorem dR_method_34 : decode (am_by jR_method) 34 = .ok (.iastore, 1) := by decide +kernel
theorem dR_method_35 : decode (am_by jR_method) 35 = .ok (.aload_n 0, 1) := by decide +kernel
theorem dR_method_36 : decode (am_by jR_method) 36 = .ok (.getfield 25, 3) := by decide +kernel
theorem dR_method_39 : decode (am_by jR_method) 39 = .ok (.iload 4, 2) := by decide +kernel
theorem dR_method_41 : decode (am_by jR_method) 41 = .ok (.iconst 0, 1) := by decide +kernel
theorem dR_method_42 : decode (am_by jR_method) 42 = .ok (.iastore, 1) := by decide +kernel
theorem dR_method_43 : decode (am_by jR_method) 43 = .ok (.aload_n 0, 1) := by decide +kernel
theorem dR_method_44 : decode (am_by jR_method) 44 = .ok (.getfield 22, 3) := by decide +kernel
theorem dR_method_47 : decode (am_by jR_method) 47 = .ok (.iload 4, 2) := by decide +kernel
theorem dR_method_49 : decode (am_by jR_method) 49 = .ok (.iload_n 2, 1) := by decide +kernel
theorem dR_method_50 : decode (am_by jR_method) 50 = .ok (.iastore, 1) := by decide +kernel
theorem dR_method_51 : decode (am_by jR_method) 51 = .ok (.aload_n 0, 1) := by decide +kernel
theorem dR_method_52 : decode (am_by jR_method) 52 = .ok (.getfield 40, 3) := by decide +kernel
theorem dR_method_55 : decode (am_by jR_method) 55 = .ok (.iload 4, 2) := by decide +kernel
theorem dR_method_57 : decode (am_by jR_method) 57 = .ok (.iload_n 3, 1) := by decide +kernel
theorem dR_method_58 : decode (am_by jR_method) 58 = .ok (.bastore, 1) := by decide +kernel
theorem dR_method_59 : decode (am_by jR_method) 59 = .ok (.iconst 1, 1) := by decide +kernel
theorem dR_method_60 : decode (am_by jR_method) 60 = .ok (.ireturn, 1) := by decide +kernel
theorem dR_set_0 : decode (am_by jR_set) 0 = .ok (.aload_n 0, 1) := by decide +kernel
theorem dR_set_1 : decode (am_by jR_set) 1 = .ok (.getfield 7, 3) := by decide +kernel
theorem dR_set_4 : decode (am_by jR_set) 4 = .ok (.bipush 60, 2) := by decide +kernel
theorem dR_set_6 : decode (am_by jR_set) 6 = .ok (.iload_n 1, 1) := by decide +kernel
theorem dR_set_7 : decode (am_by jR_set) 7 = .ok (.imul, 1) := by decide +kernel
theorem dR_set_8 : decode (am_by jR_set) 8 = .ok (.iload_n 2, 1) := by decide +kernel
theorem dR_set_9 : decode (am_by jR_set) 9 = .ok (.iadd, 1) := by decide +kernel
theorem dR_set_10 : decode (am_by jR_set) 10 = .ok (.iload_n 3, 1) := by decide +kernel
theorem dR_set_11 : decode (am_by jR_set) 11 = .ok (.iastore, 1) := by decide +kernel
theorem dR_set_12 : decode (am_by jR_set) 12 = .ok (.aload_n 0, 1) := by decide +kernel
theorem dR_set_13 : decode (am_by jR_set) 13 = .ok (.getfield 13, 3) := by decide +kernel
theorem dR_set_16 : decode (am_by jR_set) 16 = .ok (.bipush 60, 2) := by decide +kernel
theorem dR_set_18 : decode (am_by jR_set) 18 = .ok (.iload_n 1, 1) := by decide +kernel
theorem dR_set_19 : decode (am_by jR_set) 19 = .ok (.imul, 1) := by decide +kernel
theorem dR_set_20 : decode (am_by jR_set) 20 = .ok (.iload_n 2, 1) := by decide +kernel
theorem dR_set_21 : decode (am_by jR_set) 21 = .ok (.iadd, 1) := by decide +kernel
theorem dR_set_22 : decode (am_by jR_set) 22 = .ok (.iload 4, 2) := by decide +kernel
theorem dR_set_24 : decode (am_by jR_set) 24 = .ok (.iastore, 1) := by decide +kernel
theorem dR_set_25 : decode (am_by jR_set) 25 = .ok (.aload_n 0, 1) := by decide +kernel
theorem dR_set_26 : decode (am_by jR_set) 26 = .ok (.getfield 16, 3) := by decide +kernel
theorem dR_set_29 : decode (am_by jR_set) 29 = .ok (.bipush 60, 2) := by decide +kernel
theorem dR_set_31 : decode (am_by jR_set) 31 = .ok (.iload_n 1, 1) := by decide +kernel
theorem dR_set_32 : decode (am_by jR_set) 32 = .ok (.imul, 1) := by decide +kernel
theorem dR_set_33 : decode (am_by jR_set) 33 = .ok (.iload_n 2, 1) := by decide +kernel
theorem dR_set_34 : decode (am_by jR_set) 34 = .ok (.iadd, 1) := by decide +kernel
theorem dR_set_35 : decode (am_by jR_set) 35 = .ok (.iload 5, 2) := by decide +kernel
theorem dR_set_37 : decode (am_by jR_set) 37 = .ok (.iastore, 1) := by decide +kernel
theorem dR_set_38 : decode (am_by jR_set) 38 = .ok (.return_, 1) := by decide +kernel
theorem dR_setRow_0 : decode (am_by jR_setRow) 0 = .ok (.aload_n 0, 1) := by decide +kernel
theorem dR_setRow_1 : decode (am_by jR_setRow) 1 = .ok (.getfield 28, 3) := by decide +kernel
theorem dR_setRow_4 : decode (am_by jR_setRow) 4 = .ok (.bipush 8, 2) := by decide +kernel
theorem dR_setRow_6 : decode (am_by jR_setRow) 6 = .ok (.iload_n 1, 1) := by decide +kernel
theorem dR_setRow_7 : decode (am_by jR_setRow) 7 = .ok (.imul, 1) := by decide +kernel
theorem dR_setRow_8 : decode (am_by jR_setRow) 8 = .ok (.iload_n 2, 1) := by decide +kernel
theorem dR_setRow_9 : decode (am_by jR_setRow) 9 = .ok (.iadd, 1) := by decide +kernel
theorem dR_setRow_10 : decode (am_by jR_setRow) 10 = .ok (.iload_n 3, 1) := by decide +kernel
theorem dR_setRow_11 : decode (am_by jR_setRow) 11 = .ok (.iastore, 1) := by decide +kernel
theorem dR_setRow_12 : decode (am_by jR_setRow) 12 = .ok (.aload_n 0, 1) := by decide +kernel
theorem dR_setRow_13 : decode (am_by jR_setRow) 13 = .ok (.getfield 31, 3) := by decide +kernel
theorem dR_setRow_16 : decode (am_by jR_setRow) 16 = .ok (.bipush 8, 2) := by decide +kernel
theorem dR_setRow_18 : decode (am_by jR_setRow) 18 = .ok (.iload_n 1, 1) := by decide +kernel
theorem dR_setRow_19 : decode (am_by jR_setRow) 19 = .ok (.imul, 1) := by decide +kernel
theorem dR_setRow_20 : decode (am_by jR_setRow) 20 = .ok (.iload_n 2, 1) := by decide +kernel
theorem dR_setRow_21 : decode (am_by jR_setRow) 21 = .ok (.iadd, 1) := by decide +kernel
theorem dR_setRow_22 : decode (am_by jR_setRow) 22 = .ok (.iload 4, 2) := by decide +kernel
theorem dR_setRow_24 : decode (am_by jR_setRow) 24 = .ok (.iastore, 1) := by decide +kernel
theorem dR_setRow_25 : decode (am_by jR_setRow) 25 = .ok (.aload_n 0, 1) := by decide +kernel
theorem dR_setRow_26 : decode (am_by jR_setRow) 26 = .ok (.getfield 34, 3) := by decide +kernel
theorem dR_setRow_29 : decode (am_by jR_setRow) 29 = .ok (.bipush 8, 2) := by decide +kernel
theorem dR_setRow_31 : decode (am_by jR_setRow) 31 = .ok (.iload_n 1, 1) := by decide +kernel
theorem dR_setRow_32 : decode (am_by jR_setRow) 32 = .ok (.imul, 1) := by decide +kernel
theorem dR_setRow_33 : decode (am_by jR_setRow) 33 = .ok (.iload_n 2, 1) := by decide +kernel
theorem dR_setRow_34 : decode (am_by jR_setRow) 34 = .ok (.iadd, 1) := by decide +kernel
theorem dR_setRow_35 : decode (am_by jR_setRow) 35 = .ok (.iload 5, 2) := by decide +kernel
theorem dR_setRow_37 : decode (am_by jR_setRow) 37 = .ok (.iastore, 1) := by decide +kernel
theorem dR_setRow_38 : decode (am_by jR_setRow) 38 = .ok (.aload_n 0, 1) := by decide +kernel
theorem dR_setRow_39 : decode (am_by jR_setRow) 39 = .ok (.getfield 37, 3) := by decide +kernel
theorem dR_setRow_42 : decode (am_by jR_setRow) 42 = .ok (.bipush 8, 2) := by decide +kernel
theorem dR_setRow_44 : decode (am_by jR_setRow) 44 = .ok (.iload_n 1, 1) := by decide +kernel
theorem dR_setRow_45 : decode (am_by jR_setRow) 45 = .ok (.imul, 1) := by decide +kernel
theorem dR_setRow_46 : decode (am_by jR_setRow) 46 = .ok (.iload_n 2, 1) := by decide +kernel
theorem dR_setRow_47 : decode (am_by jR_setRow) 47 = .ok (.iadd, 1) := by decide +kernel
theorem dR_setRow_48 : decode (am_by jR_setRow) 48 = .ok (.iload 6, 2) := by decide +kernel
theorem dR_setRow_50 : decode (am_by jR_setRow) 50 = .ok (.iastore, 1) := by decide +kernel
theorem dR_setRow_51 : decode (am_by jR_setRow) 51 = .ok (.return_, 1) := by decide +kernel
theorem dR_isJump_0 : decode (am_by jR_isJump) 0 = .ok (.iload_n 0, 1) := by decide +kernel
theorem dR_isJump_1 : decode (am_by jR_isJump) 1 = .ok (.bipush 11, 2) := by decide +kernel
theorem dR_isJump_3 : decode (am_by jR_isJump) 3 = .ok (.if_icmp .eq 21, 3) := by decide +kernel
theorem dR_isJump_6 : decode (am_by jR_isJump) 6 = .ok (.iload_n 0, 1) := by decide +kernel
theorem dR_isJump_7 : decode (am_by jR_isJump) 7 = .ok (.bipush 12, 2) := by decide +kernel
theorem dR_isJump_9 : decode (am_by jR_isJump) 9 = .ok (.if_icmp .eq 15, 3) := by decide +kernel
theorem dR_isJump_12 : decode (am_by jR_isJump) 12 = .ok (.iload_n 0, 1) := by decide +kernel
theorem dR_isJump_13 : decode (am_by jR_isJump) 13 = .ok (.bipush 17, 2) := by decide +kernel
theorem dR_isJump_15 : decode (am_by jR_isJump) 15 = .ok (.if_icmp .eq 9, 3) := by decide +kernel
theorem dR_isJump_18 : decode (am_by jR_isJump) 18 = .ok (.iload_n 0, 1) := by decide +kernel
theorem dR_isJump_19 : decode (am_by jR_isJump) 19 = .ok (.bipush 23, 2) := by decide +kernel
theorem dR_isJump_21 : decode (am_by jR_isJump) 21 = .ok (.if_icmp .ne 7, 3) := by decide +kernel
theorem dR_isJump_24 : decode (am_by jR_isJump) 24 = .ok (.iconst 1, 1) := by decide +kernel
theorem dR_isJump_25 : decode (am_by jR_isJump) 25 = .ok (.goto 4, 3) := by decide +kernel
theorem dR_isJump_28 : decode (am_by jR_isJump) 28 = .ok (.iconst 0, 1) := by decide +kernel
theorem dR_isJump_29 : decode (am_by jR_isJump) 29 = .ok (.ireturn, 1) := by decide +kernel
theorem dR_mostA_0 : decode (am_by jR_mostA) 0 = .ok (.iload_n 0, 1) := by decide +kernel
theorem dR_mostA_1 : decode (am_by jR_mostA) 1 = .ok (.iconst 2, 1) := by decide +kernel
theorem dR_mostA_2 : decode (am_by jR_mostA) 2 = .ok (.if_icmp .eq 26, 3) := by decide +kernel
theorem dR_mostA_5 : decode (am_by jR_mostA) 5 = .ok (.iload_n 0, 1) := by decide +kernel
theorem dR_mostA_6 : decode (am_by jR_mostA) 6 = .ok (.iconst 3, 1) := by decide +kernel
theorem dR_mostA_7 : decode (am_by jR_mostA) 7 = .ok (.if_icmp .eq 21, 3) := by decide +kernel
theorem dR_mostA_10 : decode (am_by jR_mostA) 10 = .ok (.iload_n 0, 1) := by decide +kernel
theorem dR_mostA_11 : decode (am_by jR_mostA) 11 = .ok (.bipush 14, 2) := by decide +kernel
theorem dR_mostA_13 : decode (am_by jR_mostA) 13 = .ok (.if_icmp .eq 15, 3) := by decide +kernel
theorem dR_mostA_16 : decode (am_by jR_mostA) 16 = .ok (.iload_n 0, 1) := by decide +kernel
theorem dR_mostA_17 : decode (am_by jR_mostA) 17 = .ok (.bipush 24, 2) := by decide +kernel
theorem dR_mostA_19 : decode (am_by jR_mostA) 19 = .ok (.if_icmp .eq 9, 3) := by decide +kernel
theorem dR_mostA_22 : decode (am_by jR_mostA) 22 = .ok (.iload_n 0, 1) := by decide +kernel
theorem dR_mostA_23 : decode (am_by jR_mostA) 23 = .ok (.bipush 27, 2) := by decide +kernel
theorem dR_mostA_25 : decode (am_by jR_mostA) 25 = .ok (.if_icmp .ne 8, 3) := by decide +kernel
theorem dR_mostA_28 : decode (am_by jR_mostA) 28 = .ok (.bipush 7, 2) := by decide +kernel
theorem dR_mostA_30 : decode (am_by jR_mostA) 30 = .ok (.goto 24, 3) := by decide +kernel
theorem dR_mostA_33 : decode (am_by jR_mostA) 33 = .ok (.iload_n 0, 1) := by decide +kernel
theorem dR_mostA_34 : decode (am_by jR_mostA) 34 = .ok (.bipush 12, 2) := by decide +kernel
theorem dR_mostA_36 : decode (am_by jR_mostA) 36 = .ok (.if_icmp .ne 7, 3) := by decide +kernel
theorem dR_mostA_39 : decode (am_by jR_mostA) 39 = .ok (.iconst 2, 1) := by decide +kernel
theorem dR_mostA_40 : decode (am_by jR_mostA) 40 = .ok (.goto 14, 3) := by decide +kernel
theorem dR_mostA_43 : decode (am_by jR_mostA) 43 = .ok (.iload_n 0, 1) := by decide +kernel
theorem dR_mostA_44 : decode (am_by jR_mostA) 44 = .ok (.bipush 21, 2) := by decide +kernel
theorem dR_mostA_46 : decode (am_by jR_mostA) 46 = .ok (.if_icmp .ne 7, 3) := by decide +kernel
theorem dR_mostA_49 : decode (am_by jR_mostA) 49 = .ok (.iconst 5, 1) := by decide +kernel
theorem dR_mostA_50 : decode (am_by jR_mostA) 50 = .ok (.goto 4, 3) := by decide +kernel
theorem dR_mostA_53 : decode (am_by jR_mostA) 53 = .ok (.iconst (-1), 1) := by decide +kernel
theorem dR_mostA_54 : decode (am_by jR_mostA) 54 = .ok (.ireturn, 1) := by decide +kernel
theorem dR_isGood_0 : decode (am_by jR_isGood) 0 = .ok (.iload_n 0, 1) := by decide +kernel
theorem dR_isGood_1 : decode (am_by jR_isGood) 1 = .ok (.iconst 0, 1) := by decide +kernel
theorem dR_isGood_2 : decode (am_by jR_isGood) 2 = .ok (.bipush 27, 2) := by decide +kernel
theorem dR_isGood_4 : decode (am_by jR_isGood) 4 = .ok (.invokestatic 123, 3) := by decide +kernel
theorem dR_isGood_7 : decode (am_by jR_isGood) 7 = .ok (.ifCond .eq 20, 3) := by decide +kernel
theorem dR_isGood_10 : decode (am_by jR_isGood) 10 = .ok (.iload_n 0, 1) := by decide +kernel
theorem dR_isGood_11 : decode (am_by jR_isGood) 11 = .ok (.invokestatic 139, 3) := by decide +kernel
theorem dR_isGood_14 : decode (am_by jR_isGood) 14 = .ok (.ifCond .eq 15, 3) := by decide +kernel
theorem dR_isGood_17 : decode (am_by jR_isGood) 17 = .ok (.iload_n 2, 1) := by decide +kernel
theorem dR_isGood_18 : decode (am_by jR_isGood) 18 = .ok (.iconst 0, 1) := by decide +kernel
theorem dR_isGood_19 : decode (am_by jR_isGood) 19 = .ok (.bipush 59, 2) := by decide +kernel
theorem dR_isGood_21 : decode (am_by jR_isGood) 21 = .ok (.invokestatic 123, 3) := by decide +kernel
theorem dR_isGood_24 : decode (am_by jR_isGood) 24 = .ok (.ifCond .ne 5, 3) := by decide +kernel
theorem dR_isGood_27 : decode (am_by jR_isGood) 27 = .ok (.iconst 0, 1) := by decide +kernel
theorem dR_isGood_28 : decode (am_by jR_isGood) 28 = .ok (.ireturn, 1) := by decide +kernel
theorem dR_isGood_29 : decode (am_by jR_isGood) 29 = .ok (.iload_n 0, 1) := by decide +kernel
theorem dR_isGood_30 : decode (am_by jR_isGood) 30 = .ok (.invokestatic 143, 3) := by decide +kernel
theorem dR_isGood_33 : decode (am_by jR_isGood) 33 = .ok (.istore_n 3, 1) := by decide +kernel
theorem dR_isGood_34 : decode (am_by jR_isGood) 34 = .ok (.iload_n 3, 1) := by decide +kernel
theorem dR_isGood_35 : decode (am_by jR_isGood) 35 = .ok (.ifCond .lt 12, 3) := by decide +kernel
theorem dR_isGood_38 : decode (am_by jR_isGood) 38 = .ok (.iload_n 1, 1) := by decide +kernel
theorem dR_isGood_39 : decode (am_by jR_isGood) 39 = .ok (.iconst 0, 1) := by decide +kernel
theorem dR_isGood_40 : decode (am_by jR_isGood) 40 = .ok (.iload_n 3, 1) := by decide +kernel
theorem dR_isGood_41 : decode (am_by jR_isGood) 41 = .ok (.invokestatic 123, 3) := by decide +kernel
theorem dR_isGood_44 : decode (am_by jR_isGood) 44 = .ok (.ifCond .eq 7, 3) := by decide +kernel
theorem dR_isGood_47 : decode (am_by jR_isGood) 47 = .ok (.iconst 1, 1) := by decide +kernel
theorem dR_isGood_48 : decode (am_by jR_isGood) 48 = .ok (.goto 4, 3) := by decide +kernel
theorem dR_isGood_51 : decode (am_by jR_isGood) 51 = .ok (.iconst 0, 1) := by decide +kernel
theorem dR_isGood_52 : decode (am_by jR_isGood) 52 = .ok (.ireturn, 1) := by decide +kernel
theorem dR_put_0 : decode (am_by jR_put) 0 = .ok (.aload_n 0, 1) := by decide +kernel
theorem dR_put_1 : decode (am_by jR_put) 1 = .ok (.iload_n 1, 1) := by decide +kernel
theorem dR_put_2 : decode (am_by jR_put) 2 = .ok (.iload_n 2, 1) := by decide +kernel
theorem dR_put_3 : decode (am_by jR_put) 3 = .ok (.iload_n 3, 1) := by decide +kernel
theorem dR_put_4 : decode (am_by jR_put) 4 = .ok (.iload_n 3, 1) := by decide +kernel
theorem dR_put_5 : decode (am_by jR_put) 5 = .ok (.iconst 1, 1) := by decide +kernel
theorem dR_put_6 : decode (am_by jR_put) 6 = .ok (.if_icmp .eq 10, 3) := by decide +kernel
theorem dR_put_9 : decode (am_by jR_put) 9 = .ok (.iload_n 3, 1) := by decide +kernel
theorem dR_put_10 : decode (am_by jR_put) 10 = .ok (.invokestatic 143, 3) := by decide +kernel
theorem dR_put_13 : decode (am_by jR_put) 13 = .ok (.ifCond .lt 8, 3) := by decide +kernel
theorem dR_put_16 : decode (am_by jR_put) 16 = .ok (.iload 4, 2) := by decide +kernel
theorem dR_put_18 : decode (am_by jR_put) 18 = .ok (.goto 4, 3) := by decide +kernel
theorem dR_put_21 : decode (am_by jR_put) 21 = .ok (.iconst 0, 1) := by decide +kernel
theorem dR_put_22 : decode (am_by jR_put) 22 = .ok (.iload_n 3, 1) := by decide +kernel
theorem dR_put_23 : decode (am_by jR_put) 23 = .ok (.invokestatic 139, 3) := by decide +kernel
theorem dR_put_26 : decode (am_by jR_put) 26 = .ok (.ifCond .ne 9, 3) := by decide +kernel
theorem dR_put_29 : decode (am_by jR_put) 29 = .ok (.iload_n 3, 1) := by decide +kernel
theorem dR_put_30 : decode (am_by jR_put) 30 = .ok (.bipush 27, 2) := by decide +kernel
theorem dR_put_32 : decode (am_by jR_put) 32 = .ok (.if_icmp .ne 8, 3) := by decide +kernel
theorem dR_put_35 : decode (am_by jR_put) 35 = .ok (.iload 5, 2) := by decide +kernel
theorem dR_put_37 : decode (am_by jR_put) 37 = .ok (.goto 4, 3) := by decide +kernel
theorem dR_put_40 : decode (am_by jR_put) 40 = .ok (.iconst 0, 1) := by decide +kernel
theorem dR_put_41 : decode (am_by jR_put) 41 = .ok (.invokevirtual 127, 3) := by decide +kernel
theorem dR_put_44 : decode (am_by jR_put) 44 = .ok (.return_, 1) := by decide +kernel
theorem dR_add_0 : decode (am_by jR_add) 0 = .ok (.iload_n 1, 1) := by decide +kernel
theorem dR_add_1 : decode (am_by jR_add) 1 = .ok (.iconst 0, 1) := by decide +kernel
theorem dR_add_2 : decode (am_by jR_add) 2 = .ok (.iconst 5, 1) := by decide +kernel
theorem dR_add_3 : decode (am_by jR_add) 3 = .ok (.invokestatic 123, 3) := by decide +kernel
theorem dR_add_6 : decode (am_by jR_add) 6 = .ok (.ifCond .eq 17, 3) := by decide +kernel
theorem dR_add_9 : decode (am_by jR_add) 9 = .ok (.iload_n 2, 1) := by decide +kernel
theorem dR_add_10 : decode (am_by jR_add) 10 = .ok (.iload_n 3, 1) := by decide +kernel
theorem dR_add_11 : decode (am_by jR_add) 11 = .ok (.iload 4, 2) := by decide +kernel
theorem dR_add_13 : decode (am_by jR_add) 13 = .ok (.invokestatic 146, 3) := by decide +kernel
theorem dR_add_16 : decode (am_by jR_add) 16 = .ok (.ifCond .eq 7, 3) := by decide +kernel
theorem dR_add_19 : decode (am_by jR_add) 19 = .ok (.iconst 1, 1) := by decide +kernel
theorem dR_add_20 : decode (am_by jR_add) 20 = .ok (.goto 4, 3) := by decide +kernel
theorem dR_add_23 : decode (am_by jR_add) 23 = .ok (.iconst 0, 1) := by decide +kernel
theorem dR_add_24 : decode (am_by jR_add) 24 = .ok (.istore 5, 2) := by decide +kernel
theorem dR_add_26 : decode (am_by jR_add) 26 = .ok (.iload 5, 2) := by decide +kernel
theorem dR_add_28 : decode (am_by jR_add) 28 = .ok (.ifCond .ne 5, 3) := by decide +kernel
theorem dR_add_31 : decode (am_by jR_add) 31 = .ok (.iconst (-1), 1) := by decide +kernel
theorem dR_add_32 : decode (am_by jR_add) 32 = .ok (.ireturn, 1) := by decide +kernel
theorem dR_add_33 : decode (am_by jR_add) 33 = .ok (.aload_n 0, 1) := by decide +kernel
theorem dR_add_34 : decode (am_by jR_add) 34 = .ok (.iload_n 1, 1) := by decide +kernel
theorem dR_add_35 : decode (am_by jR_add) 35 = .ok (.invokevirtual 135, 3) := by decide +kernel
theorem dR_add_38 : decode (am_by jR_add) 38 = .ok (.istore 6, 2) := by decide +kernel
theorem dR_add_40 : decode (am_by jR_add) 40 = .ok (.aload_n 0, 1) := by decide +kernel
theorem dR_add_41 : decode (am_by jR_add) 41 = .ok (.getfield 19, 3) := by decide +kernel
theorem dR_add_44 : decode (am_by jR_add) 44 = .ok (.iload 6, 2) := by decide +kernel
theorem dR_add_46 : decode (am_by jR_add) 46 = .ok (.iaload, 1) := by decide +kernel
theorem dR_add_47 : decode (am_by jR_add) 47 = .ok (.bipush 60, 2) := by decide +kernel
theorem dR_add_49 : decode (am_by jR_add) 49 = .ok (.if_icmp .ne 6, 3) := by decide +kernel
theorem dR_add_52 : decode (am_by jR_add) 52 = .ok (.bipush (-3), 2) := by decide +kernel
theorem dR_add_54 : decode (am_by jR_add) 54 = .ok (.ireturn, 1) := by decide +kernel
theorem dR_add_55 : decode (am_by jR_add) 55 = .ok (.aload_n 0, 1) := by decide +kernel
theorem dR_add_56 : decode (am_by jR_add) 56 = .ok (.iload 6, 2) := by decide +kernel
theorem dR_add_58 : decode (am_by jR_add) 58 = .ok (.aload_n 0, 1) := by decide +kernel
theorem dR_add_59 : decode (am_by jR_add) 59 = .ok (.getfield 19, 3) := by decide +kernel
theorem dR_add_62 : decode (am_by jR_add) 62 = .ok (.iload 6, 2) := by decide +kernel
theorem dR_add_64 : decode (am_by jR_add) 64 = .ok (.iaload, 1) := by decide +kernel
theorem dR_add_65 : decode (am_by jR_add) 65 = .ok (.iload_n 2, 1) := by decide +kernel
theorem dR_add_66 : decode (am_by jR_add) 66 = .ok (.iload_n 3, 1) := by decide +kernel
theorem dR_add_67 : decode (am_by jR_add) 67 = .ok (.iload 4, 2) := by decide +kernel
theorem dR_add_69 : decode (am_by jR_add) 69 = .ok (.invokevirtual 149, 3) := by decide +kernel
theorem dR_add_72 : decode (am_by jR_add) 72 = .ok (.aload_n 0, 1) := by decide +kernel
theorem dR_add_73 : decode (am_by jR_add) 73 = .ok (.getfield 19, 3) := by decide +kernel
theorem dR_add_76 : decode (am_by jR_add) 76 = .ok (.iload 6, 2) := by decide +kernel
theorem dR_add_78 : decode (am_by jR_add) 78 = .ok (.dup2, 1) := by decide +kernel
theorem dR_add_79 : decode (am_by jR_add) 79 = .ok (.iaload, 1) := by decide +kernel
theorem dR_add_80 : decode (am_by jR_add) 80 = .ok (.iconst 1, 1) := by decide +kernel
theorem dR_add_81 : decode (am_by jR_add) 81 = .ok (.iadd, 1) := by decide +kernel
theorem dR_add_82 : decode (am_by jR_add) 82 = .ok (.iastore, 1) := by decide +kernel
theorem dR_add_83 : decode (am_by jR_add) 83 = .ok (.aload_n 0, 1) := by decide +kernel
theorem dR_add_84 : decode (am_by jR_add) 84 = .ok (.getfield 19, 3) := by decide +kernel
theorem dR_add_87 : decode (am_by jR_add) 87 = .ok (.iload 6, 2) := by decide +kernel
theorem dR_add_89 : decode (am_by jR_add) 89 = .ok (.iaload, 1) := by decide +kernel
theorem dR_add_90 : decode (am_by jR_add) 90 = .ok (.ireturn, 1) := by decide +kernel
theorem dR_change_0 : decode (am_by jR_change) 0 = .ok (.iload_n 1, 1) := by decide +kernel
theorem dR_change_1 : decode (am_by jR_change) 1 = .ok (.iconst 0, 1) := by decide +kernel
theorem dR_change_2 : decode (am_by jR_change) 2 = .ok (.iconst 5, 1) := by decide +kernel
theorem dR_change_3 : decode (am_by jR_change) 3 = .ok (.invokestatic 123, 3) := by decide +kernel
theorem dR_change_6 : decode (am_by jR_change) 6 = .ok (.ifCond .eq 18, 3) := by decide +kernel
theorem dR_change_9 : decode (am_by jR_change) 9 = .ok (.iload_n 3, 1) := by decide +kernel
theorem dR_change_10 : decode (am_by jR_change) 10 = .ok (.iload 4, 2) := by decide +kernel
theorem dR_change_12 : decode (am_by jR_change) 12 = .ok (.iload 5, 2) := by decide +kernel
theorem dR_change_14 : decode (am_by jR_change) 14 = .ok (.invokestatic 146, 3) := by decide +kernel
theorem dR_change_17 : decode (am_by jR_change) 17 = .ok (.ifCond .eq 7, 3) := by decide +kernel
theorem dR_change_20 : decode (am_by jR_change) 20 = .ok (.iconst 1, 1) := by decide +kernel
theorem dR_change_21 : decode (am_by jR_change) 21 = .ok (.goto 4, 3) := by decide +kernel
theorem dR_change_24 : decode (am_by jR_change) 24 = .ok (.iconst 0, 1) := by decide +kernel
theorem dR_change_25 : decode (am_by jR_change) 25 = .ok (.istore 6, 2) := by decide +kernel
theorem dR_change_27 : decode (am_by jR_change) 27 = .ok (.iload 6, 2) := by decide +kernel
theorem dR_change_29 : decode (am_by jR_change) 29 = .ok (.ifCond .eq 23, 3) := by decide +kernel
theorem dR_change_32 : decode (am_by jR_change) 32 = .ok (.iload_n 2, 1) := by decide +kernel
theorem dR_change_33 : decode (am_by jR_change) 33 = .ok (.iconst 0, 1) := by decide +kernel
theorem dR_change_34 : decode (am_by jR_change) 34 = .ok (.aload_n 0, 1) := by decide +kernel
theorem dR_change_35 : decode (am_by jR_change) 35 = .ok (.getfield 19, 3) := by decide +kernel
theorem dR_change_38 : decode (am_by jR_change) 38 = .ok (.aload_n 0, 1) := by decide +kernel
theorem dR_change_39 : decode (am_by jR_change) 39 = .ok (.iload_n 1, 1) := by decide +kernel
theorem dR_change_40 : decode (am_by jR_change) 40 = .ok (.invokevirtual 135, 3) := by decide +kernel
theorem dR_change_43 : decode (am_by jR_change) 43 = .ok (.iaload, 1) := by decide +kernel
theorem dR_change_44 : decode (am_by jR_change) 44 = .ok (.iconst 1, 1) := by decide +kernel
theorem dR_change_45 : decode (am_by jR_change) 45 = .ok (.isub, 1) := by decide +kernel
theorem dR_change_46 : decode (am_by jR_change) 46 = .ok (.invokestatic 123, 3) := by decide +kernel
theorem dR_change_49 : decode (am_by jR_change) 49 = .ok (.ifCond .ne 5, 3) := by decide +kernel
theorem dR_change_52 : decode (am_by jR_change) 52 = .ok (.iconst 0, 1) := by decide +kernel
theorem dR_change_53 : decode (am_by jR_change) 53 = .ok (.ireturn, 1) := by decide +kernel
theorem dR_change_54 : decode (am_by jR_change) 54 = .ok (.aload_n 0, 1) := by decide +kernel
theorem dR_change_55 : decode (am_by jR_change) 55 = .ok (.aload_n 0, 1) := by decide +kernel
theorem dR_change_56 : decode (am_by jR_change) 56 = .ok (.iload_n 1, 1) := by decide +kernel
theorem dR_change_57 : decode (am_by jR_change) 57 = .ok (.invokevirtual 135, 3) := by decide +kernel
theorem dR_change_60 : decode (am_by jR_change) 60 = .ok (.iload_n 2, 1) := by decide +kernel
theorem dR_change_61 : decode (am_by jR_change) 61 = .ok (.iload_n 3, 1) := by decide +kernel
theorem dR_change_62 : decode (am_by jR_change) 62 = .ok (.iload 4, 2) := by decide +kernel
theorem dR_change_64 : decode (am_by jR_change) 64 = .ok (.iload 5, 2) := by decide +kernel
theorem dR_change_66 : decode (am_by jR_change) 66 = .ok (.invokevirtual 149, 3) := by decide +kernel
theorem dR_change_69 : decode (am_by jR_change) 69 = .ok (.iconst 1, 1) := by decide +kernel
theorem dR_change_70 : decode (am_by jR_change) 70 = .ok (.ireturn, 1) := by decide +kernel
theorem dR_row_0 : decode (am_by jR_row) 0 = .ok (.iload_n 1, 1) := by decide +kernel
theorem dR_row_1 : decode (am_by jR_row) 1 = .ok (.iconst 0, 1) := by decide +kernel
theorem dR_row_2 : decode (am_by jR_row) 2 = .ok (.iconst 5, 1) := by decide +kernel
theorem dR_row_3 : decode (am_by jR_row) 3 = .ok (.invokestatic 123, 3) := by decide +kernel
theorem dR_row_6 : decode (am_by jR_row) 6 = .ok (.ifCond .eq 47, 3) := by decide +kernel
theorem dR_row_9 : decode (am_by jR_row) 9 = .ok (.iload_n 2, 1) := by decide +kernel
theorem dR_row_10 : decode (am_by jR_row) 10 = .ok (.iconst 0, 1) := by decide +kernel
theorem dR_row_11 : decode (am_by jR_row) 11 = .ok (.bipush 59, 2) := by decide +kernel
theorem dR_row_13 : decode (am_by jR_row) 13 = .ok (.invokestatic 123, 3) := by decide +kernel
theorem dR_row_16 : decode (am_by jR_row) 16 = .ok (.ifCond .eq 37, 3) := by decide +kernel
theorem dR_row_19 : decode (am_by jR_row) 19 = .ok (.iload 4, 2) := by decide +kernel
theorem dR_row_21 : decode (am_by jR_row) 21 = .ok (.iconst 0, 1) := by decide +kernel
theorem dR_row_22 : decode (am_by jR_row) 22 = .ok (.bipush 59, 2) := by decide +kernel
theorem dR_row_24 : decode (am_by jR_row) 24 = .ok (.invokestatic 123, 3) := by decide +kernel
theorem dR_row_27 : decode (am_by jR_row) 27 = .ok (.ifCond .eq 26, 3) := by decide +kernel
theorem dR_row_30 : decode (am_by jR_row) 30 = .ok (.iload_n 3, 1) := by decide +kernel
theorem dR_row_31 : decode (am_by jR_row) 31 = .ok (.iload_n 2, 1) := by decide +kernel
theorem dR_row_32 : decode (am_by jR_row) 32 = .ok (.iconst 1, 1) := by decide +kernel
theorem dR_row_33 : decode (am_by jR_row) 33 = .ok (.iadd, 1) := by decide +kernel
theorem dR_row_34 : decode (am_by jR_row) 34 = .ok (.bipush 60, 2) := by decide +kernel
theorem dR_row_36 : decode (am_by jR_row) 36 = .ok (.invokestatic 123, 3) := by decide +kernel
theorem dR_row_39 : decode (am_by jR_row) 39 = .ok (.ifCond .eq 14, 3) := by decide +kernel
theorem dR_row_42 : decode (am_by jR_row) 42 = .ok (.iload 5, 2) := by decide +kernel
theorem dR_row_44 : decode (am_by jR_row) 44 = .ok (.iconst 0, 1) := by decide +kernel
theorem dR_row_45 : decode (am_by jR_row) 45 = .ok (.bipush 7, 2) := by decide +kernel
theorem dR_row_47 : decode (am_by jR_row) 47 = .ok (.invokestatic 123, 3) := by decide +kernel
theorem dR_row_50 : decode (am_by jR_row) 50 = .ok (.ifCond .ne 5, 3) := by decide +kernel
theorem dR_row_53 : decode (am_by jR_row) 53 = .ok (.iconst (-1), 1) := by decide +kernel
theorem dR_row_54 : decode (am_by jR_row) 54 = .ok (.ireturn, 1) := by decide +kernel
theorem dR_row_55 : decode (am_by jR_row) 55 = .ok (.aload_n 0, 1) := by decide +kernel
theorem dR_row_56 : decode (am_by jR_row) 56 = .ok (.iload_n 1, 1) := by decide +kernel
theorem dR_row_57 : decode (am_by jR_row) 57 = .ok (.invokevirtual 135, 3) := by decide +kernel
theorem dR_row_60 : decode (am_by jR_row) 60 = .ok (.istore 6, 2) := by decide +kernel
theorem dR_row_62 : decode (am_by jR_row) 62 = .ok (.aload_n 0, 1) := by decide +kernel
theorem dR_row_63 : decode (am_by jR_row) 63 = .ok (.getfield 25, 3) := by decide +kernel
theorem dR_row_66 : decode (am_by jR_row) 66 = .ok (.iload 6, 2) := by decide +kernel
theorem dR_row_68 : decode (am_by jR_row) 68 = .ok (.iaload, 1) := by decide +kernel
theorem dR_row_69 : decode (am_by jR_row) 69 = .ok (.bipush 8, 2) := by decide +kernel
theorem dR_row_71 : decode (am_by jR_row) 71 = .ok (.if_icmp .ne 6, 3) := by decide +kernel
theorem dR_row_74 : decode (am_by jR_row) 74 = .ok (.bipush (-3), 2) := by decide +kernel
theorem dR_row_76 : decode (am_by jR_row) 76 = .ok (.ireturn, 1) := by decide +kernel
theorem dR_row_77 : decode (am_by jR_row) 77 = .ok (.aload_n 0, 1) := by decide +kernel
theorem dR_row_78 : decode (am_by jR_row) 78 = .ok (.iload 6, 2) := by decide +kernel
theorem dR_row_80 : decode (am_by jR_row) 80 = .ok (.aload_n 0, 1) := by decide +kernel
theorem dR_row_81 : decode (am_by jR_row) 81 = .ok (.getfield 25, 3) := by decide +kernel
theorem dR_row_84 : decode (am_by jR_row) 84 = .ok (.iload 6, 2) := by decide +kernel
theorem dR_row_86 : decode (am_by jR_row) 86 = .ok (.iaload, 1) := by decide +kernel
theorem dR_row_87 : decode (am_by jR_row) 87 = .ok (.iload_n 2, 1) := by decide +kernel
theorem dR_row_88 : decode (am_by jR_row) 88 = .ok (.iload_n 3, 1) := by decide +kernel
theorem dR_row_89 : decode (am_by jR_row) 89 = .ok (.iload 4, 2) := by decide +kernel
theorem dR_row_91 : decode (am_by jR_row) 91 = .ok (.iload 5, 2) := by decide +kernel
theorem dR_row_93 : decode (am_by jR_row) 93 = .ok (.invokevirtual 131, 3) := by decide +kernel
theorem dR_row_96 : decode (am_by jR_row) 96 = .ok (.aload_n 0, 1) := by decide +kernel
theorem dR_row_97 : decode (am_by jR_row) 97 = .ok (.getfield 25, 3) := by decide +kernel
theorem dR_row_100 : decode (am_by jR_row) 100 = .ok (.iload 6, 2) := by decide +kernel
theorem dR_row_102 : decode (am_by jR_row) 102 = .ok (.dup2, 1) := by decide +kernel
theorem dR_row_103 : decode (am_by jR_row) 103 = .ok (.iaload, 1) := by decide +kernel
theorem dR_row_104 : decode (am_by jR_row) 104 = .ok (.iconst 1, 1) := by decide +kernel
theorem dR_row_105 : decode (am_by jR_row) 105 = .ok (.iadd, 1) := by decide +kernel
theorem dR_row_106 : decode (am_by jR_row) 106 = .ok (.iastore, 1) := by decide +kernel
theorem dR_row_107 : decode (am_by jR_row) 107 = .ok (.aload_n 0, 1) := by decide +kernel
theorem dR_row_108 : decode (am_by jR_row) 108 = .ok (.getfield 25, 3) := by decide +kernel
theorem dR_row_111 : decode (am_by jR_row) 111 = .ok (.iload 6, 2) := by decide +kernel
theorem dR_row_113 : decode (am_by jR_row) 113 = .ok (.iaload, 1) := by decide +kernel
theorem dR_row_114 : decode (am_by jR_row) 114 = .ok (.ireturn, 1) := by decide +kernel
theorem dR_push_0 : decode (am_by jR_push) 0 = .ok (.aload_n 0, 1) := by decide +kernel
theorem dR_push_1 : decode (am_by jR_push) 1 = .ok (.getfield 152, 3) := by decide +kernel
theorem dR_push_4 : decode (am_by jR_push) 4 = .ok (.bipush 8, 2) := by decide +kernel
theorem dR_push_6 : decode (am_by jR_push) 6 = .ok (.if_icmp .ne 9, 3) := by decide +kernel
theorem dR_push_9 : decode (am_by jR_push) 9 = .ok (.aload_n 0, 1) := by decide +kernel
theorem dR_push_10 : decode (am_by jR_push) 10 = .ok (.iconst 0, 1) := by decide +kernel
theorem dR_push_11 : decode (am_by jR_push) 11 = .ok (.putfield 155, 3) := by decide +kernel
theorem dR_push_14 : decode (am_by jR_push) 14 = .ok (.return_, 1) := by decide +kernel
theorem dR_push_15 : decode (am_by jR_push) 15 = .ok (.aload_n 0, 1) := by decide +kernel
theorem dR_push_16 : decode (am_by jR_push) 16 = .ok (.getfield 56, 3) := by decide +kernel
theorem dR_push_19 : decode (am_by jR_push) 19 = .ok (.aload_n 0, 1) := by decide +kernel
theorem dR_push_20 : decode (am_by jR_push) 20 = .ok (.getfield 152, 3) := by decide +kernel
theorem dR_push_23 : decode (am_by jR_push) 23 = .ok (.iload_n 1, 1) := by decide +kernel
theorem dR_push_24 : decode (am_by jR_push) 24 = .ok (.iastore, 1) := by decide +kernel
theorem dR_push_25 : decode (am_by jR_push) 25 = .ok (.aload_n 0, 1) := by decide +kernel
theorem dR_push_26 : decode (am_by jR_push) 26 = .ok (.dup, 1) := by decide +kernel
theorem dR_push_27 : decode (am_by jR_push) 27 = .ok (.getfield 152, 3) := by decide +kernel
theorem dR_push_30 : decode (am_by jR_push) 30 = .ok (.iconst 1, 1) := by decide +kernel
theorem dR_push_31 : decode (am_by jR_push) 31 = .ok (.iadd, 1) := by decide +kernel
theorem dR_push_32 : decode (am_by jR_push) 32 = .ok (.putfield 152, 3) := by decide +kernel
theorem dR_push_35 : decode (am_by jR_push) 35 = .ok (.return_, 1) := by decide +kernel
theorem dR_take_0 : decode (am_by jR_take) 0 = .ok (.aload_n 0, 1) := by decide +kernel
theorem dR_take_1 : decode (am_by jR_take) 1 = .ok (.getfield 152, 3) := by decide +kernel
theorem dR_take_4 : decode (am_by jR_take) 4 = .ok (.ifCond .eq 22, 3) := by decide +kernel
theorem dR_take_7 : decode (am_by jR_take) 7 = .ok (.iload_n 1, 1) := by decide +kernel
theorem dR_take_8 : decode (am_by jR_take) 8 = .ok (.ifCond .lt 24, 3) := by decide +kernel
theorem dR_take_11 : decode (am_by jR_take) 11 = .ok (.aload_n 0, 1) := by decide +kernel
theorem dR_take_12 : decode (am_by jR_take) 12 = .ok (.getfield 56, 3) := by decide +kernel
theorem dR_take_15 : decode (am_by jR_take) 15 = .ok (.aload_n 0, 1) := by decide +kernel
theorem dR_take_16 : decode (am_by jR_take) 16 = .ok (.getfield 152, 3) := by decide +kernel
theorem dR_take_19 : decode (am_by jR_take) 19 = .ok (.iconst 1, 1) := by decide +kernel
theorem dR_take_20 : decode (am_by jR_take) 20 = .ok (.isub, 1) := by decide +kernel
theorem dR_take_21 : decode (am_by jR_take) 21 = .ok (.iaload, 1) := by decide +kernel
theorem dR_take_22 : decode (am_by jR_take) 22 = .ok (.iload_n 1, 1) := by decide +kernel
theorem dR_take_23 : decode (am_by jR_take) 23 = .ok (.if_icmp .eq 9, 3) := by decide +kernel
theorem dR_take_26 : decode (am_by jR_take) 26 = .ok (.aload_n 0, 1) := by decide +kernel
theorem dR_take_27 : decode (am_by jR_take) 27 = .ok (.iconst 0, 1) := by decide +kernel
theorem dR_take_28 : decode (am_by jR_take) 28 = .ok (.putfield 155, 3) := by decide +kernel
theorem dR_take_31 : decode (am_by jR_take) 31 = .ok (.return_, 1) := by decide +kernel
theorem dR_take_32 : decode (am_by jR_take) 32 = .ok (.aload_n 0, 1) := by decide +kernel
theorem dR_take_33 : decode (am_by jR_take) 33 = .ok (.dup, 1) := by decide +kernel
theorem dR_take_34 : decode (am_by jR_take) 34 = .ok (.getfield 152, 3) := by decide +kernel
theorem dR_take_37 : decode (am_by jR_take) 37 = .ok (.iconst 1, 1) := by decide +kernel
theorem dR_take_38 : decode (am_by jR_take) 38 = .ok (.isub, 1) := by decide +kernel
theorem dR_take_39 : decode (am_by jR_take) 39 = .ok (.putfield 152, 3) := by decide +kernel
theorem dR_take_42 : decode (am_by jR_take) 42 = .ok (.return_, 1) := by decide +kernel
theorem dR_fetch_0 : decode (am_by jR_fetch) 0 = .ok (.aload_n 0, 1) := by decide +kernel
theorem dR_fetch_1 : decode (am_by jR_fetch) 1 = .ok (.aload_n 0, 1) := by decide +kernel
theorem dR_fetch_2 : decode (am_by jR_fetch) 2 = .ok (.getfield 47, 3) := by decide +kernel
theorem dR_fetch_5 : decode (am_by jR_fetch) 5 = .ok (.iload_n 1, 1) := by decide +kernel
theorem dR_fetch_6 : decode (am_by jR_fetch) 6 = .ok (.iaload, 1) := by decide +kernel
theorem dR_fetch_7 : decode (am_by jR_fetch) 7 = .ok (.putfield 152, 3) := by decide +kernel
theorem dR_fetch_10 : decode (am_by jR_fetch) 10 = .ok (.iconst 0, 1) := by decide +kernel
theorem dR_fetch_11 : decode (am_by jR_fetch) 11 = .ok (.istore_n 2, 1) := by decide +kernel
theorem dR_fetch_12 : decode (am_by jR_fetch) 12 = .ok (.iload_n 2, 1) := by decide +kernel
theorem dR_fetch_13 : decode (am_by jR_fetch) 13 = .ok (.bipush 8, 2) := by decide +kernel
theorem dR_fetch_15 : decode (am_by jR_fetch) 15 = .ok (.if_icmp .ge 43, 3) := by decide +kernel
theorem dR_fetch_18 : decode (am_by jR_fetch) 18 = .ok (.aload_n 0, 1) := by decide +kernel
theorem dR_fetch_19 : decode (am_by jR_fetch) 19 = .ok (.getfield 56, 3) := by decide +kernel
theorem dR_fetch_22 : decode (am_by jR_fetch) 22 = .ok (.iload_n 2, 1) := by decide +kernel
theorem dR_fetch_23 : decode (am_by jR_fetch) 23 = .ok (.aload_n 0, 1) := by decide +kernel
theorem dR_fetch_24 : decode (am_by jR_fetch) 24 = .ok (.getfield 50, 3) := by decide +kernel
theorem dR_fetch_27 : decode (am_by jR_fetch) 27 = .ok (.bipush 8, 2) := by decide +kernel
theorem dR_fetch_29 : decode (am_by jR_fetch) 29 = .ok (.iload_n 1, 1) := by decide +kernel
theorem dR_fetch_30 : decode (am_by jR_fetch) 30 = .ok (.imul, 1) := by decide +kernel
theorem dR_fetch_31 : decode (am_by jR_fetch) 31 = .ok (.iload_n 2, 1) := by decide +kernel
theorem dR_fetch_32 : decode (am_by jR_fetch) 32 = .ok (.iadd, 1) := by decide +kernel
theorem dR_fetch_33 : decode (am_by jR_fetch) 33 = .ok (.iaload, 1) := by decide +kernel
theorem dR_fetch_34 : decode (am_by jR_fetch) 34 = .ok (.iastore, 1) := by decide +kernel
theorem dR_fetch_35 : decode (am_by jR_fetch) 35 = .ok (.aload_n 0, 1) := by decide +kernel
theorem dR_fetch_36 : decode (am_by jR_fetch) 36 = .ok (.getfield 59, 3) := by decide +kernel
theorem dR_fetch_39 : decode (am_by jR_fetch) 39 = .ok (.iload_n 2, 1) := by decide +kernel
theorem dR_fetch_40 : decode (am_by jR_fetch) 40 = .ok (.aload_n 0, 1) := by decide +kernel
theorem dR_fetch_41 : decode (am_by jR_fetch) 41 = .ok (.getfield 53, 3) := by decide +kernel
theorem dR_fetch_44 : decode (am_by jR_fetch) 44 = .ok (.bipush 8, 2) := by decide +kernel
theorem dR_fetch_46 : decode (am_by jR_fetch) 46 = .ok (.iload_n 1, 1) := by decide +kernel
theorem dR_fetch_47 : decode (am_by jR_fetch) 47 = .ok (.imul, 1) := by decide +kernel
theorem dR_fetch_48 : decode (am_by jR_fetch) 48 = .ok (.iload_n 2, 1) := by decide +kernel
theorem dR_fetch_49 : decode (am_by jR_fetch) 49 = .ok (.iadd, 1) := by decide +kernel
theorem dR_fetch_50 : decode (am_by jR_fetch) 50 = .ok (.iaload, 1) := by decide +kernel
theorem dR_fetch_51 : decode (am_by jR_fetch) 51 = .ok (.iastore, 1) := by decide +kernel
theorem dR_fetch_52 : decode (am_by jR_fetch) 52 = .ok (.iinc 2 1, 3) := by decide +kernel
theorem dR_fetch_55 : decode (am_by jR_fetch) 55 = .ok (.goto (-43), 3) := by decide +kernel
theorem dR_fetch_58 : decode (am_by jR_fetch) 58 = .ok (.return_, 1) := by decide +kernel
theorem dR_arrive_0 : decode (am_by jR_arrive) 0 = .ok (.iload_n 2, 1) := by decide +kernel
theorem dR_arrive_1 : decode (am_by jR_arrive) 1 = .ok (.aload_n 0, 1) := by decide +kernel
theorem dR_arrive_2 : decode (am_by jR_arrive) 2 = .ok (.getfield 19, 3) := by decide +kernel
theorem dR_arrive_5 : decode (am_by jR_arrive) 5 = .ok (.iload_n 1, 1) := by decide +kernel
theorem dR_arrive_6 : decode (am_by jR_arrive) 6 = .ok (.iaload, 1) := by decide +kernel
theorem dR_arrive_7 : decode (am_by jR_arrive) 7 = .ok (.if_icmp .lt 9, 3) := by decide +kernel
theorem dR_arrive_10 : decode (am_by jR_arrive) 10 = .ok (.aload_n 0, 1) := by decide +kernel
theorem dR_arrive_11 : decode (am_by jR_arrive) 11 = .ok (.iconst 0, 1) := by decide +kernel
theorem dR_arrive_12 : decode (am_by jR_arrive) 12 = .ok (.putfield 155, 3) := by decide +kernel
theorem dR_arrive_15 : decode (am_by jR_arrive) 15 = .ok (.return_, 1) := by decide +kernel
theorem dR_arrive_16 : decode (am_by jR_arrive) 16 = .ok (.aload_n 0, 1) := by decide +kernel
theorem dR_arrive_17 : decode (am_by jR_arrive) 17 = .ok (.getfield 44, 3) := by decide +kernel
theorem dR_arrive_20 : decode (am_by jR_arrive) 20 = .ok (.iload_n 2, 1) := by decide +kernel
theorem dR_arrive_21 : decode (am_by jR_arrive) 21 = .ok (.baload, 1) := by decide +kernel
theorem dR_arrive_22 : decode (am_by jR_arrive) 22 = .ok (.ifCond .eq 21, 3) := by decide +kernel
theorem dR_arrive_25 : decode (am_by jR_arrive) 25 = .ok (.aload_n 0, 1) := by decide +kernel
theorem dR_arrive_26 : decode (am_by jR_arrive) 26 = .ok (.getfield 47, 3) := by decide +kernel
theorem dR_arrive_29 : decode (am_by jR_arrive) 29 = .ok (.iload_n 2, 1) := by decide +kernel
theorem dR_arrive_30 : decode (am_by jR_arrive) 30 = .ok (.iaload, 1) := by decide +kernel
theorem dR_arrive_31 : decode (am_by jR_arrive) 31 = .ok (.aload_n 0, 1) := by decide +kernel
theorem dR_arrive_32 : decode (am_by jR_arrive) 32 = .ok (.getfield 152, 3) := by decide +kernel
theorem dR_arrive_35 : decode (am_by jR_arrive) 35 = .ok (.if_icmp .eq 8, 3) := by decide +kernel
theorem dR_arrive_38 : decode (am_by jR_arrive) 38 = .ok (.aload_n 0, 1) := by decide +kernel
theorem dR_arrive_39 : decode (am_by jR_arrive) 39 = .ok (.iconst 0, 1) := by decide +kernel
theorem dR_arrive_40 : decode (am_by jR_arrive) 40 = .ok (.putfield 155, 3) := by decide +kernel
theorem dR_arrive_43 : decode (am_by jR_arrive) 43 = .ok (.iconst 0, 1) := by decide +kernel
theorem dR_arrive_44 : decode (am_by jR_arrive) 44 = .ok (.istore_n 3, 1) := by decide +kernel
theorem dR_arrive_45 : decode (am_by jR_arrive) 45 = .ok (.iload_n 3, 1) := by decide +kernel
theorem dR_arrive_46 : decode (am_by jR_arrive) 46 = .ok (.aload_n 0, 1) := by decide +kernel
theorem dR_arrive_47 : decode (am_by jR_arrive) 47 = .ok (.getfield 152, 3) := by decide +kernel
theorem dR_arrive_50 : decode (am_by jR_arrive) 50 = .ok (.if_icmp .ge 67, 3) := by decide +kernel
theorem dR_arrive_53 : decode (am_by jR_arrive) 53 = .ok (.aload_n 0, 1) := by decide +kernel
theorem dR_arrive_54 : decode (am_by jR_arrive) 54 = .ok (.getfield 155, 3) := by decide +kernel
theorem dR_arrive_57 : decode (am_by jR_arrive) 57 = .ok (.ifCond .eq 60, 3) := by decide +kernel
theorem dR_arrive_60 : decode (am_by jR_arrive) 60 = .ok (.aload_n 0, 1) := by decide +kernel
theorem dR_arrive_61 : decode (am_by jR_arrive) 61 = .ok (.getfield 44, 3) := by decide +kernel
theorem dR_arrive_64 : decode (am_by jR_arrive) 64 = .ok (.iload_n 2, 1) := by decide +kernel
theorem dR_arrive_65 : decode (am_by jR_arrive) 65 = .ok (.baload, 1) := by decide +kernel
theorem dR_arrive_66 : decode (am_by jR_arrive) 66 = .ok (.ifCond .eq 28, 3) := by decide +kernel
theorem dR_arrive_69 : decode (am_by jR_arrive) 69 = .ok (.aload_n 0, 1) := by decide +kernel
theorem dR_arrive_70 : decode (am_by jR_arrive) 70 = .ok (.getfield 50, 3) := by decide +kernel
theorem dR_arrive_73 : decode (am_by jR_arrive) 73 = .ok (.bipush 8, 2) := by decide +kernel
theorem dR_arrive_75 : decode (am_by jR_arrive) 75 = .ok (.iload_n 2, 1) := by decide +kernel
theorem dR_arrive_76 : decode (am_by jR_arrive) 76 = .ok (.imul, 1) := by decide +kernel
theorem dR_arrive_77 : decode (am_by jR_arrive) 77 = .ok (.iload_n 3, 1) := by decide +kernel
theorem dR_arrive_78 : decode (am_by jR_arrive) 78 = .ok (.iadd, 1) := by decide +kernel
theorem dR_arrive_79 : decode (am_by jR_arrive) 79 = .ok (.iaload, 1) := by decide +kernel
theorem dR_arrive_80 : decode (am_by jR_arrive) 80 = .ok (.aload_n 0, 1) := by decide +kernel
theorem dR_arrive_81 : decode (am_by jR_arrive) 81 = .ok (.getfield 56, 3) := by decide +kernel
theorem dR_arrive_84 : decode (am_by jR_arrive) 84 = .ok (.iload_n 3, 1) := by decide +kernel
theorem dR_arrive_85 : decode (am_by jR_arrive) 85 = .ok (.iaload, 1) := by decide +kernel
theorem dR_arrive_86 : decode (am_by jR_arrive) 86 = .ok (.if_icmp .eq 8, 3) := by decide +kernel
theorem dR_arrive_89 : decode (am_by jR_arrive) 89 = .ok (.aload_n 0, 1) := by decide +kernel
theorem dR_arrive_90 : decode (am_by jR_arrive) 90 = .ok (.iconst 0, 1) := by decide +kernel
theorem dR_arrive_91 : decode (am_by jR_arrive) 91 = .ok (.putfield 155, 3) := by decide +kernel
theorem dR_arrive_94 : decode (am_by jR_arrive) 94 = .ok (.aload_n 0, 1) := by decide +kernel
theorem dR_arrive_95 : decode (am_by jR_arrive) 95 = .ok (.getfield 50, 3) := by decide +kernel
theorem dR_arrive_98 : decode (am_by jR_arrive) 98 = .ok (.bipush 8, 2) := by decide +kernel
theorem dR_arrive_100 : decode (am_by jR_arrive) 100 = .ok (.iload_n 2, 1) := by decide +kernel
theorem dR_arrive_101 : decode (am_by jR_arrive) 101 = .ok (.imul, 1) := by decide +kernel
theorem dR_arrive_102 : decode (am_by jR_arrive) 102 = .ok (.iload_n 3, 1) := by decide +kernel
theorem dR_arrive_103 : decode (am_by jR_arrive) 103 = .ok (.iadd, 1) := by decide +kernel
theorem dR_arrive_104 : decode (am_by jR_arrive) 104 = .ok (.aload_n 0, 1) := by decide +kernel
theorem dR_arrive_105 : decode (am_by jR_arrive) 105 = .ok (.getfield 56, 3) := by decide +kernel
theorem dR_arrive_108 : decode (am_by jR_arrive) 108 = .ok (.iload_n 3, 1) := by decide +kernel
theorem dR_arrive_109 : decode (am_by jR_arrive) 109 = .ok (.iaload, 1) := by decide +kernel
theorem dR_arrive_110 : decode (am_by jR_arrive) 110 = .ok (.iastore, 1) := by decide +kernel
theorem dR_arrive_111 : decode (am_by jR_arrive) 111 = .ok (.iinc 3 1, 3) := by decide +kernel
theorem dR_arrive_114 : decode (am_by jR_arrive) 114 = .ok (.goto (-69), 3) := by decide +kernel
theorem dR_arrive_117 : decode (am_by jR_arrive) 117 = .ok (.iconst 0, 1) := by decide +kernel
theorem dR_arrive_118 : decode (am_by jR_arrive) 118 = .ok (.istore_n 3, 1) := by decide +kernel
theorem dR_arrive_119 : decode (am_by jR_arrive) 119 = .ok (.iload_n 3, 1) := by decide +kernel
theorem dR_arrive_120 : decode (am_by jR_arrive) 120 = .ok (.bipush 8, 2) := by decide +kernel
theorem dR_arrive_122 : decode (am_by jR_arrive) 122 = .ok (.if_icmp .ge 93, 3) := by decide +kernel
theorem dR_arrive_125 : decode (am_by jR_arrive) 125 = .ok (.aload_n 0, 1) := by decide +kernel
theorem dR_arrive_126 : decode (am_by jR_arrive) 126 = .ok (.getfield 44, 3) := by decide +kernel
theorem dR_arrive_129 : decode (am_by jR_arrive) 129 = .ok (.iload_n 2, 1) := by decide +kernel
theorem dR_arrive_130 : decode (am_by jR_arrive) 130 = .ok (.baload, 1) := by decide +kernel
theorem dR_arrive_131 : decode (am_by jR_arrive) 131 = .ok (.ifCond .eq 23, 3) := by decide +kernel
theorem dR_arrive_134 : decode (am_by jR_arrive) 134 = .ok (.aload_n 0, 1) := by decide +kernel
theorem dR_arrive_135 : decode (am_by jR_arrive) 135 = .ok (.getfield 53, 3) := by decide +kernel
theorem dR_arrive_138 : decode (am_by jR_arrive) 138 = .ok (.bipush 8, 2) := by decide +kernel
theorem dR_arrive_140 : decode (am_by jR_arrive) 140 = .ok (.iload_n 2, 1) := by decide +kernel
theorem dR_arrive_141 : decode (am_by jR_arrive) 141 = .ok (.imul, 1) := by decide +kernel
theorem dR_arrive_142 : decode (am_by jR_arrive) 142 = .ok (.iload_n 3, 1) := by decide +kernel
theorem dR_arrive_143 : decode (am_by jR_arrive) 143 = .ok (.iadd, 1) := by decide +kernel
theorem dR_arrive_144 : decode (am_by jR_arrive) 144 = .ok (.iaload, 1) := by decide +kernel
theorem dR_arrive_145 : decode (am_by jR_arrive) 145 = .ok (.aload_n 0, 1) := by decide +kernel
theorem dR_arrive_146 : decode (am_by jR_arrive) 146 = .ok (.getfield 59, 3) := by decide +kernel
theorem dR_arrive_149 : decode (am_by jR_arrive) 149 = .ok (.iload_n 3, 1) := by decide +kernel
theorem dR_arrive_150 : decode (am_by jR_arrive) 150 = .ok (.iaload, 1) := by decide +kernel
theorem dR_arrive_151 : decode (am_by jR_arrive) 151 = .ok (.if_icmp .ne 12, 3) := by decide +kernel
theorem dR_arrive_154 : decode (am_by jR_arrive) 154 = .ok (.aload_n 0, 1) := by decide +kernel
theorem dR_arrive_155 : decode (am_by jR_arrive) 155 = .ok (.getfield 59, 3) := by decide +kernel
theorem dR_arrive_158 : decode (am_by jR_arrive) 158 = .ok (.iload_n 3, 1) := by decide +kernel
theorem dR_arrive_159 : decode (am_by jR_arrive) 159 = .ok (.iaload, 1) := by decide +kernel
theorem dR_arrive_160 : decode (am_by jR_arrive) 160 = .ok (.goto 4, 3) := by decide +kernel
theorem dR_arrive_163 : decode (am_by jR_arrive) 163 = .ok (.iconst (-1), 1) := by decide +kernel
theorem dR_arrive_164 : decode (am_by jR_arrive) 164 = .ok (.istore 4, 2) := by decide +kernel
theorem dR_arrive_166 : decode (am_by jR_arrive) 166 = .ok (.aload_n 0, 1) := by decide +kernel
theorem dR_arrive_167 : decode (am_by jR_arrive) 167 = .ok (.getfield 44, 3) := by decide +kernel
theorem dR_arrive_170 : decode (am_by jR_arrive) 170 = .ok (.iload_n 2, 1) := by decide +kernel
theorem dR_arrive_171 : decode (am_by jR_arrive) 171 = .ok (.baload, 1) := by decide +kernel
theorem dR_arrive_172 : decode (am_by jR_arrive) 172 = .ok (.ifCond .eq 24, 3) := by decide +kernel
theorem dR_arrive_175 : decode (am_by jR_arrive) 175 = .ok (.aload_n 0, 1) := by decide +kernel
theorem dR_arrive_176 : decode (am_by jR_arrive) 176 = .ok (.getfield 53, 3) := by decide +kernel
theorem dR_arrive_179 : decode (am_by jR_arrive) 179 = .ok (.bipush 8, 2) := by decide +kernel
theorem dR_arrive_181 : decode (am_by jR_arrive) 181 = .ok (.iload_n 2, 1) := by decide +kernel
theorem dR_arrive_182 : decode (am_by jR_arrive) 182 = .ok (.imul, 1) := by decide +kernel
theorem dR_arrive_183 : decode (am_by jR_arrive) 183 = .ok (.iload_n 3, 1) := by decide +kernel
theorem dR_arrive_184 : decode (am_by jR_arrive) 184 = .ok (.iadd, 1) := by decide +kernel
theorem dR_arrive_185 : decode (am_by jR_arrive) 185 = .ok (.iaload, 1) := by decide +kernel
theorem dR_arrive_186 : decode (am_by jR_arrive) 186 = .ok (.iload 4, 2) := by decide +kernel
theorem dR_arrive_188 : decode (am_by jR_arrive) 188 = .ok (.if_icmp .eq 8, 3) := by decide +kernel
theorem dR_arrive_191 : decode (am_by jR_arrive) 191 = .ok (.aload_n 0, 1) := by decide +kernel
theorem dR_arrive_192 : decode (am_by jR_arrive) 192 = .ok (.iconst 1, 1) := by decide +kernel
theorem dR_arrive_193 : decode (am_by jR_arrive) 193 = .ok (.putfield 159, 3) := by decide +kernel
theorem dR_arrive_196 : decode (am_by jR_arrive) 196 = .ok (.aload_n 0, 1) := by decide +kernel
theorem dR_arrive_197 : decode (am_by jR_arrive) 197 = .ok (.getfield 53, 3) := by decide +kernel
theorem dR_arrive_200 : decode (am_by jR_arrive) 200 = .ok (.bipush 8, 2) := by decide +kernel
theorem dR_arrive_202 : decode (am_by jR_arrive) 202 = .ok (.iload_n 2, 1) := by decide +kernel
theorem dR_arrive_203 : decode (am_by jR_arrive) 203 = .ok (.imul, 1) := by decide +kernel
theorem dR_arrive_204 : decode (am_by jR_arrive) 204 = .ok (.iload_n 3, 1) := by decide +kernel
theorem dR_arrive_205 : decode (am_by jR_arrive) 205 = .ok (.iadd, 1) := by decide +kernel
theorem dR_arrive_206 : decode (am_by jR_arrive) 206 = .ok (.iload 4, 2) := by decide +kernel
theorem dR_arrive_208 : decode (am_by jR_arrive) 208 = .ok (.iastore, 1) := by decide +kernel
theorem dR_arrive_209 : decode (am_by jR_arrive) 209 = .ok (.iinc 3 1, 3) := by decide +kernel
theorem dR_arrive_212 : decode (am_by jR_arrive) 212 = .ok (.goto (-93), 3) := by decide +kernel
theorem dR_arrive_215 : decode (am_by jR_arrive) 215 = .ok (.aload_n 0, 1) := by decide +kernel
theorem dR_arrive_216 : decode (am_by jR_arrive) 216 = .ok (.getfield 44, 3) := by decide +kernel
theorem dR_arrive_219 : decode (am_by jR_arrive) 219 = .ok (.iload_n 2, 1) := by decide +kernel
