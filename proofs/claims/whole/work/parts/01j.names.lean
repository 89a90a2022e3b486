theorem dX8_settle_52 : decode cX8_settle 52 = .ok (.aload_n 0, 1) := by decide +kernel
theorem dX8_settle_53 : decode cX8_settle 53 = .ok (.getfield 41, 3) := by decide +kernel
theorem dX8_settle_56 : decode cX8_settle 56 = .ok (.bipush 6, 2) := by decide +kernel
theorem dX8_settle_58 : decode cX8_settle 58 = .ok (.iload_n 1, 1) := by decide +kernel
theorem dX8_settle_59 : decode cX8_settle 59 = .ok (.imul, 1) := by decide +kernel
theorem dX8_settle_60 : decode cX8_settle 60 = .ok (.iload_n 2, 1) := by decide +kernel
theorem dX8_settle_61 : decode cX8_settle 61 = .ok (.iadd, 1) := by decide +kernel
theorem dX8_settle_62 : decode cX8_settle 62 = .ok (.aload_n 0, 1) := by decide +kernel
theorem dX8_settle_63 : decode cX8_settle 63 = .ok (.getfield 26, 3) := by decide +kernel
theorem dX8_settle_66 : decode cX8_settle 66 = .ok (.bipush 6, 2) := by decide +kernel
theorem dX8_settle_68 : decode cX8_settle 68 = .ok (.iload_n 1, 1) := by decide +kernel
theorem dX8_settle_69 : decode cX8_settle 69 = .ok (.imul, 1) := by decide +kernel
theorem dX8_settle_70 : decode cX8_settle 70 = .ok (.iload_n 2, 1) := by decide +kernel
theorem dX8_settle_71 : decode cX8_settle 71 = .ok (.iadd, 1) := by decide +kernel
theorem dX8_settle_72 : decode cX8_settle 72 = .ok (.iaload, 1) := by decide +kernel
theorem dX8_settle_73 : decode cX8_settle 73 = .ok (.iastore, 1) := by decide +kernel
theorem dX8_settle_74 : decode cX8_settle 74 = .ok (.aload_n 0, 1) := by decide +kernel
theorem dX8_settle_75 : decode cX8_settle 75 = .ok (.getfield 44, 3) := by decide +kernel
theorem dX8_settle_78 : decode cX8_settle 78 = .ok (.bipush 6, 2) := by decide +kernel
theorem dX8_settle_80 : decode cX8_settle 80 = .ok (.iload_n 1, 1) := by decide +kernel
theorem dX8_settle_81 : decode cX8_settle 81 = .ok (.imul, 1) := by decide +kernel
theorem dX8_settle_82 : decode cX8_settle 82 = .ok (.iload_n 2, 1) := by decide +kernel
theorem dX8_settle_83 : decode cX8_settle 83 = .ok (.iadd, 1) := by decide +kernel
theorem dX8_settle_84 : decode cX8_settle 84 = .ok (.aload_n 0, 1) := by decide +kernel
theorem dX8_settle_85 : decode cX8_settle 85 = .ok (.getfield 29, 3) := by decide +kernel
theorem dX8_settle_88 : decode cX8_settle 88 = .ok (.bipush 6, 2) := by decide +kernel
theorem dX8_settle_90 : decode cX8_settle 90 = .ok (.iload_n 1, 1) := by decide +kernel
theorem dX8_settle_91 : decode cX8_settle 91 = .ok (.imul, 1) := by decide +kernel
theorem dX8_settle_92 : decode cX8_settle 92 = .ok (.iload_n 2, 1) := by decide +kernel
theorem dX8_settle_93 : decode cX8_settle 93 = .ok (.iadd, 1) := by decide +kernel
theorem dX8_settle_94 : decode cX8_settle 94 = .ok (.iaload, 1) := by decide +kernel
theorem dX8_settle_95 : decode cX8_settle 95 = .ok (.iastore, 1) := by decide +kernel
theorem dX8_settle_96 : decode cX8_settle 96 = .ok (.aload_n 0, 1) := by decide +kernel
theorem dX8_settle_97 : decode cX8_settle 97 = .ok (.getfield 20, 3) := by decide +kernel
theorem dX8_settle_100 : decode cX8_settle 100 = .ok (.bipush 6, 2) := by decide +kernel
theorem dX8_settle_102 : decode cX8_settle 102 = .ok (.iload_n 1, 1) := by decide +kernel
theorem dX8_settle_103 : decode cX8_settle 103 = .ok (.imul, 1) := by decide +kernel
theorem dX8_settle_104 : decode cX8_settle 104 = .ok (.iload_n 2, 1) := by decide +kernel
theorem dX8_settle_105 : decode cX8_settle 105 = .ok (.iadd, 1) := by decide +kernel
theorem dX8_settle_106 : decode cX8_settle 106 = .ok (.aload_n 0, 1) := by decide +kernel
theorem dX8_settle_107 : decode cX8_settle 107 = .ok (.getfield 81, 3) := by decide +kernel
theorem dX8_settle_110 : decode cX8_settle 110 = .ok (.iload_n 2, 1) := by decide +kernel
theorem dX8_settle_111 : decode cX8_settle 111 = .ok (.iaload, 1) := by decide +kernel
theorem dX8_settle_112 : decode cX8_settle 112 = .ok (.iastore, 1) := by decide +kernel
theorem dX8_settle_113 : decode cX8_settle 113 = .ok (.aload_n 0, 1) := by decide +kernel
theorem dX8_settle_114 : decode cX8_settle 114 = .ok (.getfield 23, 3) := by decide +kernel
theorem dX8_settle_117 : decode cX8_settle 117 = .ok (.bipush 6, 2) := by decide +kernel
theorem dX8_settle_119 : decode cX8_settle 119 = .ok (.iload_n 1, 1) := by decide +kernel
theorem dX8_settle_120 : decode cX8_settle 120 = .ok (.imul, 1) := by decide +kernel
theorem dX8_settle_121 : decode cX8_settle 121 = .ok (.iload_n 2, 1) := by decide +kernel
theorem dX8_settle_122 : decode cX8_settle 122 = .ok (.iadd, 1) := by decide +kernel
theorem dX8_settle_123 : decode cX8_settle 123 = .ok (.aload_n 0, 1) := by decide +kernel
theorem dX8_settle_124 : decode cX8_settle 124 = .ok (.getfield 84, 3) := by decide +kernel
theorem dX8_settle_127 : decode cX8_settle 127 = .ok (.iload_n 2, 1) := by decide +kernel
theorem dX8_settle_128 : decode cX8_settle 128 = .ok (.iaload, 1) := by decide +kernel
theorem dX8_settle_129 : decode cX8_settle 129 = .ok (.iastore, 1) := by decide +kernel
theorem dX8_settle_130 : decode cX8_settle 130 = .ok (.aload_n 0, 1) := by decide +kernel
theorem dX8_settle_131 : decode cX8_settle 131 = .ok (.getfield 26, 3) := by decide +kernel
theorem dX8_settle_134 : decode cX8_settle 134 = .ok (.bipush 6, 2) := by decide +kernel
theorem dX8_settle_136 : decode cX8_settle 136 = .ok (.iload_n 1, 1) := by decide +kernel
theorem dX8_settle_137 : decode cX8_settle 137 = .ok (.imul, 1) := by decide +kernel
theorem dX8_settle_138 : decode cX8_settle 138 = .ok (.iload_n 2, 1) := by decide +kernel
theorem dX8_settle_139 : decode cX8_settle 139 = .ok (.iadd, 1) := by decide +kernel
theorem dX8_settle_140 : decode cX8_settle 140 = .ok (.aload_n 0, 1) := by decide +kernel
theorem dX8_settle_141 : decode cX8_settle 141 = .ok (.getfield 87, 3) := by decide +kernel
theorem dX8_settle_144 : decode cX8_settle 144 = .ok (.iload_n 2, 1) := by decide +kernel
theorem dX8_settle_145 : decode cX8_settle 145 = .ok (.iaload, 1) := by decide +kernel
theorem dX8_settle_146 : decode cX8_settle 146 = .ok (.iastore, 1) := by decide +kernel
theorem dX8_settle_147 : decode cX8_settle 147 = .ok (.aload_n 0, 1) := by decide +kernel
theorem dX8_settle_148 : decode cX8_settle 148 = .ok (.getfield 29, 3) := by decide +kernel
theorem dX8_settle_151 : decode cX8_settle 151 = .ok (.bipush 6, 2) := by decide +kernel
theorem dX8_settle_153 : decode cX8_settle 153 = .ok (.iload_n 1, 1) := by decide +kernel
theorem dX8_settle_154 : decode cX8_settle 154 = .ok (.imul, 1) := by decide +kernel
theorem dX8_settle_155 : decode cX8_settle 155 = .ok (.iload_n 2, 1) := by decide +kernel
theorem dX8_settle_156 : decode cX8_settle 156 = .ok (.iadd, 1) := by decide +kernel
theorem dX8_settle_157 : decode cX8_settle 157 = .ok (.aload_n 0, 1) := by decide +kernel
theorem dX8_settle_158 : decode cX8_settle 158 = .ok (.getfield 90, 3) := by decide +kernel
theorem dX8_settle_161 : decode cX8_settle 161 = .ok (.iload_n 2, 1) := by decide +kernel
theorem dX8_settle_162 : decode cX8_settle 162 = .ok (.iaload, 1) := by decide +kernel
theorem dX8_settle_163 : decode cX8_settle 163 = .ok (.iastore, 1) := by decide +kernel
theorem dX8_settle_164 : decode cX8_settle 164 = .ok (.iinc 2 1, 3) := by decide +kernel
theorem dX8_settle_167 : decode cX8_settle 167 = .ok (.goto (-165), 3) := by decide +kernel
theorem dX8_settle_170 : decode cX8_settle 170 = .ok (.aload_n 0, 1) := by decide +kernel
theorem dX8_settle_171 : decode cX8_settle 171 = .ok (.getfield 32, 3) := by decide +kernel
theorem dX8_settle_174 : decode cX8_settle 174 = .ok (.iload_n 1, 1) := by decide +kernel
theorem dX8_settle_175 : decode cX8_settle 175 = .ok (.aload_n 0, 1) := by decide +kernel
theorem dX8_settle_176 : decode cX8_settle 176 = .ok (.getfield 17, 3) := by decide +kernel
theorem dX8_settle_179 : decode cX8_settle 179 = .ok (.iload_n 1, 1) := by decide +kernel
theorem dX8_settle_180 : decode cX8_settle 180 = .ok (.iaload, 1) := by decide +kernel
theorem dX8_settle_181 : decode cX8_settle 181 = .ok (.iastore, 1) := by decide +kernel
theorem dX8_settle_182 : decode cX8_settle 182 = .ok (.aload_n 0, 1) := by decide +kernel
theorem dX8_settle_183 : decode cX8_settle 183 = .ok (.getfield 17, 3) := by decide +kernel
theorem dX8_settle_186 : decode cX8_settle 186 = .ok (.iload_n 1, 1) := by decide +kernel
theorem dX8_settle_187 : decode cX8_settle 187 = .ok (.aload_n 0, 1) := by decide +kernel
theorem dX8_settle_188 : decode cX8_settle 188 = .ok (.getfield 207, 3) := by decide +kernel
theorem dX8_settle_191 : decode cX8_settle 191 = .ok (.iastore, 1) := by decide +kernel
theorem dX8_settle_192 : decode cX8_settle 192 = .ok (.iconst 0, 1) := by decide +kernel
theorem dX8_settle_193 : decode cX8_settle 193 = .ok (.istore_n 2, 1) := by decide +kernel
theorem dX8_settle_194 : decode cX8_settle 194 = .ok (.iload_n 2, 1) := by decide +kernel
theorem dX8_settle_195 : decode cX8_settle 195 = .ok (.sipush 144, 3) := by decide +kernel
theorem dX8_settle_198 : decode cX8_settle 198 = .ok (.if_icmp .ge 78, 3) := by decide +kernel
theorem dX8_settle_201 : decode cX8_settle 201 = .ok (.aload_n 0, 1) := by decide +kernel
theorem dX8_settle_202 : decode cX8_settle 202 = .ok (.getfield 47, 3) := by decide +kernel
theorem dX8_settle_205 : decode cX8_settle 205 = .ok (.iload_n 2, 1) := by decide +kernel
theorem dX8_settle_206 : decode cX8_settle 206 = .ok (.bipush 6, 2) := by decide +kernel
theorem dX8_settle_208 : decode cX8_settle 208 = .ok (.idiv, 1) := by decide +kernel
theorem dX8_settle_209 : decode cX8_settle 209 = .ok (.iaload, 1) := by decide +kernel
theorem dX8_settle_210 : decode cX8_settle 210 = .ok (.iload_n 1, 1) := by decide +kernel
theorem dX8_settle_211 : decode cX8_settle 211 = .ok (.if_icmp .ne 7, 3) := by decide +kernel
theorem dX8_settle_214 : decode cX8_settle 214 = .ok (.iconst 1, 1) := by decide +kernel
theorem dX8_settle_215 : decode cX8_settle 215 = .ok (.goto 4, 3) := by decide +kernel
theorem dX8_settle_218 : decode cX8_settle 218 = .ok (.iconst 0, 1) := by decide +kernel
theorem dX8_settle_219 : decode cX8_settle 219 = .ok (.istore_n 3, 1) := by decide +kernel
theorem dX8_settle_220 : decode cX8_settle 220 = .ok (.aload_n 0, 1) := by decide +kernel
theorem dX8_settle_221 : decode cX8_settle 221 = .ok (.getfield 56, 3) := by decide +kernel
theorem dX8_settle_224 : decode cX8_settle 224 = .ok (.iload_n 2, 1) := by decide +kernel
theorem dX8_settle_225 : decode cX8_settle 225 = .ok (.iload_n 3, 1) := by decide +kernel
theorem dX8_settle_226 : decode cX8_settle 226 = .ok (.ifCond .eq 12, 3) := by decide +kernel
theorem dX8_settle_229 : decode cX8_settle 229 = .ok (.aload_n 0, 1) := by decide +kernel
theorem dX8_settle_230 : decode cX8_settle 230 = .ok (.getfield 53, 3) := by decide +kernel
theorem dX8_settle_233 : decode cX8_settle 233 = .ok (.iload_n 2, 1) := by decide +kernel
theorem dX8_settle_234 : decode cX8_settle 234 = .ok (.iaload, 1) := by decide +kernel
theorem dX8_settle_235 : decode cX8_settle 235 = .ok (.goto 9, 3) := by decide +kernel
theorem dX8_settle_238 : decode cX8_settle 238 = .ok (.aload_n 0, 1) := by decide +kernel
theorem dX8_settle_239 : decode cX8_settle 239 = .ok (.getfield 56, 3) := by decide +kernel
theorem dX8_settle_242 : decode cX8_settle 242 = .ok (.iload_n 2, 1) := by decide +kernel
theorem dX8_settle_243 : decode cX8_settle 243 = .ok (.iaload, 1) := by decide +kernel
theorem dX8_settle_244 : decode cX8_settle 244 = .ok (.iastore, 1) := by decide +kernel
theorem dX8_settle_245 : decode cX8_settle 245 = .ok (.aload_n 0, 1) := by decide +kernel
theorem dX8_settle_246 : decode cX8_settle 246 = .ok (.getfield 53, 3) := by decide +kernel
theorem dX8_settle_249 : decode cX8_settle 249 = .ok (.iload_n 2, 1) := by decide +kernel
theorem dX8_settle_250 : decode cX8_settle 250 = .ok (.iload_n 3, 1) := by decide +kernel
theorem dX8_settle_251 : decode cX8_settle 251 = .ok (.ifCond .eq 12, 3) := by decide +kernel
theorem dX8_settle_254 : decode cX8_settle 254 = .ok (.aload_n 0, 1) := by decide +kernel
theorem dX8_settle_255 : decode cX8_settle 255 = .ok (.getfield 96, 3) := by decide +kernel
theorem dX8_settle_258 : decode cX8_settle 258 = .ok (.iload_n 2, 1) := by decide +kernel
theorem dX8_settle_259 : decode cX8_settle 259 = .ok (.iaload, 1) := by decide +kernel
theorem dX8_settle_260 : decode cX8_settle 260 = .ok (.goto 9, 3) := by decide +kernel
theorem dX8_settle_263 : decode cX8_settle 263 = .ok (.aload_n 0, 1) := by decide +kernel
theorem dX8_settle_264 : decode cX8_settle 264 = .ok (.getfield 53, 3) := by decide +kernel
theorem dX8_settle_267 : decode cX8_settle 267 = .ok (.iload_n 2, 1) := by decide +kernel
theorem dX8_settle_268 : decode cX8_settle 268 = .ok (.iaload, 1) := by decide +kernel
theorem dX8_settle_269 : decode cX8_settle 269 = .ok (.iastore, 1) := by decide +kernel
theorem dX8_settle_270 : decode cX8_settle 270 = .ok (.iinc 2 1, 3) := by decide +kernel
theorem dX8_settle_273 : decode cX8_settle 273 = .ok (.goto (-79), 3) := by decide +kernel
theorem dX8_settle_276 : decode cX8_settle 276 = .ok (.aload_n 0, 1) := by decide +kernel
theorem dX8_settle_277 : decode cX8_settle 277 = .ok (.getfield 7, 3) := by decide +kernel
theorem dX8_settle_280 : decode cX8_settle 280 = .ok (.iload_n 1, 1) := by decide +kernel
theorem dX8_settle_281 : decode cX8_settle 281 = .ok (.dup2, 1) := by decide +kernel
theorem dX8_settle_282 : decode cX8_settle 282 = .ok (.iaload, 1) := by decide +kernel
theorem dX8_settle_283 : decode cX8_settle 283 = .ok (.iconst 1, 1) := by decide +kernel
theorem dX8_settle_284 : decode cX8_settle 284 = .ok (.iadd, 1) := by decide +kernel
theorem dX8_settle_285 : decode cX8_settle 285 = .ok (.iastore, 1) := by decide +kernel
theorem dX8_settle_286 : decode cX8_settle 286 = .ok (.aload_n 0, 1) := by decide +kernel
theorem dX8_settle_287 : decode cX8_settle 287 = .ok (.getfield 13, 3) := by decide +kernel
theorem dX8_settle_290 : decode cX8_settle 290 = .ok (.iload_n 1, 1) := by decide +kernel
theorem dX8_settle_291 : decode cX8_settle 291 = .ok (.aload_n 0, 1) := by decide +kernel
theorem dX8_settle_292 : decode cX8_settle 292 = .ok (.getfield 234, 3) := by decide +kernel
theorem dX8_settle_295 : decode cX8_settle 295 = .ok (.ifCond .ne 7, 3) := by decide +kernel
theorem dX8_settle_298 : decode cX8_settle 298 = .ok (.iconst 1, 1) := by decide +kernel
theorem dX8_settle_299 : decode cX8_settle 299 = .ok (.goto 4, 3) := by decide +kernel
theorem dX8_settle_302 : decode cX8_settle 302 = .ok (.iconst 0, 1) := by decide +kernel
theorem dX8_settle_303 : decode cX8_settle 303 = .ok (.bastore, 1) := by decide +kernel
theorem dX8_settle_304 : decode cX8_settle 304 = .ok (.iconst 0, 1) := by decide +kernel
theorem dX8_settle_305 : decode cX8_settle 305 = .ok (.istore_n 2, 1) := by decide +kernel
theorem dX8_settle_306 : decode cX8_settle 306 = .ok (.iload_n 2, 1) := by decide +kernel
theorem dX8_settle_307 : decode cX8_settle 307 = .ok (.aload_n 0, 1) := by decide +kernel
theorem dX8_settle_308 : decode cX8_settle 308 = .ok (.getfield 121, 3) := by decide +kernel
theorem dX8_settle_311 : decode cX8_settle 311 = .ok (.if_icmp .ge 40, 3) := by decide +kernel
theorem dX8_settle_314 : decode cX8_settle 314 = .ok (.aload_n 0, 1) := by decide +kernel
theorem dX8_settle_315 : decode cX8_settle 315 = .ok (.getfield 13, 3) := by decide +kernel
theorem dX8_settle_318 : decode cX8_settle 318 = .ok (.iload_n 2, 1) := by decide +kernel
theorem dX8_settle_319 : decode cX8_settle 319 = .ok (.aload_n 0, 1) := by decide +kernel
theorem dX8_settle_320 : decode cX8_settle 320 = .ok (.getfield 13, 3) := by decide +kernel
theorem dX8_settle_323 : decode cX8_settle 323 = .ok (.iload_n 2, 1) := by decide +kernel
theorem dX8_settle_324 : decode cX8_settle 324 = .ok (.baload, 1) := by decide +kernel
theorem dX8_settle_325 : decode cX8_settle 325 = .ok (.ifCond .eq 18, 3) := by decide +kernel
theorem dX8_settle_328 : decode cX8_settle 328 = .ok (.aload_n 0, 1) := by decide +kernel
theorem dX8_settle_329 : decode cX8_settle 329 = .ok (.getfield 238, 3) := by decide +kernel
theorem dX8_settle_332 : decode cX8_settle 332 = .ok (.iload_n 2, 1) := by decide +kernel
theorem dX8_settle_333 : decode cX8_settle 333 = .ok (.ishr, 1) := by decide +kernel
theorem dX8_settle_334 : decode cX8_settle 334 = .ok (.iconst 1, 1) := by decide +kernel
theorem dX8_settle_335 : decode cX8_settle 335 = .ok (.iand, 1) := by decide +kernel
theorem dX8_settle_336 : decode cX8_settle 336 = .ok (.ifCond .ne 7, 3) := by decide +kernel
theorem dX8_settle_339 : decode cX8_settle 339 = .ok (.iconst 1, 1) := by decide +kernel
theorem dX8_settle_340 : decode cX8_settle 340 = .ok (.goto 4, 3) := by decide +kernel
theorem dX8_settle_343 : decode cX8_settle 343 = .ok (.iconst 0, 1) := by decide +kernel
theorem dX8_settle_344 : decode cX8_settle 344 = .ok (.bastore, 1) := by decide +kernel
theorem dX8_settle_345 : decode cX8_settle 345 = .ok (.iinc 2 1, 3) := by decide +kernel
theorem dX8_settle_348 : decode cX8_settle 348 = .ok (.goto (-42), 3) := by decide +kernel
theorem dX8_settle_351 : decode cX8_settle 351 = .ok (.return_, 1) := by decide +kernel
set_option maxRecDepth 20000 in
theorem ggX8_change_X8_isClass : GoodIn wsX8_change wsX8_isClass := goodIn_r _ [9, 10, 154, 155, 156, 157, 158, 159, 160, 161, 162, 163, 164, 165, 166, 167, 168, 169, 170, 171, 172, 173, 174, 175, 176, 177, 178, 179, 180, 181, 182, 183, 184, 185, 186, 187, 188, 189, 190, 191, 192, 193, 194, 195, 196, 197] rfl (by decide +kernel)
set_option maxRecDepth 20000 in
theorem gX8_change_X8_isClass : GoodIn wsX8_change (wsV RX8 128 RX8 yX8_isClass wsX8_isClass) := goodIn_app (goodIn_of _ (by decide +kernel)) ggX8_change_X8_isClass
set_option maxRecDepth 20000 in
theorem ggX8_change_X8_begin : GoodIn wsX8_change wsX8_begin := goodIn_r _ [14, 15, 16, 17, 18, 19, 20, 21, 22, 23, 24, 25, 26, 27, 28, 29, 30, 31, 32, 33, 34, 35, 154, 155, 156, 157, 158, 159, 160, 161, 162, 163, 164, 165, 166, 167, 168, 169, 170, 171, 172, 173, 174, 175, 176, 177, 178, 179, 180, 181, 182, 183, 184, 185, 186, 187, 188, 189, 190, 191, 192, 193, 194, 195, 196, 197] rfl (by decide +kernel)
set_option maxRecDepth 20000 in
theorem gX8_change_X8_begin : GoodIn wsX8_change (wsV RX8 266 RX8 yX8_begin wsX8_begin) := goodIn_app (goodIn_of _ (by decide +kernel)) ggX8_change_X8_begin
set_option maxRecDepth 20000 in
theorem ggX8_change_X8_act : GoodIn wsX8_change wsX8_act := goodIn_r _ [39, 40, 41, 42, 43, 8, 44, 22, 45, 46, 47, 48, 17, 20, 49, 50, 51, 52, 24, 26, 28, 29, 53, 54, 55, 56, 57, 58, 59, 60, 33, 15, 61, 62, 63, 64, 65, 66, 67, 68, 69, 70, 71, 72, 73, 23, 25, 27, 74, 75, 76, 77, 78, 79, 16, 21, 80, 81, 82, 83, 84, 85, 86, 87, 88, 89, 90, 91, 92, 93, 94, 95, 96, 97, 98, 99, 100, 30, 101, 102, 103, 104, 105, 106, 107, 108, 109, 110, 111, 112, 113, 35, 4, 18, 19, 114, 115, 116, 117, 118, 119, 120, 121, 122, 123, 124, 125, 126, 127, 128, 129, 130, 131, 132, 133, 134, 135, 136, 137, 138, 154, 155, 156, 157, 158, 159, 160, 161, 162, 163, 164, 165, 166, 167, 168, 169, 170, 171, 172, 173, 174, 175, 176, 177, 178, 179, 180, 181, 182, 183, 184, 185, 186, 187, 188, 189, 190, 191, 192, 193, 194, 195, 196, 197] rfl (by decide +kernel)
set_option maxRecDepth 20000 in
theorem gX8_change_X8_act : GoodIn wsX8_change (wsV RX8 269 RX8 yX8_act wsX8_act) := goodIn_app (goodIn_of _ (by decide +kernel)) ggX8_change_X8_act
set_option maxRecDepth 20000 in
theorem ggX8_change_X8_restore : GoodIn wsX8_change wsX8_restore := goodIn_r _ [142, 30, 31, 33, 32, 35, 34, 154, 155, 156, 157, 158, 159, 160, 161, 162, 163, 164, 165, 166, 167, 168, 169, 170, 171, 172, 173, 174, 175, 176, 177, 178, 179, 180, 181, 182, 183, 184, 185, 186, 187, 188, 189, 190, 191, 192, 193, 194, 195, 196, 197] rfl (by decide +kernel)
set_option maxRecDepth 20000 in
theorem gX8_change_X8_restore : GoodIn wsX8_change (wsV RX8 272 RX8 yX8_restore wsX8_restore) := goodIn_app (goodIn_of _ (by decide +kernel)) ggX8_change_X8_restore
set_option maxRecDepth 20000 in
theorem ggX8_change_X8_settle : GoodIn wsX8_change wsX8_settle := goodIn_r _ [146, 147, 21, 148, 23, 149, 25, 150, 27, 20, 22, 24, 26, 151, 16, 17, 33, 152, 30, 29, 4, 153, 18, 10, 19, 154, 155, 156, 157, 158, 159, 160, 161, 162, 163, 164, 165, 166, 167, 168, 169, 170, 171, 172, 173, 174, 175, 176, 177, 178, 179, 180, 181, 182, 183, 184, 185, 186, 187, 188, 189, 190, 191, 192, 193, 194, 195, 196, 197] rfl (by decide +kernel)
set_option maxRecDepth 20000 in
theorem gX8_change_X8_settle : GoodIn wsX8_change (wsV RX8 275 RX8 yX8_settle wsX8_settle) := goodIn_app (goodIn_of _ (by decide +kernel)) ggX8_change_X8_settle
theorem dX8_change_0 : decode cX8_change 0 = .ok (.aload_n 0, 1) := by decide +kernel
theorem dX8_change_1 : decode cX8_change 1 = .ok (.aload_n 0, 1) := by decide +kernel
theorem dX8_change_2 : decode cX8_change 2 = .ok (.iload_n 1, 1) := by decide +kernel
theorem dX8_change_3 : decode cX8_change 3 = .ok (.invokevirtual 128, 3) := by decide +kernel
theorem dX8_change_6 : decode cX8_change 6 = .ok (.ifCond .eq 10, 3) := by decide +kernel
theorem dX8_change_9 : decode cX8_change 9 = .ok (.aload_n 0, 1) := by decide +kernel
theorem dX8_change_10 : decode cX8_change 10 = .ok (.getfield 176, 3) := by decide +kernel
theorem dX8_change_13 : decode cX8_change 13 = .ok (.ifCond .ne 7, 3) := by decide +kernel
theorem dX8_change_16 : decode cX8_change 16 = .ok (.iconst 1, 1) := by decide +kernel
theorem dX8_change_17 : decode cX8_change 17 = .ok (.goto 4, 3) := by decide +kernel
theorem dX8_change_20 : decode cX8_change 20 = .ok (.iconst 0, 1) := by decide +kernel
theorem dX8_change_21 : decode cX8_change 21 = .ok (.putfield 118, 3) := by decide +kernel
theorem dX8_change_24 : decode cX8_change 24 = .ok (.aload_n 0, 1) := by decide +kernel
theorem dX8_change_25 : decode cX8_change 25 = .ok (.getfield 118, 3) := by decide +kernel
theorem dX8_change_28 : decode cX8_change 28 = .ok (.ifCond .le 5, 3) := by decide +kernel
theorem dX8_change_31 : decode cX8_change 31 = .ok (.iconst 0, 1) := by decide +kernel
theorem dX8_change_32 : decode cX8_change 32 = .ok (.ireturn, 1) := by decide +kernel
theorem dX8_change_33 : decode cX8_change 33 = .ok (.aload_n 0, 1) := by decide +kernel
theorem dX8_change_34 : decode cX8_change 34 = .ok (.getfield 176, 3) := by decide +kernel
theorem dX8_change_37 : decode cX8_change 37 = .ok (.istore_n 2, 1) := by decide +kernel
theorem dX8_change_38 : decode cX8_change 38 = .ok (.aload_n 0, 1) := by decide +kernel
theorem dX8_change_39 : decode cX8_change 39 = .ok (.iconst 0, 1) := by decide +kernel
theorem dX8_change_40 : decode cX8_change 40 = .ok (.putfield 176, 3) := by decide +kernel
theorem dX8_change_43 : decode cX8_change 43 = .ok (.aload_n 0, 1) := by decide +kernel
theorem dX8_change_44 : decode cX8_change 44 = .ok (.iconst (-1), 1) := by decide +kernel
theorem dX8_change_45 : decode cX8_change 45 = .ok (.putfield 77, 3) := by decide +kernel
theorem dX8_change_48 : decode cX8_change 48 = .ok (.aload_n 0, 1) := by decide +kernel
theorem dX8_change_49 : decode cX8_change 49 = .ok (.getfield 7, 3) := by decide +kernel
theorem dX8_change_52 : decode cX8_change 52 = .ok (.iload_n 1, 1) := by decide +kernel
theorem dX8_change_53 : decode cX8_change 53 = .ok (.iaload, 1) := by decide +kernel
theorem dX8_change_54 : decode cX8_change 54 = .ok (.bipush 9, 2) := by decide +kernel
theorem dX8_change_56 : decode cX8_change 56 = .ok (.if_icmp .ne 10, 3) := by decide +kernel
theorem dX8_change_59 : decode cX8_change 59 = .ok (.aload_n 0, 1) := by decide +kernel
theorem dX8_change_60 : decode cX8_change 60 = .ok (.iconst 2, 1) := by decide +kernel
theorem dX8_change_61 : decode cX8_change 61 = .ok (.putfield 118, 3) := by decide +kernel
theorem dX8_change_64 : decode cX8_change 64 = .ok (.iconst 0, 1) := by decide +kernel
theorem dX8_change_65 : decode cX8_change 65 = .ok (.ireturn, 1) := by decide +kernel
theorem dX8_change_66 : decode cX8_change 66 = .ok (.aload_n 0, 1) := by decide +kernel
theorem dX8_change_67 : decode cX8_change 67 = .ok (.iload_n 1, 1) := by decide +kernel
theorem dX8_change_68 : decode cX8_change 68 = .ok (.invokevirtual 266, 3) := by decide +kernel
theorem dX8_change_71 : decode cX8_change 71 = .ok (.iconst 0, 1) := by decide +kernel
theorem dX8_change_72 : decode cX8_change 72 = .ok (.istore_n 3, 1) := by decide +kernel
theorem dX8_change_73 : decode cX8_change 73 = .ok (.iload_n 3, 1) := by decide +kernel
theorem dX8_change_74 : decode cX8_change 74 = .ok (.iload_n 2, 1) := by decide +kernel
theorem dX8_change_75 : decode cX8_change 75 = .ok (.if_icmp .ge 33, 3) := by decide +kernel
theorem dX8_change_78 : decode cX8_change 78 = .ok (.aload_n 0, 1) := by decide +kernel
theorem dX8_change_79 : decode cX8_change 79 = .ok (.getfield 77, 3) := by decide +kernel
theorem dX8_change_82 : decode cX8_change 82 = .ok (.ifCond .ge 26, 3) := by decide +kernel
theorem dX8_change_85 : decode cX8_change 85 = .ok (.aload_n 0, 1) := by decide +kernel
theorem dX8_change_86 : decode cX8_change 86 = .ok (.aload_n 0, 1) := by decide +kernel
theorem dX8_change_87 : decode cX8_change 87 = .ok (.iload_n 3, 1) := by decide +kernel
theorem dX8_change_88 : decode cX8_change 88 = .ok (.invokevirtual 269, 3) := by decide +kernel
theorem dX8_change_91 : decode cX8_change 91 = .ok (.ifCond .eq 7, 3) := by decide +kernel
theorem dX8_change_94 : decode cX8_change 94 = .ok (.iconst (-1), 1) := by decide +kernel
theorem dX8_change_95 : decode cX8_change 95 = .ok (.goto 4, 3) := by decide +kernel
theorem dX8_change_98 : decode cX8_change 98 = .ok (.iload_n 3, 1) := by decide +kernel
theorem dX8_change_99 : decode cX8_change 99 = .ok (.putfield 77, 3) := by decide +kernel
theorem dX8_change_102 : decode cX8_change 102 = .ok (.iinc 3 1, 3) := by decide +kernel
theorem dX8_change_105 : decode cX8_change 105 = .ok (.goto (-32), 3) := by decide +kernel
theorem dX8_change_108 : decode cX8_change 108 = .ok (.aload_n 0, 1) := by decide +kernel
theorem dX8_change_109 : decode cX8_change 109 = .ok (.getfield 77, 3) := by decide +kernel
theorem dX8_change_112 : decode cX8_change 112 = .ok (.ifCond .lt 14, 3) := by decide +kernel
theorem dX8_change_115 : decode cX8_change 115 = .ok (.aload_n 0, 1) := by decide +kernel
theorem dX8_change_116 : decode cX8_change 116 = .ok (.invokevirtual 272, 3) := by decide +kernel
theorem dX8_change_119 : decode cX8_change 119 = .ok (.aload_n 0, 1) := by decide +kernel
theorem dX8_change_120 : decode cX8_change 120 = .ok (.iconst 2, 1) := by decide +kernel
theorem dX8_change_121 : decode cX8_change 121 = .ok (.putfield 118, 3) := by decide +kernel
theorem dX8_change_124 : decode cX8_change 124 = .ok (.iconst 0, 1) := by decide +kernel
theorem dX8_change_125 : decode cX8_change 125 = .ok (.ireturn, 1) := by decide +kernel
theorem dX8_change_126 : decode cX8_change 126 = .ok (.aload_n 0, 1) := by decide +kernel
theorem dX8_change_127 : decode cX8_change 127 = .ok (.iload_n 1, 1) := by decide +kernel
theorem dX8_change_128 : decode cX8_change 128 = .ok (.invokevirtual 275, 3) := by decide +kernel
theorem dX8_change_131 : decode cX8_change 131 = .ok (.aload_n 0, 1) := by decide +kernel
theorem dX8_change_132 : decode cX8_change 132 = .ok (.getfield 7, 3) := by decide +kernel
theorem dX8_change_135 : decode cX8_change 135 = .ok (.iload_n 1, 1) := by decide +kernel
theorem dX8_change_136 : decode cX8_change 136 = .ok (.iaload, 1) := by decide +kernel
theorem dX8_change_137 : decode cX8_change 137 = .ok (.ireturn, 1) := by decide +kernel
set_option maxRecDepth 20000 in
theorem ggX8_takeBack_X8_isClass : GoodIn wsX8_takeBack wsX8_isClass := goodIn_r _ [22, 23, 24, 25, 26, 27, 28, 29, 30, 31, 32, 33, 34, 35, 36, 37, 38, 39, 40, 41, 42, 43, 44, 45, 46, 47, 48, 49, 50, 51, 52, 53, 54, 55, 56, 57, 58, 59, 60, 61, 62, 63, 64, 65, 66, 67] rfl (by decide +kernel)
set_option maxRecDepth 20000 in
theorem gX8_takeBack_X8_isClass : GoodIn wsX8_takeBack (wsV RX8 128 RX8 yX8_isClass wsX8_isClass) := goodIn_app (goodIn_of _ (by decide +kernel)) ggX8_takeBack_X8_isClass
theorem dX8_takeBack_0 : decode cX8_takeBack 0 = .ok (.aload_n 0, 1) := by decide +kernel
theorem dX8_takeBack_1 : decode cX8_takeBack 1 = .ok (.aload_n 0, 1) := by decide +kernel
theorem dX8_takeBack_2 : decode cX8_takeBack 2 = .ok (.iload_n 1, 1) := by decide +kernel
theorem dX8_takeBack_3 : decode cX8_takeBack 3 = .ok (.invokevirtual 128, 3) := by decide +kernel
theorem dX8_takeBack_6 : decode cX8_takeBack 6 = .ok (.ifCond .ne 7, 3) := by decide +kernel
theorem dX8_takeBack_9 : decode cX8_takeBack 9 = .ok (.iconst 1, 1) := by decide +kernel
theorem dX8_takeBack_10 : decode cX8_takeBack 10 = .ok (.goto 17, 3) := by decide +kernel
theorem dX8_takeBack_13 : decode cX8_takeBack 13 = .ok (.aload_n 0, 1) := by decide +kernel
theorem dX8_takeBack_14 : decode cX8_takeBack 14 = .ok (.getfield 13, 3) := by decide +kernel
theorem dX8_takeBack_17 : decode cX8_takeBack 17 = .ok (.iload_n 1, 1) := by decide +kernel
theorem dX8_takeBack_18 : decode cX8_takeBack 18 = .ok (.baload, 1) := by decide +kernel
theorem dX8_takeBack_19 : decode cX8_takeBack 19 = .ok (.ifCond .ne 7, 3) := by decide +kernel
theorem dX8_takeBack_22 : decode cX8_takeBack 22 = .ok (.iconst 2, 1) := by decide +kernel
theorem dX8_takeBack_23 : decode cX8_takeBack 23 = .ok (.goto 4, 3) := by decide +kernel
theorem dX8_takeBack_26 : decode cX8_takeBack 26 = .ok (.iconst 0, 1) := by decide +kernel
theorem dX8_takeBack_27 : decode cX8_takeBack 27 = .ok (.putfield 118, 3) := by decide +kernel
theorem dX8_takeBack_30 : decode cX8_takeBack 30 = .ok (.aload_n 0, 1) := by decide +kernel
theorem dX8_takeBack_31 : decode cX8_takeBack 31 = .ok (.getfield 118, 3) := by decide +kernel
theorem dX8_takeBack_34 : decode cX8_takeBack 34 = .ok (.ifCond .le 5, 3) := by decide +kernel
theorem dX8_takeBack_37 : decode cX8_takeBack 37 = .ok (.iconst 0, 1) := by decide +kernel
theorem dX8_takeBack_38 : decode cX8_takeBack 38 = .ok (.ireturn, 1) := by decide +kernel
theorem dX8_takeBack_39 : decode cX8_takeBack 39 = .ok (.iconst 0, 1) := by decide +kernel
theorem dX8_takeBack_40 : decode cX8_takeBack 40 = .ok (.istore_n 2, 1) := by decide +kernel
theorem dX8_takeBack_41 : decode cX8_takeBack 41 = .ok (.iconst 0, 1) := by decide +kernel
theorem dX8_takeBack_42 : decode cX8_takeBack 42 = .ok (.istore_n 3, 1) := by decide +kernel
theorem dX8_takeBack_43 : decode cX8_takeBack 43 = .ok (.iload_n 3, 1) := by decide +kernel
theorem dX8_takeBack_44 : decode cX8_takeBack 44 = .ok (.bipush 24, 2) := by decide +kernel
theorem dX8_takeBack_46 : decode cX8_takeBack 46 = .ok (.if_icmp .ge 120, 3) := by decide +kernel
theorem dX8_takeBack_49 : decode cX8_takeBack 49 = .ok (.aload_n 0, 1) := by decide +kernel
theorem dX8_takeBack_50 : decode cX8_takeBack 50 = .ok (.getfield 47, 3) := by decide +kernel
theorem dX8_takeBack_53 : decode cX8_takeBack 53 = .ok (.iload_n 3, 1) := by decide +kernel
theorem dX8_takeBack_54 : decode cX8_takeBack 54 = .ok (.iaload, 1) := by decide +kernel
theorem dX8_takeBack_55 : decode cX8_takeBack 55 = .ok (.iload_n 1, 1) := by decide +kernel
theorem dX8_takeBack_56 : decode cX8_takeBack 56 = .ok (.if_icmp .ne 104, 3) := by decide +kernel
theorem dX8_takeBack_59 : decode cX8_takeBack 59 = .ok (.iload_n 2, 1) := by decide +kernel
theorem dX8_takeBack_60 : decode cX8_takeBack 60 = .ok (.aload_n 0, 1) := by decide +kernel
theorem dX8_takeBack_61 : decode cX8_takeBack 61 = .ok (.getfield 50, 3) := by decide +kernel
theorem dX8_takeBack_64 : decode cX8_takeBack 64 = .ok (.iload_n 3, 1) := by decide +kernel
theorem dX8_takeBack_65 : decode cX8_takeBack 65 = .ok (.iaload, 1) := by decide +kernel
theorem dX8_takeBack_66 : decode cX8_takeBack 66 = .ok (.aload_n 0, 1) := by decide +kernel
theorem dX8_takeBack_67 : decode cX8_takeBack 67 = .ok (.getfield 7, 3) := by decide +kernel
theorem dX8_takeBack_70 : decode cX8_takeBack 70 = .ok (.iload_n 1, 1) := by decide +kernel
theorem dX8_takeBack_71 : decode cX8_takeBack 71 = .ok (.iaload, 1) := by decide +kernel
theorem dX8_takeBack_72 : decode cX8_takeBack 72 = .ok (.if_icmp .ne 7, 3) := by decide +kernel
theorem dX8_takeBack_75 : decode cX8_takeBack 75 = .ok (.iconst 1, 1) := by decide +kernel
theorem dX8_takeBack_76 : decode cX8_takeBack 76 = .ok (.goto 4, 3) := by decide +kernel
theorem dX8_takeBack_79 : decode cX8_takeBack 79 = .ok (.iconst 0, 1) := by decide +kernel
theorem dX8_takeBack_80 : decode cX8_takeBack 80 = .ok (.iadd, 1) := by decide +kernel
theorem dX8_takeBack_81 : decode cX8_takeBack 81 = .ok (.istore_n 2, 1) := by decide +kernel
theorem dX8_takeBack_82 : decode cX8_takeBack 82 = .ok (.aload_n 0, 1) := by decide +kernel
theorem dX8_takeBack_83 : decode cX8_takeBack 83 = .ok (.getfield 50, 3) := by decide +kernel
theorem dX8_takeBack_86 : decode cX8_takeBack 86 = .ok (.iload_n 3, 1) := by decide +kernel
theorem dX8_takeBack_87 : decode cX8_takeBack 87 = .ok (.aload_n 0, 1) := by decide +kernel
theorem dX8_takeBack_88 : decode cX8_takeBack 88 = .ok (.getfield 50, 3) := by decide +kernel
theorem dX8_takeBack_91 : decode cX8_takeBack 91 = .ok (.iload_n 3, 1) := by decide +kernel
theorem dX8_takeBack_92 : decode cX8_takeBack 92 = .ok (.iaload, 1) := by decide +kernel
theorem dX8_takeBack_93 : decode cX8_takeBack 93 = .ok (.aload_n 0, 1) := by decide +kernel
theorem dX8_takeBack_94 : decode cX8_takeBack 94 = .ok (.getfield 7, 3) := by decide +kernel
