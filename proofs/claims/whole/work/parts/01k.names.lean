theorem dX8_takeBack_97 : decode cX8_takeBack 97 = .ok (.iload_n 1, 1) := by decide +kernel
theorem dX8_takeBack_98 : decode cX8_takeBack 98 = .ok (.iaload, 1) := by decide +kernel
theorem dX8_takeBack_99 : decode cX8_takeBack 99 = .ok (.if_icmp .ne 14, 3) := by decide +kernel
theorem dX8_takeBack_102 : decode cX8_takeBack 102 = .ok (.aload_n 0, 1) := by decide +kernel
theorem dX8_takeBack_103 : decode cX8_takeBack 103 = .ok (.getfield 50, 3) := by decide +kernel
theorem dX8_takeBack_106 : decode cX8_takeBack 106 = .ok (.iload_n 3, 1) := by decide +kernel
theorem dX8_takeBack_107 : decode cX8_takeBack 107 = .ok (.iaload, 1) := by decide +kernel
theorem dX8_takeBack_108 : decode cX8_takeBack 108 = .ok (.iconst 1, 1) := by decide +kernel
theorem dX8_takeBack_109 : decode cX8_takeBack 109 = .ok (.isub, 1) := by decide +kernel
theorem dX8_takeBack_110 : decode cX8_takeBack 110 = .ok (.goto 9, 3) := by decide +kernel
theorem dX8_takeBack_113 : decode cX8_takeBack 113 = .ok (.aload_n 0, 1) := by decide +kernel
theorem dX8_takeBack_114 : decode cX8_takeBack 114 = .ok (.getfield 50, 3) := by decide +kernel
theorem dX8_takeBack_117 : decode cX8_takeBack 117 = .ok (.iload_n 3, 1) := by decide +kernel
theorem dX8_takeBack_118 : decode cX8_takeBack 118 = .ok (.iaload, 1) := by decide +kernel
theorem dX8_takeBack_119 : decode cX8_takeBack 119 = .ok (.iastore, 1) := by decide +kernel
theorem dX8_takeBack_120 : decode cX8_takeBack 120 = .ok (.iconst 0, 1) := by decide +kernel
theorem dX8_takeBack_121 : decode cX8_takeBack 121 = .ok (.istore 4, 2) := by decide +kernel
theorem dX8_takeBack_123 : decode cX8_takeBack 123 = .ok (.iload 4, 2) := by decide +kernel
theorem dX8_takeBack_125 : decode cX8_takeBack 125 = .ok (.bipush 6, 2) := by decide +kernel
theorem dX8_takeBack_127 : decode cX8_takeBack 127 = .ok (.if_icmp .ge 33, 3) := by decide +kernel
theorem dX8_takeBack_130 : decode cX8_takeBack 130 = .ok (.aload_n 0, 1) := by decide +kernel
theorem dX8_takeBack_131 : decode cX8_takeBack 131 = .ok (.getfield 53, 3) := by decide +kernel
theorem dX8_takeBack_134 : decode cX8_takeBack 134 = .ok (.bipush 6, 2) := by decide +kernel
theorem dX8_takeBack_136 : decode cX8_takeBack 136 = .ok (.iload_n 3, 1) := by decide +kernel
theorem dX8_takeBack_137 : decode cX8_takeBack 137 = .ok (.imul, 1) := by decide +kernel
theorem dX8_takeBack_138 : decode cX8_takeBack 138 = .ok (.iload 4, 2) := by decide +kernel
theorem dX8_takeBack_140 : decode cX8_takeBack 140 = .ok (.iadd, 1) := by decide +kernel
theorem dX8_takeBack_141 : decode cX8_takeBack 141 = .ok (.aload_n 0, 1) := by decide +kernel
theorem dX8_takeBack_142 : decode cX8_takeBack 142 = .ok (.getfield 56, 3) := by decide +kernel
theorem dX8_takeBack_145 : decode cX8_takeBack 145 = .ok (.bipush 6, 2) := by decide +kernel
theorem dX8_takeBack_147 : decode cX8_takeBack 147 = .ok (.iload_n 3, 1) := by decide +kernel
theorem dX8_takeBack_148 : decode cX8_takeBack 148 = .ok (.imul, 1) := by decide +kernel
theorem dX8_takeBack_149 : decode cX8_takeBack 149 = .ok (.iload 4, 2) := by decide +kernel
theorem dX8_takeBack_151 : decode cX8_takeBack 151 = .ok (.iadd, 1) := by decide +kernel
theorem dX8_takeBack_152 : decode cX8_takeBack 152 = .ok (.iaload, 1) := by decide +kernel
theorem dX8_takeBack_153 : decode cX8_takeBack 153 = .ok (.iastore, 1) := by decide +kernel
theorem dX8_takeBack_154 : decode cX8_takeBack 154 = .ok (.iinc 4 1, 3) := by decide +kernel
theorem dX8_takeBack_157 : decode cX8_takeBack 157 = .ok (.goto (-34), 3) := by decide +kernel
theorem dX8_takeBack_160 : decode cX8_takeBack 160 = .ok (.iinc 3 1, 3) := by decide +kernel
theorem dX8_takeBack_163 : decode cX8_takeBack 163 = .ok (.goto (-120), 3) := by decide +kernel
theorem dX8_takeBack_166 : decode cX8_takeBack 166 = .ok (.iconst 0, 1) := by decide +kernel
theorem dX8_takeBack_167 : decode cX8_takeBack 167 = .ok (.istore_n 3, 1) := by decide +kernel
theorem dX8_takeBack_168 : decode cX8_takeBack 168 = .ok (.iload_n 3, 1) := by decide +kernel
theorem dX8_takeBack_169 : decode cX8_takeBack 169 = .ok (.bipush 6, 2) := by decide +kernel
theorem dX8_takeBack_171 : decode cX8_takeBack 171 = .ok (.if_icmp .ge 97, 3) := by decide +kernel
theorem dX8_takeBack_174 : decode cX8_takeBack 174 = .ok (.aload_n 0, 1) := by decide +kernel
theorem dX8_takeBack_175 : decode cX8_takeBack 175 = .ok (.getfield 20, 3) := by decide +kernel
theorem dX8_takeBack_178 : decode cX8_takeBack 178 = .ok (.bipush 6, 2) := by decide +kernel
theorem dX8_takeBack_180 : decode cX8_takeBack 180 = .ok (.iload_n 1, 1) := by decide +kernel
theorem dX8_takeBack_181 : decode cX8_takeBack 181 = .ok (.imul, 1) := by decide +kernel
theorem dX8_takeBack_182 : decode cX8_takeBack 182 = .ok (.iload_n 3, 1) := by decide +kernel
theorem dX8_takeBack_183 : decode cX8_takeBack 183 = .ok (.iadd, 1) := by decide +kernel
theorem dX8_takeBack_184 : decode cX8_takeBack 184 = .ok (.aload_n 0, 1) := by decide +kernel
theorem dX8_takeBack_185 : decode cX8_takeBack 185 = .ok (.getfield 35, 3) := by decide +kernel
theorem dX8_takeBack_188 : decode cX8_takeBack 188 = .ok (.bipush 6, 2) := by decide +kernel
theorem dX8_takeBack_190 : decode cX8_takeBack 190 = .ok (.iload_n 1, 1) := by decide +kernel
theorem dX8_takeBack_191 : decode cX8_takeBack 191 = .ok (.imul, 1) := by decide +kernel
theorem dX8_takeBack_192 : decode cX8_takeBack 192 = .ok (.iload_n 3, 1) := by decide +kernel
theorem dX8_takeBack_193 : decode cX8_takeBack 193 = .ok (.iadd, 1) := by decide +kernel
theorem dX8_takeBack_194 : decode cX8_takeBack 194 = .ok (.iaload, 1) := by decide +kernel
theorem dX8_takeBack_195 : decode cX8_takeBack 195 = .ok (.iastore, 1) := by decide +kernel
theorem dX8_takeBack_196 : decode cX8_takeBack 196 = .ok (.aload_n 0, 1) := by decide +kernel
theorem dX8_takeBack_197 : decode cX8_takeBack 197 = .ok (.getfield 23, 3) := by decide +kernel
theorem dX8_takeBack_200 : decode cX8_takeBack 200 = .ok (.bipush 6, 2) := by decide +kernel
theorem dX8_takeBack_202 : decode cX8_takeBack 202 = .ok (.iload_n 1, 1) := by decide +kernel
theorem dX8_takeBack_203 : decode cX8_takeBack 203 = .ok (.imul, 1) := by decide +kernel
theorem dX8_takeBack_204 : decode cX8_takeBack 204 = .ok (.iload_n 3, 1) := by decide +kernel
theorem dX8_takeBack_205 : decode cX8_takeBack 205 = .ok (.iadd, 1) := by decide +kernel
theorem dX8_takeBack_206 : decode cX8_takeBack 206 = .ok (.aload_n 0, 1) := by decide +kernel
theorem dX8_takeBack_207 : decode cX8_takeBack 207 = .ok (.getfield 38, 3) := by decide +kernel
theorem dX8_takeBack_210 : decode cX8_takeBack 210 = .ok (.bipush 6, 2) := by decide +kernel
theorem dX8_takeBack_212 : decode cX8_takeBack 212 = .ok (.iload_n 1, 1) := by decide +kernel
theorem dX8_takeBack_213 : decode cX8_takeBack 213 = .ok (.imul, 1) := by decide +kernel
theorem dX8_takeBack_214 : decode cX8_takeBack 214 = .ok (.iload_n 3, 1) := by decide +kernel
theorem dX8_takeBack_215 : decode cX8_takeBack 215 = .ok (.iadd, 1) := by decide +kernel
theorem dX8_takeBack_216 : decode cX8_takeBack 216 = .ok (.iaload, 1) := by decide +kernel
theorem dX8_takeBack_217 : decode cX8_takeBack 217 = .ok (.iastore, 1) := by decide +kernel
theorem dX8_takeBack_218 : decode cX8_takeBack 218 = .ok (.aload_n 0, 1) := by decide +kernel
theorem dX8_takeBack_219 : decode cX8_takeBack 219 = .ok (.getfield 26, 3) := by decide +kernel
theorem dX8_takeBack_222 : decode cX8_takeBack 222 = .ok (.bipush 6, 2) := by decide +kernel
theorem dX8_takeBack_224 : decode cX8_takeBack 224 = .ok (.iload_n 1, 1) := by decide +kernel
theorem dX8_takeBack_225 : decode cX8_takeBack 225 = .ok (.imul, 1) := by decide +kernel
theorem dX8_takeBack_226 : decode cX8_takeBack 226 = .ok (.iload_n 3, 1) := by decide +kernel
theorem dX8_takeBack_227 : decode cX8_takeBack 227 = .ok (.iadd, 1) := by decide +kernel
theorem dX8_takeBack_228 : decode cX8_takeBack 228 = .ok (.aload_n 0, 1) := by decide +kernel
theorem dX8_takeBack_229 : decode cX8_takeBack 229 = .ok (.getfield 41, 3) := by decide +kernel
theorem dX8_takeBack_232 : decode cX8_takeBack 232 = .ok (.bipush 6, 2) := by decide +kernel
theorem dX8_takeBack_234 : decode cX8_takeBack 234 = .ok (.iload_n 1, 1) := by decide +kernel
theorem dX8_takeBack_235 : decode cX8_takeBack 235 = .ok (.imul, 1) := by decide +kernel
theorem dX8_takeBack_236 : decode cX8_takeBack 236 = .ok (.iload_n 3, 1) := by decide +kernel
theorem dX8_takeBack_237 : decode cX8_takeBack 237 = .ok (.iadd, 1) := by decide +kernel
theorem dX8_takeBack_238 : decode cX8_takeBack 238 = .ok (.iaload, 1) := by decide +kernel
theorem dX8_takeBack_239 : decode cX8_takeBack 239 = .ok (.iastore, 1) := by decide +kernel
theorem dX8_takeBack_240 : decode cX8_takeBack 240 = .ok (.aload_n 0, 1) := by decide +kernel
theorem dX8_takeBack_241 : decode cX8_takeBack 241 = .ok (.getfield 29, 3) := by decide +kernel
theorem dX8_takeBack_244 : decode cX8_takeBack 244 = .ok (.bipush 6, 2) := by decide +kernel
theorem dX8_takeBack_246 : decode cX8_takeBack 246 = .ok (.iload_n 1, 1) := by decide +kernel
theorem dX8_takeBack_247 : decode cX8_takeBack 247 = .ok (.imul, 1) := by decide +kernel
theorem dX8_takeBack_248 : decode cX8_takeBack 248 = .ok (.iload_n 3, 1) := by decide +kernel
theorem dX8_takeBack_249 : decode cX8_takeBack 249 = .ok (.iadd, 1) := by decide +kernel
theorem dX8_takeBack_250 : decode cX8_takeBack 250 = .ok (.aload_n 0, 1) := by decide +kernel
theorem dX8_takeBack_251 : decode cX8_takeBack 251 = .ok (.getfield 44, 3) := by decide +kernel
theorem dX8_takeBack_254 : decode cX8_takeBack 254 = .ok (.bipush 6, 2) := by decide +kernel
theorem dX8_takeBack_256 : decode cX8_takeBack 256 = .ok (.iload_n 1, 1) := by decide +kernel
theorem dX8_takeBack_257 : decode cX8_takeBack 257 = .ok (.imul, 1) := by decide +kernel
theorem dX8_takeBack_258 : decode cX8_takeBack 258 = .ok (.iload_n 3, 1) := by decide +kernel
theorem dX8_takeBack_259 : decode cX8_takeBack 259 = .ok (.iadd, 1) := by decide +kernel
theorem dX8_takeBack_260 : decode cX8_takeBack 260 = .ok (.iaload, 1) := by decide +kernel
theorem dX8_takeBack_261 : decode cX8_takeBack 261 = .ok (.iastore, 1) := by decide +kernel
theorem dX8_takeBack_262 : decode cX8_takeBack 262 = .ok (.iinc 3 1, 3) := by decide +kernel
theorem dX8_takeBack_265 : decode cX8_takeBack 265 = .ok (.goto (-97), 3) := by decide +kernel
theorem dX8_takeBack_268 : decode cX8_takeBack 268 = .ok (.aload_n 0, 1) := by decide +kernel
theorem dX8_takeBack_269 : decode cX8_takeBack 269 = .ok (.getfield 17, 3) := by decide +kernel
theorem dX8_takeBack_272 : decode cX8_takeBack 272 = .ok (.iload_n 1, 1) := by decide +kernel
theorem dX8_takeBack_273 : decode cX8_takeBack 273 = .ok (.aload_n 0, 1) := by decide +kernel
theorem dX8_takeBack_274 : decode cX8_takeBack 274 = .ok (.getfield 32, 3) := by decide +kernel
theorem dX8_takeBack_277 : decode cX8_takeBack 277 = .ok (.iload_n 1, 1) := by decide +kernel
theorem dX8_takeBack_278 : decode cX8_takeBack 278 = .ok (.iaload, 1) := by decide +kernel
theorem dX8_takeBack_279 : decode cX8_takeBack 279 = .ok (.iastore, 1) := by decide +kernel
theorem dX8_takeBack_280 : decode cX8_takeBack 280 = .ok (.aload_n 0, 1) := by decide +kernel
theorem dX8_takeBack_281 : decode cX8_takeBack 281 = .ok (.getfield 7, 3) := by decide +kernel
theorem dX8_takeBack_284 : decode cX8_takeBack 284 = .ok (.iload_n 1, 1) := by decide +kernel
theorem dX8_takeBack_285 : decode cX8_takeBack 285 = .ok (.dup2, 1) := by decide +kernel
theorem dX8_takeBack_286 : decode cX8_takeBack 286 = .ok (.iaload, 1) := by decide +kernel
theorem dX8_takeBack_287 : decode cX8_takeBack 287 = .ok (.iconst 1, 1) := by decide +kernel
theorem dX8_takeBack_288 : decode cX8_takeBack 288 = .ok (.isub, 1) := by decide +kernel
theorem dX8_takeBack_289 : decode cX8_takeBack 289 = .ok (.iastore, 1) := by decide +kernel
theorem dX8_takeBack_290 : decode cX8_takeBack 290 = .ok (.aload_n 0, 1) := by decide +kernel
theorem dX8_takeBack_291 : decode cX8_takeBack 291 = .ok (.getfield 13, 3) := by decide +kernel
theorem dX8_takeBack_294 : decode cX8_takeBack 294 = .ok (.iload_n 1, 1) := by decide +kernel
theorem dX8_takeBack_295 : decode cX8_takeBack 295 = .ok (.iconst 0, 1) := by decide +kernel
theorem dX8_takeBack_296 : decode cX8_takeBack 296 = .ok (.bastore, 1) := by decide +kernel
theorem dX8_takeBack_297 : decode cX8_takeBack 297 = .ok (.iload_n 2, 1) := by decide +kernel
theorem dX8_takeBack_298 : decode cX8_takeBack 298 = .ok (.ireturn, 1) := by decide +kernel
set_option maxRecDepth 20000 in
theorem ggX8_holdsNothing_X8_isRoot : GoodIn wsX8_holdsNothing wsX8_isRoot := goodIn_r _ [6] rfl (by decide +kernel)
set_option maxRecDepth 20000 in
theorem gX8_holdsNothing_X8_isRoot : GoodIn wsX8_holdsNothing (va_wsS RX8 132 yX8_isRoot wsX8_isRoot) := goodIn_app (goodIn_of _ (by decide +kernel)) ggX8_holdsNothing_X8_isRoot
theorem dX8_holdsNothing_0 : decode cX8_holdsNothing 0 = .ok (.aload_n 0, 1) := by decide +kernel
theorem dX8_holdsNothing_1 : decode cX8_holdsNothing 1 = .ok (.iload_n 1, 1) := by decide +kernel
theorem dX8_holdsNothing_2 : decode cX8_holdsNothing 2 = .ok (.invokestatic 132, 3) := by decide +kernel
theorem dX8_holdsNothing_5 : decode cX8_holdsNothing 5 = .ok (.ifCond .ne 7, 3) := by decide +kernel
theorem dX8_holdsNothing_8 : decode cX8_holdsNothing 8 = .ok (.iconst 1, 1) := by decide +kernel
theorem dX8_holdsNothing_9 : decode cX8_holdsNothing 9 = .ok (.goto 17, 3) := by decide +kernel
theorem dX8_holdsNothing_12 : decode cX8_holdsNothing 12 = .ok (.aload_n 0, 1) := by decide +kernel
theorem dX8_holdsNothing_13 : decode cX8_holdsNothing 13 = .ok (.getfield 62, 3) := by decide +kernel
theorem dX8_holdsNothing_16 : decode cX8_holdsNothing 16 = .ok (.iload_n 1, 1) := by decide +kernel
theorem dX8_holdsNothing_17 : decode cX8_holdsNothing 17 = .ok (.iaload, 1) := by decide +kernel
theorem dX8_holdsNothing_18 : decode cX8_holdsNothing 18 = .ok (.ifCond .ge 7, 3) := by decide +kernel
theorem dX8_holdsNothing_21 : decode cX8_holdsNothing 21 = .ok (.iconst 2, 1) := by decide +kernel
theorem dX8_holdsNothing_22 : decode cX8_holdsNothing 22 = .ok (.goto 4, 3) := by decide +kernel
theorem dX8_holdsNothing_25 : decode cX8_holdsNothing 25 = .ok (.iconst 0, 1) := by decide +kernel
theorem dX8_holdsNothing_26 : decode cX8_holdsNothing 26 = .ok (.putfield 118, 3) := by decide +kernel
theorem dX8_holdsNothing_29 : decode cX8_holdsNothing 29 = .ok (.aload_n 0, 1) := by decide +kernel
theorem dX8_holdsNothing_30 : decode cX8_holdsNothing 30 = .ok (.getfield 118, 3) := by decide +kernel
theorem dX8_holdsNothing_33 : decode cX8_holdsNothing 33 = .ok (.ifCond .le 7, 3) := by decide +kernel
theorem dX8_holdsNothing_36 : decode cX8_holdsNothing 36 = .ok (.iconst 1, 1) := by decide +kernel
theorem dX8_holdsNothing_37 : decode cX8_holdsNothing 37 = .ok (.goto 4, 3) := by decide +kernel
theorem dX8_holdsNothing_40 : decode cX8_holdsNothing 40 = .ok (.iconst 0, 1) := by decide +kernel
theorem dX8_holdsNothing_41 : decode cX8_holdsNothing 41 = .ok (.ireturn, 1) := by decide +kernel
set_option maxRecDepth 20000 in
theorem ggX8_versionOf_X8_holdsNothing : GoodIn wsX8_versionOf wsX8_holdsNothing := goodIn_r _ [7, 2, 8, 9, 10, 6, 11, 12, 13, 14, 15, 16, 17, 18, 19, 20, 21, 22, 23, 24, 25, 26, 27, 28, 29, 30, 31, 32, 33, 34, 35, 36, 37, 38, 39, 40, 41, 42, 43, 44, 45, 46, 47, 48, 49, 50, 51, 52, 53, 54, 55] rfl (by decide +kernel)
set_option maxRecDepth 20000 in
theorem gX8_versionOf_X8_holdsNothing : GoodIn wsX8_versionOf (wsV RX8 278 RX8 yX8_holdsNothing wsX8_holdsNothing) := goodIn_app (goodIn_of _ (by decide +kernel)) ggX8_versionOf_X8_holdsNothing
theorem dX8_versionOf_0 : decode cX8_versionOf 0 = .ok (.aload_n 0, 1) := by decide +kernel
theorem dX8_versionOf_1 : decode cX8_versionOf 1 = .ok (.iload_n 1, 1) := by decide +kernel
theorem dX8_versionOf_2 : decode cX8_versionOf 2 = .ok (.invokevirtual 278, 3) := by decide +kernel
theorem dX8_versionOf_5 : decode cX8_versionOf 5 = .ok (.ifCond .eq 7, 3) := by decide +kernel
theorem dX8_versionOf_8 : decode cX8_versionOf 8 = .ok (.iconst 0, 1) := by decide +kernel
theorem dX8_versionOf_9 : decode cX8_versionOf 9 = .ok (.goto 14, 3) := by decide +kernel
theorem dX8_versionOf_12 : decode cX8_versionOf 12 = .ok (.aload_n 0, 1) := by decide +kernel
theorem dX8_versionOf_13 : decode cX8_versionOf 13 = .ok (.getfield 50, 3) := by decide +kernel
theorem dX8_versionOf_16 : decode cX8_versionOf 16 = .ok (.aload_n 0, 1) := by decide +kernel
theorem dX8_versionOf_17 : decode cX8_versionOf 17 = .ok (.getfield 62, 3) := by decide +kernel
theorem dX8_versionOf_20 : decode cX8_versionOf 20 = .ok (.iload_n 1, 1) := by decide +kernel
theorem dX8_versionOf_21 : decode cX8_versionOf 21 = .ok (.iaload, 1) := by decide +kernel
theorem dX8_versionOf_22 : decode cX8_versionOf 22 = .ok (.iaload, 1) := by decide +kernel
theorem dX8_versionOf_23 : decode cX8_versionOf 23 = .ok (.ireturn, 1) := by decide +kernel
set_option maxRecDepth 20000 in
theorem ggX8_touch_X8_holdsNothing : GoodIn wsX8_touch wsX8_holdsNothing := goodIn_r _ [7, 2, 8, 9, 10, 6, 11, 18, 19, 20, 21, 22, 23, 24, 25, 26, 27, 28, 29, 30, 31, 32, 33, 34, 35, 36, 37, 38, 39, 40, 41, 42, 43, 44, 45, 46, 47, 48, 49, 50, 51, 52, 53, 54, 55, 56, 57, 58, 59, 60, 61] rfl (by decide +kernel)
set_option maxRecDepth 20000 in
theorem gX8_touch_X8_holdsNothing : GoodIn wsX8_touch (wsV RX8 278 RX8 yX8_holdsNothing wsX8_holdsNothing) := goodIn_app (goodIn_of _ (by decide +kernel)) ggX8_touch_X8_holdsNothing
set_option maxRecDepth 20000 in
theorem ggX8_touch_X8_touchRecord : GoodIn wsX8_touch wsX8_touchRecord := goodIn_r _ [15, 1, 16, 17, 18, 19, 20, 21, 22, 23, 24, 25, 26, 27, 28, 29, 30, 31, 32, 33, 34, 35, 36, 37, 38, 39, 40, 41, 42, 43, 44, 45, 46, 47, 48, 49, 50, 51, 52, 53, 54, 55, 56, 57, 58, 59, 60, 61] rfl (by decide +kernel)
set_option maxRecDepth 20000 in
theorem gX8_touch_X8_touchRecord : GoodIn wsX8_touch (wsV RX8 156 RX8 yX8_touchRecord wsX8_touchRecord) := goodIn_app (goodIn_of _ (by decide +kernel)) ggX8_touch_X8_touchRecord
theorem dX8_touch_0 : decode cX8_touch 0 = .ok (.aload_n 0, 1) := by decide +kernel
theorem dX8_touch_1 : decode cX8_touch 1 = .ok (.iload_n 1, 1) := by decide +kernel
theorem dX8_touch_2 : decode cX8_touch 2 = .ok (.invokevirtual 278, 3) := by decide +kernel
theorem dX8_touch_5 : decode cX8_touch 5 = .ok (.ifCond .eq 5, 3) := by decide +kernel
theorem dX8_touch_8 : decode cX8_touch 8 = .ok (.iconst 0, 1) := by decide +kernel
theorem dX8_touch_9 : decode cX8_touch 9 = .ok (.ireturn, 1) := by decide +kernel
theorem dX8_touch_10 : decode cX8_touch 10 = .ok (.aload_n 0, 1) := by decide +kernel
theorem dX8_touch_11 : decode cX8_touch 11 = .ok (.getfield 50, 3) := by decide +kernel
theorem dX8_touch_14 : decode cX8_touch 14 = .ok (.aload_n 0, 1) := by decide +kernel
theorem dX8_touch_15 : decode cX8_touch 15 = .ok (.getfield 62, 3) := by decide +kernel
theorem dX8_touch_18 : decode cX8_touch 18 = .ok (.iload_n 1, 1) := by decide +kernel
theorem dX8_touch_19 : decode cX8_touch 19 = .ok (.iaload, 1) := by decide +kernel
theorem dX8_touch_20 : decode cX8_touch 20 = .ok (.iaload, 1) := by decide +kernel
theorem dX8_touch_21 : decode cX8_touch 21 = .ok (.istore_n 2, 1) := by decide +kernel
theorem dX8_touch_22 : decode cX8_touch 22 = .ok (.aload_n 0, 1) := by decide +kernel
theorem dX8_touch_23 : decode cX8_touch 23 = .ok (.aload_n 0, 1) := by decide +kernel
theorem dX8_touch_24 : decode cX8_touch 24 = .ok (.getfield 62, 3) := by decide +kernel
theorem dX8_touch_27 : decode cX8_touch 27 = .ok (.iload_n 1, 1) := by decide +kernel
theorem dX8_touch_28 : decode cX8_touch 28 = .ok (.iaload, 1) := by decide +kernel
theorem dX8_touch_29 : decode cX8_touch 29 = .ok (.invokevirtual 156, 3) := by decide +kernel
theorem dX8_touch_32 : decode cX8_touch 32 = .ok (.aload_n 0, 1) := by decide +kernel
theorem dX8_touch_33 : decode cX8_touch 33 = .ok (.getfield 50, 3) := by decide +kernel
theorem dX8_touch_36 : decode cX8_touch 36 = .ok (.aload_n 0, 1) := by decide +kernel
theorem dX8_touch_37 : decode cX8_touch 37 = .ok (.getfield 62, 3) := by decide +kernel
theorem dX8_touch_40 : decode cX8_touch 40 = .ok (.iload_n 1, 1) := by decide +kernel
theorem dX8_touch_41 : decode cX8_touch 41 = .ok (.iaload, 1) := by decide +kernel
theorem dX8_touch_42 : decode cX8_touch 42 = .ok (.iaload, 1) := by decide +kernel
theorem dX8_touch_43 : decode cX8_touch 43 = .ok (.iload_n 2, 1) := by decide +kernel
theorem dX8_touch_44 : decode cX8_touch 44 = .ok (.isub, 1) := by decide +kernel
theorem dX8_touch_45 : decode cX8_touch 45 = .ok (.ireturn, 1) := by decide +kernel
theorem dX8_behind_0 : decode cX8_behind 0 = .ok (.iconst 0, 1) := by decide +kernel
theorem dX8_behind_1 : decode cX8_behind 1 = .ok (.istore_n 2, 1) := by decide +kernel
theorem dX8_behind_2 : decode cX8_behind 2 = .ok (.iconst 0, 1) := by decide +kernel
theorem dX8_behind_3 : decode cX8_behind 3 = .ok (.istore_n 3, 1) := by decide +kernel
theorem dX8_behind_4 : decode cX8_behind 4 = .ok (.iload_n 3, 1) := by decide +kernel
theorem dX8_behind_5 : decode cX8_behind 5 = .ok (.bipush 24, 2) := by decide +kernel
theorem dX8_behind_7 : decode cX8_behind 7 = .ok (.if_icmp .ge 42, 3) := by decide +kernel
theorem dX8_behind_10 : decode cX8_behind 10 = .ok (.iload_n 2, 1) := by decide +kernel
theorem dX8_behind_11 : decode cX8_behind 11 = .ok (.aload_n 0, 1) := by decide +kernel
theorem dX8_behind_12 : decode cX8_behind 12 = .ok (.getfield 47, 3) := by decide +kernel
theorem dX8_behind_15 : decode cX8_behind 15 = .ok (.iload_n 3, 1) := by decide +kernel
theorem dX8_behind_16 : decode cX8_behind 16 = .ok (.iaload, 1) := by decide +kernel
theorem dX8_behind_17 : decode cX8_behind 17 = .ok (.iload_n 1, 1) := by decide +kernel
theorem dX8_behind_18 : decode cX8_behind 18 = .ok (.if_icmp .ne 22, 3) := by decide +kernel
theorem dX8_behind_21 : decode cX8_behind 21 = .ok (.aload_n 0, 1) := by decide +kernel
theorem dX8_behind_22 : decode cX8_behind 22 = .ok (.getfield 50, 3) := by decide +kernel
theorem dX8_behind_25 : decode cX8_behind 25 = .ok (.iload_n 3, 1) := by decide +kernel
theorem dX8_behind_26 : decode cX8_behind 26 = .ok (.iaload, 1) := by decide +kernel
theorem dX8_behind_27 : decode cX8_behind 27 = .ok (.aload_n 0, 1) := by decide +kernel
theorem dX8_behind_28 : decode cX8_behind 28 = .ok (.getfield 7, 3) := by decide +kernel
theorem dX8_behind_31 : decode cX8_behind 31 = .ok (.iload_n 1, 1) := by decide +kernel
theorem dX8_behind_32 : decode cX8_behind 32 = .ok (.iaload, 1) := by decide +kernel
theorem dX8_behind_33 : decode cX8_behind 33 = .ok (.if_icmp .eq 7, 3) := by decide +kernel
theorem dX8_behind_36 : decode cX8_behind 36 = .ok (.iconst 1, 1) := by decide +kernel
theorem dX8_behind_37 : decode cX8_behind 37 = .ok (.goto 4, 3) := by decide +kernel
theorem dX8_behind_40 : decode cX8_behind 40 = .ok (.iconst 0, 1) := by decide +kernel
theorem dX8_behind_41 : decode cX8_behind 41 = .ok (.iadd, 1) := by decide +kernel
theorem dX8_behind_42 : decode cX8_behind 42 = .ok (.istore_n 2, 1) := by decide +kernel
theorem dX8_behind_43 : decode cX8_behind 43 = .ok (.iinc 3 1, 3) := by decide +kernel
theorem dX8_behind_46 : decode cX8_behind 46 = .ok (.goto (-42), 3) := by decide +kernel
theorem dX8_behind_49 : decode cX8_behind 49 = .ok (.iload_n 2, 1) := by decide +kernel
theorem dX8_behind_50 : decode cX8_behind 50 = .ok (.ireturn, 1) := by decide +kernel
set_option maxRecDepth 20000 in
theorem ggX8_sweep_X8_isClass : GoodIn wsX8_sweep wsX8_isClass := goodIn_r _ [9, 10, 15, 16, 17, 18, 19, 20, 21, 22, 23, 24, 25, 26, 27, 28, 29, 30, 31, 32, 33, 34, 35, 36, 37, 38, 39, 40, 41, 42, 43, 44, 45, 46, 47, 48, 49, 50, 51, 52, 53, 54, 55, 56, 57, 58] rfl (by decide +kernel)
set_option maxRecDepth 20000 in
theorem gX8_sweep_X8_isClass : GoodIn wsX8_sweep (wsV RX8 128 RX8 yX8_isClass wsX8_isClass) := goodIn_app (goodIn_of _ (by decide +kernel)) ggX8_sweep_X8_isClass
set_option maxRecDepth 20000 in
theorem ggX8_sweep_X8_behind : GoodIn wsX8_sweep wsX8_behind := goodIn_r _ [14, 3, 2, 4, 15, 16, 17, 18, 19, 20, 21, 22, 23, 24, 25, 26, 27, 28, 29, 30, 31, 32, 33, 34, 35, 36, 37, 38, 39, 40, 41, 42, 43, 44, 45, 46, 47, 48, 49, 50, 51, 52, 53, 54, 55, 56, 57, 58] rfl (by decide +kernel)
set_option maxRecDepth 20000 in
theorem gX8_sweep_X8_behind : GoodIn wsX8_sweep (wsV RX8 281 RX8 yX8_behind wsX8_behind) := goodIn_app (goodIn_of _ (by decide +kernel)) ggX8_sweep_X8_behind
theorem dX8_sweep_0 : decode cX8_sweep 0 = .ok (.aload_n 0, 1) := by decide +kernel
theorem dX8_sweep_1 : decode cX8_sweep 1 = .ok (.aload_n 0, 1) := by decide +kernel
theorem dX8_sweep_2 : decode cX8_sweep 2 = .ok (.iload_n 1, 1) := by decide +kernel
theorem dX8_sweep_3 : decode cX8_sweep 3 = .ok (.invokevirtual 128, 3) := by decide +kernel
theorem dX8_sweep_6 : decode cX8_sweep 6 = .ok (.ifCond .eq 7, 3) := by decide +kernel
theorem dX8_sweep_9 : decode cX8_sweep 9 = .ok (.iconst 0, 1) := by decide +kernel
theorem dX8_sweep_10 : decode cX8_sweep 10 = .ok (.goto 4, 3) := by decide +kernel
theorem dX8_sweep_13 : decode cX8_sweep 13 = .ok (.iconst 1, 1) := by decide +kernel
theorem dX8_sweep_14 : decode cX8_sweep 14 = .ok (.putfield 118, 3) := by decide +kernel
theorem dX8_sweep_17 : decode cX8_sweep 17 = .ok (.aload_n 0, 1) := by decide +kernel
theorem dX8_sweep_18 : decode cX8_sweep 18 = .ok (.getfield 118, 3) := by decide +kernel
theorem dX8_sweep_21 : decode cX8_sweep 21 = .ok (.ifCond .le 5, 3) := by decide +kernel
theorem dX8_sweep_24 : decode cX8_sweep 24 = .ok (.iconst 0, 1) := by decide +kernel
theorem dX8_sweep_25 : decode cX8_sweep 25 = .ok (.ireturn, 1) := by decide +kernel
theorem dX8_sweep_26 : decode cX8_sweep 26 = .ok (.aload_n 0, 1) := by decide +kernel
theorem dX8_sweep_27 : decode cX8_sweep 27 = .ok (.iload_n 1, 1) := by decide +kernel
theorem dX8_sweep_28 : decode cX8_sweep 28 = .ok (.invokevirtual 281, 3) := by decide +kernel
theorem dX8_sweep_31 : decode cX8_sweep 31 = .ok (.istore_n 2, 1) := by decide +kernel
theorem dX8_sweep_32 : decode cX8_sweep 32 = .ok (.iconst 0, 1) := by decide +kernel
theorem dX8_sweep_33 : decode cX8_sweep 33 = .ok (.istore_n 3, 1) := by decide +kernel
theorem dX8_sweep_34 : decode cX8_sweep 34 = .ok (.iload_n 3, 1) := by decide +kernel
theorem dX8_sweep_35 : decode cX8_sweep 35 = .ok (.bipush 24, 2) := by decide +kernel
theorem dX8_sweep_37 : decode cX8_sweep 37 = .ok (.if_icmp .ge 40, 3) := by decide +kernel
theorem dX8_sweep_40 : decode cX8_sweep 40 = .ok (.aload_n 0, 1) := by decide +kernel
theorem dX8_sweep_41 : decode cX8_sweep 41 = .ok (.getfield 50, 3) := by decide +kernel
theorem dX8_sweep_44 : decode cX8_sweep 44 = .ok (.iload_n 3, 1) := by decide +kernel
theorem dX8_sweep_45 : decode cX8_sweep 45 = .ok (.aload_n 0, 1) := by decide +kernel
theorem dX8_sweep_46 : decode cX8_sweep 46 = .ok (.getfield 47, 3) := by decide +kernel
theorem dX8_sweep_49 : decode cX8_sweep 49 = .ok (.iload_n 3, 1) := by decide +kernel
theorem dX8_sweep_50 : decode cX8_sweep 50 = .ok (.iaload, 1) := by decide +kernel
theorem dX8_sweep_51 : decode cX8_sweep 51 = .ok (.iload_n 1, 1) := by decide +kernel
theorem dX8_sweep_52 : decode cX8_sweep 52 = .ok (.if_icmp .ne 12, 3) := by decide +kernel
theorem dX8_sweep_55 : decode cX8_sweep 55 = .ok (.aload_n 0, 1) := by decide +kernel
theorem dX8_sweep_56 : decode cX8_sweep 56 = .ok (.getfield 7, 3) := by decide +kernel
theorem dX8_sweep_59 : decode cX8_sweep 59 = .ok (.iload_n 1, 1) := by decide +kernel
theorem dX8_sweep_60 : decode cX8_sweep 60 = .ok (.iaload, 1) := by decide +kernel
theorem dX8_sweep_61 : decode cX8_sweep 61 = .ok (.goto 9, 3) := by decide +kernel
theorem dX8_sweep_64 : decode cX8_sweep 64 = .ok (.aload_n 0, 1) := by decide +kernel
theorem dX8_sweep_65 : decode cX8_sweep 65 = .ok (.getfield 50, 3) := by decide +kernel
theorem dX8_sweep_68 : decode cX8_sweep 68 = .ok (.iload_n 3, 1) := by decide +kernel
theorem dX8_sweep_69 : decode cX8_sweep 69 = .ok (.iaload, 1) := by decide +kernel
theorem dX8_sweep_70 : decode cX8_sweep 70 = .ok (.iastore, 1) := by decide +kernel
theorem dX8_sweep_71 : decode cX8_sweep 71 = .ok (.iinc 3 1, 3) := by decide +kernel
theorem dX8_sweep_74 : decode cX8_sweep 74 = .ok (.goto (-40), 3) := by decide +kernel
theorem dX8_sweep_77 : decode cX8_sweep 77 = .ok (.iload_n 2, 1) := by decide +kernel
theorem dX8_sweep_78 : decode cX8_sweep 78 = .ok (.ireturn, 1) := by decide +kernel
theorem dX8_spread_0 : decode cX8_spread 0 = .ok (.iconst 1, 1) := by decide +kernel
theorem dX8_spread_1 : decode cX8_spread 1 = .ok (.istore_n 1, 1) := by decide +kernel
theorem dX8_spread_2 : decode cX8_spread 2 = .ok (.iload_n 1, 1) := by decide +kernel
theorem dX8_spread_3 : decode cX8_spread 3 = .ok (.ifCond .eq 115, 3) := by decide +kernel
theorem dX8_spread_6 : decode cX8_spread 6 = .ok (.iconst 0, 1) := by decide +kernel
theorem dX8_spread_7 : decode cX8_spread 7 = .ok (.istore_n 1, 1) := by decide +kernel
theorem dX8_spread_8 : decode cX8_spread 8 = .ok (.iconst 0, 1) := by decide +kernel
theorem dX8_spread_9 : decode cX8_spread 9 = .ok (.istore_n 2, 1) := by decide +kernel
theorem dX8_spread_10 : decode cX8_spread 10 = .ok (.iload_n 2, 1) := by decide +kernel
theorem dX8_spread_11 : decode cX8_spread 11 = .ok (.bipush 24, 2) := by decide +kernel
theorem dX8_spread_13 : decode cX8_spread 13 = .ok (.if_icmp .ge 102, 3) := by decide +kernel
theorem dX8_spread_16 : decode cX8_spread 16 = .ok (.iconst 0, 1) := by decide +kernel
theorem dX8_spread_17 : decode cX8_spread 17 = .ok (.istore_n 3, 1) := by decide +kernel
theorem dX8_spread_18 : decode cX8_spread 18 = .ok (.aload_n 0, 1) := by decide +kernel
theorem dX8_spread_19 : decode cX8_spread 19 = .ok (.getfield 59, 3) := by decide +kernel
theorem dX8_spread_22 : decode cX8_spread 22 = .ok (.iload_n 2, 1) := by decide +kernel
theorem dX8_spread_23 : decode cX8_spread 23 = .ok (.baload, 1) := by decide +kernel
theorem dX8_spread_24 : decode cX8_spread 24 = .ok (.ifCond .eq 85, 3) := by decide +kernel
theorem dX8_spread_27 : decode cX8_spread 27 = .ok (.iload_n 3, 1) := by decide +kernel
theorem dX8_spread_28 : decode cX8_spread 28 = .ok (.aload_n 0, 1) := by decide +kernel
theorem dX8_spread_29 : decode cX8_spread 29 = .ok (.getfield 17, 3) := by decide +kernel
theorem dX8_spread_32 : decode cX8_spread 32 = .ok (.aload_n 0, 1) := by decide +kernel
theorem dX8_spread_33 : decode cX8_spread 33 = .ok (.getfield 47, 3) := by decide +kernel
theorem dX8_spread_36 : decode cX8_spread 36 = .ok (.iload_n 2, 1) := by decide +kernel
theorem dX8_spread_37 : decode cX8_spread 37 = .ok (.iaload, 1) := by decide +kernel
theorem dX8_spread_38 : decode cX8_spread 38 = .ok (.iaload, 1) := by decide +kernel
theorem dX8_spread_39 : decode cX8_spread 39 = .ok (.if_icmp .ge 70, 3) := by decide +kernel
theorem dX8_spread_42 : decode cX8_spread 42 = .ok (.aload_n 0, 1) := by decide +kernel
theorem dX8_spread_43 : decode cX8_spread 43 = .ok (.getfield 23, 3) := by decide +kernel
theorem dX8_spread_46 : decode cX8_spread 46 = .ok (.bipush 6, 2) := by decide +kernel
theorem dX8_spread_48 : decode cX8_spread 48 = .ok (.aload_n 0, 1) := by decide +kernel
theorem dX8_spread_49 : decode cX8_spread 49 = .ok (.getfield 47, 3) := by decide +kernel
theorem dX8_spread_52 : decode cX8_spread 52 = .ok (.iload_n 2, 1) := by decide +kernel
theorem dX8_spread_53 : decode cX8_spread 53 = .ok (.iaload, 1) := by decide +kernel
theorem dX8_spread_54 : decode cX8_spread 54 = .ok (.imul, 1) := by decide +kernel
theorem dX8_spread_55 : decode cX8_spread 55 = .ok (.iload_n 3, 1) := by decide +kernel
theorem dX8_spread_56 : decode cX8_spread 56 = .ok (.iadd, 1) := by decide +kernel
theorem dX8_spread_57 : decode cX8_spread 57 = .ok (.iaload, 1) := by decide +kernel
theorem dX8_spread_58 : decode cX8_spread 58 = .ok (.ifCond .ne 7, 3) := by decide +kernel
theorem dX8_spread_61 : decode cX8_spread 61 = .ok (.iconst (-1), 1) := by decide +kernel
theorem dX8_spread_62 : decode cX8_spread 62 = .ok (.goto 14, 3) := by decide +kernel
theorem dX8_spread_65 : decode cX8_spread 65 = .ok (.aload_n 0, 1) := by decide +kernel
theorem dX8_spread_66 : decode cX8_spread 66 = .ok (.getfield 53, 3) := by decide +kernel
theorem dX8_spread_69 : decode cX8_spread 69 = .ok (.bipush 6, 2) := by decide +kernel
theorem dX8_spread_71 : decode cX8_spread 71 = .ok (.iload_n 2, 1) := by decide +kernel
theorem dX8_spread_72 : decode cX8_spread 72 = .ok (.imul, 1) := by decide +kernel
theorem dX8_spread_73 : decode cX8_spread 73 = .ok (.iload_n 3, 1) := by decide +kernel
theorem dX8_spread_74 : decode cX8_spread 74 = .ok (.iadd, 1) := by decide +kernel
