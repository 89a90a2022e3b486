theorem dX8_takeBack_61 : decode cX8_takeBack 61 = .ok (.getfield 50, 3) := by decide +kernel
theorem dX8_takeBack_64 : decode cX8_takeBack 64 = .ok (.iload_n 3, 1) := by decide +kernel
theorem dX8_takeBack_65 : decode cX8_takeBack 65 = .ok (.iaload, 1) := by decide +kernel
theorem dX8_takeBack_66 : decode cX8_takeBack 66 = .ok (.aload_n 0, 1) := by decide +kernel
theorem dX8_takeBack_67 : decode cX8_takeBack 67 = .ok (.getfield 7, 3) := by decide +kernel
theorem dX8_takeBack_70 : decode cX8_takeBack 70 = .ok (.iload_n 1, 1) := by decide +kernel
theorem dX8_takeBack_71 : decode cX8_takeBack 71 = .ok (.iaload, 1) := by decide +kernel
theorem dX8_takeBack_72 : decode cX8_takeBack 72 = .ok (.if_icmp .ne 7, 3) := by decide +kernel
theorem dX8_takeBack_75 : decode cX8_takeBack 75 = .ok (.iconst 1, 1) := by decide +kernel
theorem dX8_takeBack_76 : decode cX8_takeBack 76 = .ok (.goto 4, 3) := by decide +kernel
theorem dX8_takeBack_79 : decode cX8_takeBack 79 = .ok (.iconst 0, 1) := by decide +kernel
theorem dX8_takeBack_80 : decode cX8_takeBack 80 = .ok (.iadd, 1) := by decide +kernel
theorem dX8_takeBack_81 : decode cX8_takeBack 81 = .ok (.istore_n 2, 1) := by decide +kernel
theorem dX8_takeBack_82 : decode cX8_takeBack 82 = .ok (.aload_n 0, 1) := by decide +kernel
theorem dX8_takeBack_83 : decode cX8_takeBack 83 = .ok (.getfield 50, 3) := by decide +kernel
theorem dX8_takeBack_86 : decode cX8_takeBack 86 = .ok (.iload_n 3, 1) := by decide +kernel
theorem dX8_takeBack_87 : decode cX8_takeBack 87 = .ok (.aload_n 0, 1) := by decide +kernel
theorem dX8_takeBack_88 : decode cX8_takeBack 88 = .ok (.getfield 50, 3) := by decide +kernel
theorem dX8_takeBack_91 : decode cX8_takeBack 91 = .ok (.iload_n 3, 1) := by decide +kernel
theorem dX8_takeBack_92 : decode cX8_takeBack 92 = .ok (.iaload, 1) := by decide +kernel
theorem dX8_takeBack_93 : decode cX8_takeBack 93 = .ok (.aload_n 0, 1) := by decide +kernel
theorem dX8_takeBack_94 : decode cX8_takeBack 94 = .ok (.getfield 7, 3) := by decide +kernel
theorem dX8_takeBack_97 : decode cX8_takeBack 97 = .ok (.iload_n 1, 1) := by decide +kernel
theorem dX8_takeBack_98 : decode cX8_takeBack 98 = .ok (.iaload, 1) := by decide +kernel
theorem dX8_takeBack_99 : decode cX8_takeBack 99 = .ok (.if_icmp .ne 14, 3) := by decide +kernel
theorem dX8_takeBack_102 : decode cX8_takeBack 102 = .ok (.aload_n 0, 1) := by decide +kernel
theorem dX8_takeBack_103 : decode cX8_takeBack 103 = .ok (.getfield 50, 3) := by decide +kernel
theorem dX8_takeBack_106 : decode cX8_takeBack 106 = .ok (.iload_n 3, 1) := by decide +kernel
theorem dX8_takeBack_107 : decode cX8_takeBack 107 = .ok (.iaload, 1) := by decide +kernel
theorem dX8_takeBack_108 : decode cX8_takeBack 108 = .ok (.iconst 1, 1) := by decide +kernel
theorem dX8_takeBack_109 : decode cX8_takeBack 109 = .ok (.isub, 1) := by decide +kernel
theorem dX8_takeBack_110 : decode cX8_takeBack 110 = .ok (.goto 9, 3) := by decide +kernel
theorem dX8_takeBack_113 : decode cX8_takeBack 113 = .ok (.aload_n 0, 1) := by decide +kernel
theorem dX8_takeBack_114 : decode cX8_takeBack 114 = .ok (.getfield 50, 3) := by decide +kernel
theorem dX8_takeBack_117 : decode cX8_takeBack 117 = .ok (.iload_n 3, 1) := by decide +kernel
theorem dX8_takeBack_118 : decode cX8_takeBack 118 = .ok (.iaload, 1) := by decide +kernel
theorem dX8_takeBack_119 : decode cX8_takeBack 119 = .ok (.iastore, 1) := by decide +kernel
theorem dX8_takeBack_120 : decode cX8_takeBack 120 = .ok (.iconst 0, 1) := by decide +kernel
theorem dX8_takeBack_121 : decode cX8_takeBack 121 = .ok (.istore 4, 2) := by decide +kernel
theorem dX8_takeBack_123 : decode cX8_takeBack 123 = .ok (.iload 4, 2) := by decide +kernel
theorem dX8_takeBack_125 : decode cX8_takeBack 125 = .ok (.bipush 6, 2) := by decide +kernel
theorem dX8_takeBack_127 : decode cX8_takeBack 127 = .ok (.if_icmp .ge 33, 3) := by decide +kernel
theorem dX8_takeBack_130 : decode cX8_takeBack 130 = .ok (.aload_n 0, 1) := by decide +kernel
theorem dX8_takeBack_131 : decode cX8_takeBack 131 = .ok (.getfield 53, 3) := by decide +kernel
theorem dX8_takeBack_134 : decode cX8_takeBack 134 = .ok (.bipush 6, 2) := by decide +kernel
theorem dX8_takeBack_136 : decode cX8_takeBack 136 = .ok (.iload_n 3, 1) := by decide +kernel
theorem dX8_takeBack_137 : decode cX8_takeBack 137 = .ok (.imul, 1) := by decide +kernel
theorem dX8_takeBack_138 : decode cX8_takeBack 138 = .ok (.iload 4, 2) := by decide +kernel
theorem dX8_takeBack_140 : decode cX8_takeBack 140 = .ok (.iadd, 1) := by decide +kernel
theorem dX8_takeBack_141 : decode cX8_takeBack 141 = .ok (.aload_n 0, 1) := by decide +kernel
theorem dX8_takeBack_142 : decode cX8_takeBack 142 = .ok (.getfield 56, 3) := by decide +kernel
theorem dX8_takeBack_145 : decode cX8_takeBack 145 = .ok (.bipush 6, 2) := by decide +kernel
theorem dX8_takeBack_147 : decode cX8_takeBack 147 = .ok (.iload_n 3, 1) := by decide +kernel
theorem dX8_takeBack_148 : decode cX8_takeBack 148 = .ok (.imul, 1) := by decide +kernel
theorem dX8_takeBack_149 : decode cX8_takeBack 149 = .ok (.iload 4, 2) := by decide +kernel
theorem dX8_takeBack_151 : decode cX8_takeBack 151 = .ok (.iadd, 1) := by decide +kernel
theorem dX8_takeBack_152 : decode cX8_takeBack 152 = .ok (.iaload, 1) := by decide +kernel
theorem dX8_takeBack_153 : decode cX8_takeBack 153 = .ok (.iastore, 1) := by decide +kernel
theorem dX8_takeBack_154 : decode cX8_takeBack 154 = .ok (.iinc 4 1, 3) := by decide +kernel
theorem dX8_takeBack_157 : decode cX8_takeBack 157 = .ok (.goto (-34), 3) := by decide +kernel
theorem dX8_takeBack_160 : decode cX8_takeBack 160 = .ok (.iinc 3 1, 3) := by decide +kernel
theorem dX8_takeBack_163 : decode cX8_takeBack 163 = .ok (.goto (-120), 3) := by decide +kernel
theorem dX8_takeBack_166 : decode cX8_takeBack 166 = .ok (.iconst 0, 1) := by decide +kernel
theorem dX8_takeBack_167 : decode cX8_takeBack 167 = .ok (.istore_n 3, 1) := by decide +kernel
theorem dX8_takeBack_168 : decode cX8_takeBack 168 = .ok (.iload_n 3, 1) := by decide +kernel
theorem dX8_takeBack_169 : decode cX8_takeBack 169 = .ok (.bipush 6, 2) := by decide +kernel
theorem dX8_takeBack_171 : decode cX8_takeBack 171 = .ok (.if_icmp .ge 97, 3) := by decide +kernel
theorem dX8_takeBack_174 : decode cX8_takeBack 174 = .ok (.aload_n 0, 1) := by decide +kernel
theorem dX8_takeBack_175 : decode cX8_takeBack 175 = .ok (.getfield 20, 3) := by decide +kernel
theorem dX8_takeBack_178 : decode cX8_takeBack 178 = .ok (.bipush 6, 2) := by decide +kernel
theorem dX8_takeBack_180 : decode cX8_takeBack 180 = .ok (.iload_n 1, 1) := by decide +kernel
theorem dX8_takeBack_181 : decode cX8_takeBack 181 = .ok (.imul, 1) := by decide +kernel
theorem dX8_takeBack_182 : decode cX8_takeBack 182 = .ok (.iload_n 3, 1) := by decide +kernel
theorem dX8_takeBack_183 : decode cX8_takeBack 183 = .ok (.iadd, 1) := by decide +kernel
theorem dX8_takeBack_184 : decode cX8_takeBack 184 = .ok (.aload_n 0, 1) := by decide +kernel
theorem dX8_takeBack_185 : decode cX8_takeBack 185 = .ok (.getfield 35, 3) := by decide +kernel
theorem dX8_takeBack_188 : decode cX8_takeBack 188 = .ok (.bipush 6, 2) := by decide +kernel
theorem dX8_takeBack_190 : decode cX8_takeBack 190 = .ok (.iload_n 1, 1) := by decide +kernel
theorem dX8_takeBack_191 : decode cX8_takeBack 191 = .ok (.imul, 1) := by decide +kernel
theorem dX8_takeBack_192 : decode cX8_takeBack 192 = .ok (.iload_n 3, 1) := by decide +kernel
theorem dX8_takeBack_193 : decode cX8_takeBack 193 = .ok (.iadd, 1) := by decide +kernel
theorem dX8_takeBack_194 : decode cX8_takeBack 194 = .ok (.iaload, 1) := by decide +kernel
theorem dX8_takeBack_195 : decode cX8_takeBack 195 = .ok (.iastore, 1) := by decide +kernel
theorem dX8_takeBack_196 : decode cX8_takeBack 196 = .ok (.aload_n 0, 1) := by decide +kernel
theorem dX8_takeBack_197 : decode cX8_takeBack 197 = .ok (.getfield 23, 3) := by decide +kernel
theorem dX8_takeBack_200 : decode cX8_takeBack 200 = .ok (.bipush 6, 2) := by decide +kernel
theorem dX8_takeBack_202 : decode cX8_takeBack 202 = .ok (.iload_n 1, 1) := by decide +kernel
theorem dX8_takeBack_203 : decode cX8_takeBack 203 = .ok (.imul, 1) := by decide +kernel
theorem dX8_takeBack_204 : decode cX8_takeBack 204 = .ok (.iload_n 3, 1) := by decide +kernel
theorem dX8_takeBack_205 : decode cX8_takeBack 205 = .ok (.iadd, 1) := by decide +kernel
theorem dX8_takeBack_206 : decode cX8_takeBack 206 = .ok (.aload_n 0, 1) := by decide +kernel
theorem dX8_takeBack_207 : decode cX8_takeBack 207 = .ok (.getfield 38, 3) := by decide +kernel
theorem dX8_takeBack_210 : decode cX8_takeBack 210 = .ok (.bipush 6, 2) := by decide +kernel
theorem dX8_takeBack_212 : decode cX8_takeBack 212 = .ok (.iload_n 1, 1) := by decide +kernel
theorem dX8_takeBack_213 : decode cX8_takeBack 213 = .ok (.imul, 1) := by decide +kernel
theorem dX8_takeBack_214 : decode cX8_takeBack 214 = .ok (.iload_n 3, 1) := by decide +kernel
theorem dX8_takeBack_215 : decode cX8_takeBack 215 = .ok (.iadd, 1) := by decide +kernel
theorem dX8_takeBack_216 : decode cX8_takeBack 216 = .ok (.iaload, 1) := by decide +kernel
theorem dX8_takeBack_217 : decode cX8_takeBack 217 = .ok (.iastore, 1) := by decide +kernel
theorem dX8_takeBack_218 : decode cX8_takeBack 218 = .ok (.aload_n 0, 1) := by decide +kernel
theorem dX8_takeBack_219 : decode cX8_takeBack 219 = .ok (.getfield 26, 3) := by decide +kernel
theorem dX8_takeBack_222 : decode cX8_takeBack 222 = .ok (.bipush 6, 2) := by decide +kernel
theorem dX8_takeBack_224 : decode cX8_takeBack 224 = .ok (.iload_n 1, 1) := by decide +kernel
theorem dX8_takeBack_225 : decode cX8_takeBack 225 = .ok (.imul, 1) := by decide +kernel
theorem dX8_takeBack_226 : decode cX8_takeBack 226 = .ok (.iload_n 3, 1) := by decide +kernel
theorem dX8_takeBack_227 : decode cX8_takeBack 227 = .ok (.iadd, 1) := by decide +kernel
theorem dX8_takeBack_228 : decode cX8_takeBack 228 = .ok (.aload_n 0, 1) := by decide +kernel
theorem dX8_takeBack_229 : decode cX8_takeBack 229 = .ok (.getfield 41, 3) := by decide +kernel
theorem dX8_takeBack_232 : decode cX8_takeBack 232 = .ok (.bipush 6, 2) := by decide +kernel
theorem dX8_takeBack_234 : decode cX8_takeBack 234 = .ok (.iload_n 1, 1) := by decide +kernel
theorem dX8_takeBack_235 : decode cX8_takeBack 235 = .ok (.imul, 1) := by decide +kernel
theorem dX8_takeBack_236 : decode cX8_takeBack 236 = .ok (.iload_n 3, 1) := by decide +kernel
theorem dX8_takeBack_237 : decode cX8_takeBack 237 = .ok (.iadd, 1) := by decide +kernel
theorem dX8_takeBack_238 : decode cX8_takeBack 238 = .ok (.iaload, 1) := by decide +kernel
theorem dX8_takeBack_239 : decode cX8_takeBack 239 = .ok (.iastore, 1) := by decide +kernel
theorem dX8_takeBack_240 : decode cX8_takeBack 240 = .ok (.aload_n 0, 1) := by decide +kernel
theorem dX8_takeBack_241 : decode cX8_takeBack 241 = .ok (.getfield 29, 3) := by decide +kernel
theorem dX8_takeBack_244 : decode cX8_takeBack 244 = .ok (.bipush 6, 2) := by decide +kernel
theorem dX8_takeBack_246 : decode cX8_takeBack 246 = .ok (.iload_n 1, 1) := by decide +kernel
theorem dX8_takeBack_247 : decode cX8_takeBack 247 = .ok (.imul, 1) := by decide +kernel
theorem dX8_takeBack_248 : decode cX8_takeBack 248 = .ok (.iload_n 3, 1) := by decide +kernel
theorem dX8_takeBack_249 : decode cX8_takeBack 249 = .ok (.iadd, 1) := by decide +kernel
theorem dX8_takeBack_250 : decode cX8_takeBack 250 = .ok (.aload_n 0, 1) := by decide +kernel
theorem dX8_takeBack_251 : decode cX8_takeBack 251 = .ok (.getfield 44, 3) := by decide +kernel
theorem dX8_takeBack_254 : decode cX8_takeBack 254 = .ok (.bipush 6, 2) := by decide +kernel
theorem dX8_takeBack_256 : decode cX8_takeBack 256 = .ok (.iload_n 1, 1) := by decide +kernel
theorem dX8_takeBack_257 : decode cX8_takeBack 257 = .ok (.imul, 1) := by decide +kernel
theorem dX8_takeBack_258 : decode cX8_takeBack 258 = .ok (.iload_n 3, 1) := by decide +kernel
theorem dX8_takeBack_259 : decode cX8_takeBack 259 = .ok (.iadd, 1) := by decide +kernel
theorem dX8_takeBack_260 : decode cX8_takeBack 260 = .ok (.iaload, 1) := by decide +kernel
theorem dX8_takeBack_261 : decode cX8_takeBack 261 = .ok (.iastore, 1) := by decide +kernel
theorem dX8_takeBack_262 : decode cX8_takeBack 262 = .ok (.iinc 3 1, 3) := by decide +kernel
theorem dX8_takeBack_265 : decode cX8_takeBack 265 = .ok (.goto (-97), 3) := by decide +kernel
theorem dX8_takeBack_268 : decode cX8_takeBack 268 = .ok (.aload_n 0, 1) := by decide +kernel
theorem dX8_takeBack_269 : decode cX8_takeBack 269 = .ok (.getfield 17, 3) := by decide +kernel
theorem dX8_takeBack_272 : decode cX8_takeBack 272 = .ok (.iload_n 1, 1) := by decide +kernel
theorem dX8_takeBack_273 : decode cX8_takeBack 273 = .ok (.aload_n 0, 1) := by decide +kernel
theorem dX8_takeBack_274 : decode cX8_takeBack 274 = .ok (.getfield 32, 3) := by decide +kernel
theorem dX8_takeBack_277 : decode cX8_takeBack 277 = .ok (.iload_n 1, 1) := by decide +kernel
theorem dX8_takeBack_278 : decode cX8_takeBack 278 = .ok (.iaload, 1) := by decide +kernel
theorem dX8_takeBack_279 : decode cX8_takeBack 279 = .ok (.iastore, 1) := by decide +kernel
theorem dX8_takeBack_280 : decode cX8_takeBack 280 = .ok (.aload_n 0, 1) := by decide +kernel
theorem dX8_takeBack_281 : decode cX8_takeBack 281 = .ok (.getfield 7, 3) := by decide +kernel
theorem dX8_takeBack_284 : decode cX8_takeBack 284 = .ok (.iload_n 1, 1) := by decide +kernel
theorem dX8_takeBack_285 : decode cX8_takeBack 285 = .ok (.dup2, 1) := by decide +kernel
theorem dX8_takeBack_286 : decode cX8_takeBack 286 = .ok (.iaload, 1) := by decide +kernel
theorem dX8_takeBack_287 : decode cX8_takeBack 287 = .ok (.iconst 1, 1) := by decide +kernel
theorem dX8_takeBack_288 : decode cX8_takeBack 288 = .ok (.isub, 1) := by decide +kernel
theorem dX8_takeBack_289 : decode cX8_takeBack 289 = .ok (.iastore, 1) := by decide +kernel
theorem dX8_takeBack_290 : decode cX8_takeBack 290 = .ok (.aload_n 0, 1) := by decide +kernel
theorem dX8_takeBack_291 : decode cX8_takeBack 291 = .ok (.getfield 13, 3) := by decide +kernel
theorem dX8_takeBack_294 : decode cX8_takeBack 294 = .ok (.iload_n 1, 1) := by decide +kernel
theorem dX8_takeBack_295 : decode cX8_takeBack 295 = .ok (.iconst 0, 1) := by decide +kernel
theorem dX8_takeBack_296 : decode cX8_takeBack 296 = .ok (.bastore, 1) := by decide +kernel
theorem dX8_takeBack_297 : decode cX8_takeBack 297 = .ok (.iload_n 2, 1) := by decide +kernel
theorem dX8_takeBack_298 : decode cX8_takeBack 298 = .ok (.ireturn, 1) := by decide +kernel
set_option maxRecDepth 20000 in
theorem ggX8_holdsNothing_X8_isRoot : GoodIn wsX8_holdsNothing wsX8_isRoot := goodIn_r _ [6] (by decide +kernel) (by decide +kernel)
set_option maxRecDepth 20000 in
theorem gX8_holdsNothing_X8_isRoot : GoodIn wsX8_holdsNothing (va_wsS RX8 132 yX8_isRoot wsX8_isRoot) := goodIn_app (goodIn_of _ (by decide +kernel)) ggX8_holdsNothing_X8_isRoot
theorem dX8_holdsNothing_0 : decode cX8_holdsNothing 0 = .ok (.aload_n 0, 1) := by decide +kernel
theorem dX8_holdsNothing_1 : decode cX8_holdsNothing 1 = .ok (.iload_n 1, 1) := by decide +kernel
theorem dX8_holdsNothing_2 : decode cX8_holdsNothing 2 = .ok (.invokestatic 132, 3) := by decide +kernel
theorem dX8_holdsNothing_5 : decode cX8_holdsNothing 5 = .ok (.ifCond .ne 7, 3) := by decide +kernel
theorem dX8_holdsNothing_8 : decode cX8_holdsNothing 8 = .ok (.iconst 1, 1) := by decide +kernel
theorem dX8_holdsNothing_9 : decode cX8_holdsNothing 9 = .ok (.goto 17, 3) := by decide +kernel
theorem dX8_holdsNothing_12 : decode cX8_holdsNothing 12 = .ok (.aload_n 0, 1) := by decide +kernel
theorem dX8_holdsNothing_13 : decode cX8_holdsNothing 13 = .ok (.getfield 62, 3) := by decide +kernel
theorem dX8_holdsNothing_16 : decode cX8_holdsNothing 16 = .ok (.iload_n 1, 1) := by decide +kernel
theorem dX8_holdsNothing_17 : decode cX8_holdsNothing 17 = .ok (.iaload, 1) := by decide +kernel
theorem dX8_holdsNothing_18 : decode cX8_holdsNothing 18 = .ok (.ifCond .ge 7, 3) := by decide +kernel
theorem dX8_holdsNothing_21 : decode cX8_holdsNothing 21 = .ok (.iconst 2, 1) := by decide +kernel
theorem dX8_holdsNothing_22 : decode cX8_holdsNothing 22 = .ok (.goto 4, 3) := by decide +kernel
theorem dX8_holdsNothing_25 : decode cX8_holdsNothing 25 = .ok (.iconst 0, 1) := by decide +kernel
theorem dX8_holdsNothing_26 : decode cX8_holdsNothing 26 = .ok (.putfield 118, 3) := by decide +kernel
theorem dX8_holdsNothing_29 : decode cX8_holdsNothing 29 = .ok (.aload_n 0, 1) := by decide +kernel
theorem dX8_holdsNothing_30 : decode cX8_holdsNothing 30 = .ok (.getfield 118, 3) := by decide +kernel
theorem dX8_holdsNothing_33 : decode cX8_holdsNothing 33 = .ok (.ifCond .le 7, 3) := by decide +kernel
theorem dX8_holdsNothing_36 : decode cX8_holdsNothing 36 = .ok (.iconst 1, 1) := by decide +kernel
theorem dX8_holdsNothing_37 : decode cX8_holdsNothing 37 = .ok (.goto 4, 3) := by decide +kernel
theorem dX8_holdsNothing_40 : decode cX8_holdsNothing 40 = .ok (.iconst 0, 1) := by decide +kernel
theorem dX8_holdsNothing_41 : decode cX8_holdsNothing 41 = .ok (.ireturn, 1) := by decide +kernel
set_option maxRecDepth 20000 in
theorem ggX8_versionOf_X8_holdsNothing : GoodIn wsX8_versionOf wsX8_holdsNothing := goodIn_r _ [7, 2, 8, 9, 10, 6, 11, 12, 13, 14, 15, 16, 17, 18, 19, 20, 21, 22, 23, 24, 25, 26, 27, 28, 29, 30, 31, 32, 33, 34, 35, 36, 37, 38, 39, 40, 41, 42, 43, 44, 45, 46, 47, 48, 49, 50, 51, 52, 53, 54, 55] (by decide +kernel) (by decide +kernel)
set_option maxRecDepth 20000 in
theorem gX8_versionOf_X8_holdsNothing : GoodIn wsX8_versionOf (wsV RX8 278 RX8 yX8_holdsNothing wsX8_holdsNothing) := goodIn_app (goodIn_of _ (by decide +kernel)) ggX8_versionOf_X8_holdsNothing
theorem dX8_versionOf_0 : decode cX8_versionOf 0 = .ok (.aload_n 0, 1) := by decide +kernel
theorem dX8_versionOf_1 : decode cX8_versionOf 1 = .ok (.iload_n 1, 1) := by decide +kernel
theorem dX8_versionOf_2 : decode cX8_versionOf 2 = .ok (.invokevirtual 278, 3) := by decide +kernel
theorem dX8_versionOf_5 : decode cX8_versionOf 5 = .ok (.ifCond .eq 7, 3) := by decide +kernel
theorem dX8_versionOf_8 : decode cX8_versionOf 8 = .ok (.iconst 0, 1) := by decide +kernel
theorem dX8_versionOf_9 : decode cX8_versionOf 9 = .ok (.goto 14, 3) := by decide +kernel
theorem dX8_versionOf_12 : decode cX8_versionOf 12 = .ok (.aload_n 0, 1) := by decide +kernel
theorem dX8_versionOf_13 : decode cX8_versionOf 13 = .ok (.getfield 50, 3) := by decide +kernel
theorem dX8_versionOf_16 : decode cX8_versionOf 16 = .ok (.aload_n 0, 1) := by decide +kernel
theorem dX8_versionOf_17 : decode cX8_versionOf 17 = .ok (.getfield 62, 3) := by decide +kernel
theorem dX8_versionOf_20 : decode cX8_versionOf 20 = .ok (.iload_n 1, 1) := by decide +kernel
theorem dX8_versionOf_21 : decode cX8_versionOf 21 = .ok (.iaload, 1) := by decide +kernel
theorem dX8_versionOf_22 : decode cX8_versionOf 22 = .ok (.iaload, 1) := by decide +kernel
theorem dX8_versionOf_23 : decode cX8_versionOf 23 = .ok (.ireturn, 1) := by decide +kernel
set_option maxRecDepth 20000 in
theorem ggX8_touch_X8_holdsNothing : GoodIn wsX8_touch wsX8_holdsNothing := goodIn_r _ [7, 2, 8, 9, 10, 6, 11, 18, 19, 20, 21, 22, 23, 24, 25, 26, 27, 28, 29, 30, 31, 32, 33, 34, 35, 36, 37, 38, 39, 40, 41, 42, 43, 44, 45, 46, 47, 48, 49, 50, 51, 52, 53, 54, 55, 56, 57, 58, 59, 60, 61] (by decide +kernel) (by decide +kernel)
set_option maxRecDepth 20000 in
theorem gX8_touch_X8_holdsNothing : GoodIn wsX8_touch (wsV RX8 278 RX8 yX8_holdsNothing wsX8_holdsNothing) := goodIn_app (goodIn_of _ (by decide +kernel)) ggX8_touch_X8_holdsNothing
set_option maxRecDepth 20000 in
theorem ggX8_touch_X8_touchRecord : GoodIn wsX8_touch wsX8_touchRecord := goodIn_r _ [15, 1, 16, 17, 18, 19, 20, 21, 22, 23, 24, 25, 26, 27, 28, 29, 30, 31, 32, 33, 34, 35, 36, 37, 38, 39, 40, 41, 42, 43, 44, 45, 46, 47, 48, 49, 50, 51, 52, 53, 54, 55, 56, 57, 58, 59, 60, 61] (by decide +kernel) (by decide +kernel)
set_option maxRecDepth 20000 in
theorem gX8_touch_X8_touchRecord : GoodIn wsX8_touch (wsV RX8 156 RX8 yX8_touchRecord wsX8_touchRecord) := goodIn_app (goodIn_of _ (by decide +kernel)) ggX8_touch_X8_touchRecord
theorem dX8_touch_0 : decode cX8_touch 0 = .ok (.aload_n 0, 1) := by decide +kernel
theorem dX8_touch_1 : decode cX8_touch 1 = .ok (.iload_n 1, 1) := by decide +kernel
theorem dX8_touch_2 : decode cX8_touch 2 = .ok (.invokevirtual 278, 3) := by decide +kernel
theorem dX8_touch_5 : decode cX8_touch 5 = .ok (.ifCond .eq 5, 3) := by decide +kernel
theorem dX8_touch_8 : decode cX8_touch 8 = .ok (.iconst 0, 1) := by decide +kernel
theorem dX8_touch_9 : decode cX8_touch 9 = .ok (.ireturn, 1) := by decide +kernel
theorem dX8_touch_10 : decode cX8_touch 10 = .ok (.aload_n 0, 1) := by decide +kernel
theorem dX8_touch_11 : decode cX8_touch 11 = .ok (.getfield 50, 3) := by decide +kernel
theorem dX8_touch_14 : decode cX8_touch 14 = .ok (.aload_n 0, 1) := by decide +kernel
theorem dX8_touch_15 : decode cX8_touch 15 = .ok (.getfield 62, 3) := by decide +kernel
theorem dX8_touch_18 : decode cX8_touch 18 = .ok (.iload_n 1, 1) := by decide +kernel
theorem dX8_touch_19 : decode cX8_touch 19 = .ok (.iaload, 1) := by decide +kernel
theorem dX8_touch_20 : decode cX8_touch 20 = .ok (.iaload, 1) := by decide +kernel
theorem dX8_touch_21 : decode cX8_touch 21 = .ok (.istore_n 2, 1) := by decide +kernel
theorem dX8_touch_22 : decode cX8_touch 22 = .ok (.aload_n 0, 1) := by decide +kernel
theorem dX8_touch_23 : decode cX8_touch 23 = .ok (.aload_n 0, 1) := by decide +kernel
theorem dX8_touch_24 : decode cX8_touch 24 = .ok (.getfield 62, 3) := by decide +kernel
theorem dX8_touch_27 : decode cX8_touch 27 = .ok (.iload_n 1, 1) := by decide +kernel
theorem dX8_touch_28 : decode cX8_touch 28 = .ok (.iaload, 1) := by decide +kernel
theorem dX8_touch_29 : decode cX8_touch 29 = .ok (.invokevirtual 156, 3) := by decide +kernel
theorem dX8_touch_32 : decode cX8_touch 32 = .ok (.aload_n 0, 1) := by decide +kernel
theorem dX8_touch_33 : decode cX8_touch 33 = .ok (.getfield 50, 3) := by decide +kernel
theorem dX8_touch_36 : decode cX8_touch 36 = .ok (.aload_n 0, 1) := by decide +kernel
theorem dX8_touch_37 : decode cX8_touch 37 = .ok (.getfield 62, 3) := by decide +kernel
theorem dX8_touch_40 : decode cX8_touch 40 = .ok (.iload_n 1, 1) := by decide +kernel
theorem dX8_touch_41 : decode cX8_touch 41 = .ok (.iaload, 1) := by decide +kernel
theorem dX8_touch_42 : decode cX8_touch 42 = .ok (.iaload, 1) := by decide +kernel
theorem dX8_touch_43 : decode cX8_touch 43 = .ok (.iload_n 2, 1) := by decide +kernel
theorem dX8_touch_44 : decode cX8_touch 44 = .ok (.isub, 1) := by decide +kernel
theorem dX8_touch_45 : decode cX8_touch 45 = .ok (.ireturn, 1) := by decide +kernel
theorem dX8_behind_0 : decode cX8_behind 0 = .ok (.iconst 0, 1) := by decide +kernel
theorem dX8_behind_1 : decode cX8_behind 1 = .ok (.istore_n 2, 1) := by decide +kernel
theorem dX8_behind_2 : decode cX8_behind 2 = .ok (.iconst 0, 1) := by decide +kernel
theorem dX8_behind_3 : decode cX8_behind 3 = .ok (.istore_n 3, 1) := by decide +kernel
theorem dX8_behind_4 : decode cX8_behind 4 = .ok (.iload_n 3, 1) := by decide +kernel
theorem dX8_behind_5 : decode cX8_behind 5 = .ok (.bipush 24, 2) := by decide +kernel
theorem dX8_behind_7 : decode cX8_behind 7 = .ok (.if_icmp .ge 42, 3) := by decide +kernel
theorem dX8_behind_10 : decode cX8_behind 10 = .ok (.iload_n 2, 1) := by decide +kernel
theorem dX8_behind_11 : decode cX8_behind 11 = .ok (.aload_n 0, 1) := by decide +kernel
theorem dX8_behind_12 : decode cX8_behind 12 = .ok (.getfield 47, 3) := by decide +kernel
theorem dX8_behind_15 : decode cX8_behind 15 = .ok (.iload_n 3, 1) := by decide +kernel
theorem dX8_behind_16 : decode cX8_behind 16 = .ok (.iaload, 1) := by decide +kernel
theorem dX8_behind_17 : decode cX8_behind 17 = .ok (.iload_n 1, 1) := by decide +kernel
theorem dX8_behind_18 : decode cX8_behind 18 = .ok (.if_icmp .ne 22, 3) := by decide +kernel
theorem dX8_behind_21 : decode cX8_behind 21 = .ok (.aload_n 0, 1) := by decide +kernel
theorem dX8_behind_22 : decode cX8_behind 22 = .ok (.getfield 50, 3) := by decide +kernel
theorem dX8_behind_25 : decode cX8_behind 25 = .ok (.iload_n 3, 1) := by decide +kernel
theorem dX8_behind_26 : decode cX8_behind 26 = .ok (.iaload, 1) := by decide +kernel
theorem dX8_behind_27 : decode cX8_behind 27 = .ok (.aload_n 0, 1) := by decide +kernel
theorem dX8_behind_28 : decode cX8_behind 28 = .ok (.getfield 7, 3) := by decide +kernel
theorem dX8_behind_31 : decode cX8_behind 31 = .ok (.iload_n 1, 1) := by decide +kernel
theorem dX8_behind_32 : decode cX8_behind 32 = .ok (.iaload, 1) := by decide +kernel
theorem dX8_behind_33 : decode cX8_behind 33 = .ok (.if_icmp .eq 7, 3) := by decide +kernel
theorem dX8_behind_36 : decode cX8_behind 36 = .ok (.iconst 1, 1) := by decide +kernel
theorem dX8_behind_37 : decode cX8_behind 37 = .ok (.goto 4, 3) := by decide +kernel
theorem dX8_behind_40 : decode cX8_behind 40 = .ok (.iconst 0, 1) := by decide +kernel
theorem dX8_behind_41 : decode cX8_behind 41 = .ok (.iadd, 1) := by decide +kernel
theorem dX8_behind_42 : decode cX8_behind 42 = .ok (.istore_n 2, 1) := by decide +kernel
theorem dX8_behind_43 : decode cX8_behind 43 = .ok (.iinc 3 1, 3) := by decide +kernel
theorem dX8_behind_46 : decode cX8_behind 46 = .ok (.goto (-42), 3) := by decide +kernel
theorem dX8_behind_49 : decode cX8_behind 49 = .ok (.iload_n 2, 1) := by decide +kernel
theorem dX8_behind_50 : decode cX8_behind 50 = .ok (.ireturn, 1) := by decide +kernel
set_option maxRecDepth 20000 in
theorem ggX8_sweep_X8_isClass : GoodIn wsX8_sweep wsX8_isClass := goodIn_r _ [9, 10, 15, 16, 17, 18, 19, 20, 21, 22, 23, 24, 25, 26, 27, 28, 29, 30, 31, 32, 33, 34, 35, 36, 37, 38, 39, 40, 41, 42, 43, 44, 45, 46, 47, 48, 49, 50, 51, 52, 53, 54, 55, 56, 57, 58] (by decide +kernel) (by decide +kernel)
set_option maxRecDepth 20000 in
theorem gX8_sweep_X8_isClass : GoodIn wsX8_sweep (wsV RX8 128 RX8 yX8_isClass wsX8_isClass) := goodIn_app (goodIn_of _ (by decide +kernel)) ggX8_sweep_X8_isClass
set_option maxRecDepth 20000 in
theorem ggX8_sweep_X8_behind : GoodIn wsX8_sweep wsX8_behind := goodIn_r _ [14, 3, 2, 4, 15, 16, 17, 18, 19, 20, 21, 22, 23, 24, 25, 26, 27, 28, 29, 30, 31, 32, 33, 34, 35, 36, 37, 38, 39, 40, 41, 42, 43, 44, 45, 46, 47, 48, 49, 50, 51, 52, 53, 54, 55, 56, 57, 58] (by decide +kernel) (by decide +kernel)
set_option maxRecDepth 20000 in
theorem gX8_sweep_X8_behind : GoodIn wsX8_sweep (wsV RX8 281 RX8 yX8_behind wsX8_behind) := goodIn_app (goodIn_of _ (by decide +kernel)) ggX8_sweep_X8_behind
theorem dX8_sweep_0 : decode cX8_sweep 0 = .ok (.aload_n 0, 1) := by decide +kernel
theorem dX8_sweep_1 : decode cX8_sweep 1 = .ok (.aload_n 0, 1) := by decide +kernel
theorem dX8_sweep_2 : decode cX8_sweep 2 = .ok (.iload_n 1, 1) := by decide +kernel
theorem dX8_sweep_3 : decode cX8_sweep 3 = .ok (.invokevirtual 128, 3) := by decide +kernel
theorem dX8_sweep_6 : decode cX8_sweep 6 = .ok (.ifCond .eq 7, 3) := by decide +kernel
theorem dX8_sweep_9 : decode cX8_sweep 9 = .ok (.iconst 0, 1) := by decide +kernel
theorem dX8_sweep_10 : decode cX8_sweep 10 = .ok (.goto 4, 3) := by decide +kernel
theorem dX8_sweep_13 : decode cX8_sweep 13 = .ok (.iconst 1, 1) := by decide +kernel
theorem dX8_sweep_14 : decode cX8_sweep 14 = .ok (.putfield 118, 3) := by decide +kernel
theorem dX8_sweep_17 : decode cX8_sweep 17 = .ok (.aload_n 0, 1) := by decide +kernel
theorem dX8_sweep_18 : decode cX8_sweep 18 = .ok (.getfield 118, 3) := by decide +kernel
theorem dX8_sweep_21 : decode cX8_sweep 21 = .ok (.ifCond .le 5, 3) := by decide +kernel
theorem dX8_sweep_24 : decode cX8_sweep 24 = .ok (.iconst 0, 1) := by decide +kernel
theorem dX8_sweep_25 : decode cX8_sweep 25 = .ok (.ireturn, 1) := by decide +kernel
theorem dX8_sweep_26 : decode cX8_sweep 26 = .ok (.aload_n 0, 1) := by decide +kernel
theorem dX8_sweep_27 : decode cX8_sweep 27 = .ok (.iload_n 1, 1) := by decide +kernel
theorem dX8_sweep_28 : decode cX8_sweep 28 = .ok (.invokevirtual 281, 3) := by decide +kernel
theorem dX8_sweep_31 : decode cX8_sweep 31 = .ok (.istore_n 2, 1) := by decide +kernel
theorem dX8_sweep_32 : decode cX8_sweep 32 = .ok (.iconst 0, 1) := by decide +kernel
theorem dX8_sweep_33 : decode cX8_sweep 33 = .ok (.istore_n 3, 1) := by decide +kernel
theorem dX8_sweep_34 : decode cX8_sweep 34 = .ok (.iload_n 3, 1) := by decide +kernel
theorem dX8_sweep_35 : decode cX8_sweep 35 = .ok (.bipush 24, 2) := by decide +kernel
theorem dX8_sweep_37 : decode cX8_sweep 37 = .ok (.if_icmp .ge 40, 3) := by decide +kernel
theorem dX8_sweep_40 : decode cX8_sweep 40 = .ok (.aload_n 0, 1) := by decide +kernel
theorem dX8_sweep_41 : decode cX8_sweep 41 = .ok (.getfield 50, 3) := by decide +kernel
theorem dX8_sweep_44 : decode cX8_sweep 44 = .ok (.iload_n 3, 1) := by decide +kernel
theorem dX8_sweep_45 : decode cX8_sweep 45 = .ok (.aload_n 0, 1) := by decide +kernel
theorem dX8_sweep_46 : decode cX8_sweep 46 = .ok (.getfield 47, 3) := by decide +kernel
theorem dX8_sweep_49 : decode cX8_sweep 49 = .ok (.iload_n 3, 1) := by decide +kernel
theorem dX8_sweep_50 : decode cX8_sweep 50 = .ok (.iaload, 1) := by decide +kernel
theorem dX8_sweep_51 : decode cX8_sweep 51 = .ok (.iload_n 1, 1) := by decide +kernel
theorem dX8_sweep_52 : decode cX8_sweep 52 = .ok (.if_icmp .ne 12, 3) := by decide +kernel
theorem dX8_sweep_55 : decode cX8_sweep 55 = .ok (.aload_n 0, 1) := by decide +kernel
theorem dX8_sweep_56 : decode cX8_sweep 56 = .ok (.getfield 7, 3) := by decide +kernel
theorem dX8_sweep_59 : decode cX8_sweep 59 = .ok (.iload_n 1, 1) := by decide +kernel
theorem dX8_sweep_60 : decode cX8_sweep 60 = .ok (.iaload, 1) := by decide +kernel
theorem dX8_sweep_61 : decode cX8_sweep 61 = .ok (.goto 9, 3) := by decide +kernel
theorem dX8_sweep_64 : decode cX8_sweep 64 = .ok (.aload_n 0, 1) := by decide +kernel
theorem dX8_sweep_65 : decode cX8_sweep 65 = .ok (.getfield 50, 3) := by decide +kernel
theorem dX8_sweep_68 : decode cX8_sweep 68 = .ok (.iload_n 3, 1) := by decide +kernel
theorem dX8_sweep_69 : decode cX8_sweep 69 = .ok (.iaload, 1) := by decide +kernel
theorem dX8_sweep_70 : decode cX8_sweep 70 = .ok (.iastore, 1) := by decide +kernel
theorem dX8_sweep_71 : decode cX8_sweep 71 = .ok (.iinc 3 1, 3) := by decide +kernel
theorem dX8_sweep_74 : decode cX8_sweep 74 = .ok (.goto (-40), 3) := by decide +kernel
theorem dX8_sweep_77 : decode cX8_sweep 77 = .ok (.iload_n 2, 1) := by decide +kernel
theorem dX8_sweep_78 : decode cX8_sweep 78 = .ok (.ireturn, 1) := by decide +kernel
theorem dX8_spread_0 : decode cX8_spread 0 = .ok (.iconst 1, 1) := by decide +kernel
theorem dX8_spread_1 : decode cX8_spread 1 = .ok (.istore_n 1, 1) := by decide +kernel
theorem dX8_spread_2 : decode cX8_spread 2 = .ok (.iload_n 1, 1) := by decide +kernel
theorem dX8_spread_3 : decode cX8_spread 3 = .ok (.ifCond .eq 115, 3) := by decide +kernel
theorem dX8_spread_6 : decode cX8_spread 6 = .ok (.iconst 0, 1) := by decide +kernel
theorem dX8_spread_7 : decode cX8_spread 7 = .ok (.istore_n 1, 1) := by decide +kernel
theorem dX8_spread_8 : decode cX8_spread 8 = .ok (.iconst 0, 1) := by decide +kernel
theorem dX8_spread_9 : decode cX8_spread 9 = .ok (.istore_n 2, 1) := by decide +kernel
theorem dX8_spread_10 : decode cX8_spread 10 = .ok (.iload_n 2, 1) := by decide +kernel
theorem dX8_spread_11 : decode cX8_spread 11 = .ok (.bipush 24, 2) := by decide +kernel
theorem dX8_spread_13 : decode cX8_spread 13 = .ok (.if_icmp .ge 102, 3) := by decide +kernel
theorem dX8_spread_16 : decode cX8_spread 16 = .ok (.iconst 0, 1) := by decide +kernel
theorem dX8_spread_17 : decode cX8_spread 17 = .ok (.istore_n 3, 1) := by decide +kernel
theorem dX8_spread_18 : decode cX8_spread 18 = .ok (.aload_n 0, 1) := by decide +kernel
theorem dX8_spread_19 : decode cX8_spread 19 = .ok (.getfield 59, 3) := by decide +kernel
theorem dX8_spread_22 : decode cX8_spread 22 = .ok (.iload_n 2, 1) := by decide +kernel
theorem dX8_spread_23 : decode cX8_spread 23 = .ok (.baload, 1) := by decide +kernel
theorem dX8_spread_24 : decode cX8_spread 24 = .ok (.ifCond .eq 85, 3) := by decide +kernel
theorem dX8_spread_27 : decode cX8_spread 27 = .ok (.iload_n 3, 1) := by decide +kernel
theorem dX8_spread_28 : decode cX8_spread 28 = .ok (.aload_n 0, 1) := by decide +kernel
theorem dX8_spread_29 : decode cX8_spread 29 = .ok (.getfield 17, 3) := by decide +kernel
theorem dX8_spread_32 : decode cX8_spread 32 = .ok (.aload_n 0, 1) := by decide +kernel
theorem dX8_spread_33 : decode cX8_spread 33 = .ok (.getfield 47, 3) := by decide +kernel
theorem dX8_spread_36 : decode cX8_spread 36 = .ok (.iload_n 2, 1) := by decide +kernel
theorem dX8_spread_37 : decode cX8_spread 37 = .ok (.iaload, 1) := by decide +kernel
theorem dX8_spread_38 : decode cX8_spread 38 = .ok (.iaload, 1) := by decide +kernel
theorem dX8_spread_39 : decode cX8_spread 39 = .ok (.if_icmp .ge 70, 3) := by decide +kernel
theorem dX8_spread_42 : decode cX8_spread 42 = .ok (.aload_n 0, 1) := by decide +kernel
theorem dX8_spread_43 : decode cX8_spread 43 = .ok (.getfield 23, 3) := by decide +kernel
theorem dX8_spread_46 : decode cX8_spread 46 = .ok (.bipush 6, 2) := by decide +kernel
theorem dX8_spread_48 : decode cX8_spread 48 = .ok (.aload_n 0, 1) := by decide +kernel
theorem dX8_spread_49 : decode cX8_spread 49 = .ok (.getfield 47, 3) := by decide +kernel
theorem dX8_spread_52 : decode cX8_spread 52 = .ok (.iload_n 2, 1) := by decide +kernel
theorem dX8_spread_53 : decode cX8_spread 53 = .ok (.iaload, 1) := by decide +kernel
theorem dX8_spread_54 : decode cX8_spread 54 = .ok (.imul, 1) := by decide +kernel
theorem dX8_spread_55 : decode cX8_spread 55 = .ok (.iload_n 3, 1) := by decide +kernel
theorem dX8_spread_56 : decode cX8_spread 56 = .ok (.iadd, 1) := by decide +kernel
theorem dX8_spread_57 : decode cX8_spread 57 = .ok (.iaload, 1) := by decide +kernel
theorem dX8_spread_58 : decode cX8_spread 58 = .ok (.ifCond .ne 7, 3) := by decide +kernel
theorem dX8_spread_61 : decode cX8_spread 61 = .ok (.iconst (-1), 1) := by decide +kernel
theorem dX8_spread_62 : decode cX8_spread 62 = .ok (.goto 14, 3) := by decide +kernel
theorem dX8_spread_65 : decode cX8_spread 65 = .ok (.aload_n 0, 1) := by decide +kernel
theorem dX8_spread_66 : decode cX8_spread 66 = .ok (.getfield 53, 3) := by decide +kernel
theorem dX8_spread_69 : decode cX8_spread 69 = .ok (.bipush 6, 2) := by decide +kernel
theorem dX8_spread_71 : decode cX8_spread 71 = .ok (.iload_n 2, 1) := by decide +kernel
theorem dX8_spread_72 : decode cX8_spread 72 = .ok (.imul, 1) := by decide +kernel
theorem dX8_spread_73 : decode cX8_spread 73 = .ok (.iload_n 3, 1) := by decide +kernel
theorem dX8_spread_74 : decode cX8_spread 74 = .ok (.iadd, 1) := by decide +kernel
theorem dX8_spread_75 : decode cX8_spread 75 = .ok (.iaload, 1) := by decide +kernel
theorem dX8_spread_76 : decode cX8_spread 76 = .ok (.istore 4, 2) := by decide +kernel
theorem dX8_spread_78 : decode cX8_spread 78 = .ok (.iload 4, 2) := by decide +kernel
theorem dX8_spread_80 : decode cX8_spread 80 = .ok (.ifCond .lt 23, 3) := by decide +kernel
theorem dX8_spread_83 : decode cX8_spread 83 = .ok (.aload_n 0, 1) := by decide +kernel
theorem dX8_spread_84 : decode cX8_spread 84 = .ok (.getfield 59, 3) := by decide +kernel
theorem dX8_spread_87 : decode cX8_spread 87 = .ok (.iload 4, 2) := by decide +kernel
theorem dX8_spread_89 : decode cX8_spread 89 = .ok (.baload, 1) := by decide +kernel
theorem dX8_spread_90 : decode cX8_spread 90 = .ok (.ifCond .ne 13, 3) := by decide +kernel
theorem dX8_spread_93 : decode cX8_spread 93 = .ok (.aload_n 0, 1) := by decide +kernel
theorem dX8_spread_94 : decode cX8_spread 94 = .ok (.getfield 59, 3) := by decide +kernel
theorem dX8_spread_97 : decode cX8_spread 97 = .ok (.iload 4, 2) := by decide +kernel
theorem dX8_spread_99 : decode cX8_spread 99 = .ok (.iconst 1, 1) := by decide +kernel
theorem dX8_spread_100 : decode cX8_spread 100 = .ok (.bastore, 1) := by decide +kernel
theorem dX8_spread_101 : decode cX8_spread 101 = .ok (.iconst 1, 1) := by decide +kernel
theorem dX8_spread_102 : decode cX8_spread 102 = .ok (.istore_n 1, 1) := by decide +kernel
theorem dX8_spread_103 : decode cX8_spread 103 = .ok (.iinc 3 1, 3) := by decide +kernel
theorem dX8_spread_106 : decode cX8_spread 106 = .ok (.goto (-88), 3) := by decide +kernel
theorem dX8_spread_109 : decode cX8_spread 109 = .ok (.iinc 2 1, 3) := by decide +kernel
theorem dX8_spread_112 : decode cX8_spread 112 = .ok (.goto (-102), 3) := by decide +kernel
theorem dX8_spread_115 : decode cX8_spread 115 = .ok (.goto (-113), 3) := by decide +kernel
theorem dX8_spread_118 : decode cX8_spread 118 = .ok (.return_, 1) := by decide +kernel
theorem dX8_forget_0 : decode cX8_forget 0 = .ok (.iconst 0, 1) := by decide +kernel
theorem dX8_forget_1 : decode cX8_forget 1 = .ok (.istore_n 2, 1) := by decide +kernel
theorem dX8_forget_2 : decode cX8_forget 2 = .ok (.iload_n 2, 1) := by decide +kernel
theorem dX8_forget_3 : decode cX8_forget 3 = .ok (.bipush 24, 2) := by decide +kernel
theorem dX8_forget_5 : decode cX8_forget 5 = .ok (.if_icmp .ge 113, 3) := by decide +kernel
theorem dX8_forget_8 : decode cX8_forget 8 = .ok (.iconst 0, 1) := by decide +kernel
theorem dX8_forget_9 : decode cX8_forget 9 = .ok (.istore_n 3, 1) := by decide +kernel
theorem dX8_forget_10 : decode cX8_forget 10 = .ok (.aload_n 0, 1) := by decide +kernel
theorem dX8_forget_11 : decode cX8_forget 11 = .ok (.getfield 47, 3) := by decide +kernel
theorem dX8_forget_14 : decode cX8_forget 14 = .ok (.iload_n 2, 1) := by decide +kernel
theorem dX8_forget_15 : decode cX8_forget 15 = .ok (.iaload, 1) := by decide +kernel
theorem dX8_forget_16 : decode cX8_forget 16 = .ok (.ifCond .lt 96, 3) := by decide +kernel
theorem dX8_forget_19 : decode cX8_forget 19 = .ok (.iload_n 3, 1) := by decide +kernel
theorem dX8_forget_20 : decode cX8_forget 20 = .ok (.aload_n 0, 1) := by decide +kernel
theorem dX8_forget_21 : decode cX8_forget 21 = .ok (.getfield 32, 3) := by decide +kernel
theorem dX8_forget_24 : decode cX8_forget 24 = .ok (.aload_n 0, 1) := by decide +kernel
theorem dX8_forget_25 : decode cX8_forget 25 = .ok (.getfield 47, 3) := by decide +kernel
theorem dX8_forget_28 : decode cX8_forget 28 = .ok (.iload_n 2, 1) := by decide +kernel
theorem dX8_forget_29 : decode cX8_forget 29 = .ok (.iaload, 1) := by decide +kernel
theorem dX8_forget_30 : decode cX8_forget 30 = .ok (.iaload, 1) := by decide +kernel
theorem dX8_forget_31 : decode cX8_forget 31 = .ok (.if_icmp .ge 81, 3) := by decide +kernel
theorem dX8_forget_34 : decode cX8_forget 34 = .ok (.aload_n 0, 1) := by decide +kernel
theorem dX8_forget_35 : decode cX8_forget 35 = .ok (.getfield 38, 3) := by decide +kernel
theorem dX8_forget_38 : decode cX8_forget 38 = .ok (.bipush 6, 2) := by decide +kernel
theorem dX8_forget_40 : decode cX8_forget 40 = .ok (.aload_n 0, 1) := by decide +kernel
theorem dX8_forget_41 : decode cX8_forget 41 = .ok (.getfield 47, 3) := by decide +kernel
theorem dX8_forget_44 : decode cX8_forget 44 = .ok (.iload_n 2, 1) := by decide +kernel
theorem dX8_forget_45 : decode cX8_forget 45 = .ok (.iaload, 1) := by decide +kernel
theorem dX8_forget_46 : decode cX8_forget 46 = .ok (.imul, 1) := by decide +kernel
theorem dX8_forget_47 : decode cX8_forget 47 = .ok (.iload_n 3, 1) := by decide +kernel
theorem dX8_forget_48 : decode cX8_forget 48 = .ok (.iadd, 1) := by decide +kernel
theorem dX8_forget_49 : decode cX8_forget 49 = .ok (.iaload, 1) := by decide +kernel
theorem dX8_forget_50 : decode cX8_forget 50 = .ok (.ifCond .eq 22, 3) := by decide +kernel
theorem dX8_forget_53 : decode cX8_forget 53 = .ok (.aload_n 0, 1) := by decide +kernel
theorem dX8_forget_54 : decode cX8_forget 54 = .ok (.getfield 56, 3) := by decide +kernel
theorem dX8_forget_57 : decode cX8_forget 57 = .ok (.bipush 6, 2) := by decide +kernel
theorem dX8_forget_59 : decode cX8_forget 59 = .ok (.iload_n 2, 1) := by decide +kernel
theorem dX8_forget_60 : decode cX8_forget 60 = .ok (.imul, 1) := by decide +kernel
theorem dX8_forget_61 : decode cX8_forget 61 = .ok (.iload_n 3, 1) := by decide +kernel
theorem dX8_forget_62 : decode cX8_forget 62 = .ok (.iadd, 1) := by decide +kernel
theorem dX8_forget_63 : decode cX8_forget 63 = .ok (.iaload, 1) := by decide +kernel
theorem dX8_forget_64 : decode cX8_forget 64 = .ok (.iload_n 1, 1) := by decide +kernel
theorem dX8_forget_65 : decode cX8_forget 65 = .ok (.if_icmp .ne 7, 3) := by decide +kernel
theorem dX8_forget_68 : decode cX8_forget 68 = .ok (.iconst 1, 1) := by decide +kernel
theorem dX8_forget_69 : decode cX8_forget 69 = .ok (.goto 4, 3) := by decide +kernel
theorem dX8_forget_72 : decode cX8_forget 72 = .ok (.iconst 0, 1) := by decide +kernel
theorem dX8_forget_73 : decode cX8_forget 73 = .ok (.istore 4, 2) := by decide +kernel
theorem dX8_forget_75 : decode cX8_forget 75 = .ok (.aload_n 0, 1) := by decide +kernel
theorem dX8_forget_76 : decode cX8_forget 76 = .ok (.getfield 56, 3) := by decide +kernel
theorem dX8_forget_79 : decode cX8_forget 79 = .ok (.bipush 6, 2) := by decide +kernel
theorem dX8_forget_81 : decode cX8_forget 81 = .ok (.iload_n 2, 1) := by decide +kernel
theorem dX8_forget_82 : decode cX8_forget 82 = .ok (.imul, 1) := by decide +kernel
theorem dX8_forget_83 : decode cX8_forget 83 = .ok (.iload_n 3, 1) := by decide +kernel
theorem dX8_forget_84 : decode cX8_forget 84 = .ok (.iadd, 1) := by decide +kernel
theorem dX8_forget_85 : decode cX8_forget 85 = .ok (.iload 4, 2) := by decide +kernel
theorem dX8_forget_87 : decode cX8_forget 87 = .ok (.ifCond .eq 7, 3) := by decide +kernel
theorem dX8_forget_90 : decode cX8_forget 90 = .ok (.iconst (-1), 1) := by decide +kernel
theorem dX8_forget_91 : decode cX8_forget 91 = .ok (.goto 14, 3) := by decide +kernel
theorem dX8_forget_94 : decode cX8_forget 94 = .ok (.aload_n 0, 1) := by decide +kernel
theorem dX8_forget_95 : decode cX8_forget 95 = .ok (.getfield 56, 3) := by decide +kernel
theorem dX8_forget_98 : decode cX8_forget 98 = .ok (.bipush 6, 2) := by decide +kernel
theorem dX8_forget_100 : decode cX8_forget 100 = .ok (.iload_n 2, 1) := by decide +kernel
theorem dX8_forget_101 : decode cX8_forget 101 = .ok (.imul, 1) := by decide +kernel
theorem dX8_forget_102 : decode cX8_forget 102 = .ok (.iload_n 3, 1) := by decide +kernel
theorem dX8_forget_103 : decode cX8_forget 103 = .ok (.iadd, 1) := by decide +kernel
theorem dX8_forget_104 : decode cX8_forget 104 = .ok (.iaload, 1) := by decide +kernel
theorem dX8_forget_105 : decode cX8_forget 105 = .ok (.iastore, 1) := by decide +kernel
theorem dX8_forget_106 : decode cX8_forget 106 = .ok (.iinc 3 1, 3) := by decide +kernel
theorem dX8_forget_109 : decode cX8_forget 109 = .ok (.goto (-99), 3) := by decide +kernel
theorem dX8_forget_112 : decode cX8_forget 112 = .ok (.iinc 2 1, 3) := by decide +kernel
theorem dX8_forget_115 : decode cX8_forget 115 = .ok (.goto (-113), 3) := by decide +kernel
theorem dX8_forget_118 : decode cX8_forget 118 = .ok (.return_, 1) := by decide +kernel
set_option maxRecDepth 20000 in
theorem ggX8_collect_X8_spread : GoodIn wsX8_collect wsX8_spread := goodIn_r _ [9, 2, 10, 4, 11, 12, 20, 21, 22, 23, 24, 25, 26, 27, 28, 29, 30, 31, 32, 33, 34, 35, 36, 37, 38, 39, 40, 41, 42, 43, 44, 45, 46, 47, 48, 49, 50, 51, 52, 53, 54, 55, 56, 57, 58, 59, 60, 61, 62, 63] (by decide +kernel) (by decide +kernel)
set_option maxRecDepth 20000 in
theorem gX8_collect_X8_spread : GoodIn wsX8_collect (wsV RX8 284 RX8 yX8_spread wsX8_spread) := goodIn_app (goodIn_of _ (by decide +kernel)) ggX8_collect_X8_spread
set_option maxRecDepth 20000 in
theorem ggX8_collect_X8_forget : GoodIn wsX8_collect wsX8_forget := goodIn_r _ [16, 4, 17, 18, 19, 20, 21, 22, 23, 24, 25, 26, 27, 28, 29, 30, 31, 32, 33, 34, 35, 36, 37, 38, 39, 40, 41, 42, 43, 44, 45, 46, 47, 48, 49, 50, 51, 52, 53, 54, 55, 56, 57, 58, 59, 60, 61, 62, 63] (by decide +kernel) (by decide +kernel)
set_option maxRecDepth 20000 in
theorem gX8_collect_X8_forget : GoodIn wsX8_collect (wsV RX8 287 RX8 yX8_forget wsX8_forget) := goodIn_app (goodIn_of _ (by decide +kernel)) ggX8_collect_X8_forget
theorem dX8_collect_0 : decode cX8_collect 0 = .ok (.aload_n 0, 1) := by decide +kernel
theorem dX8_collect_1 : decode cX8_collect 1 = .ok (.iconst 0, 1) := by decide +kernel
theorem dX8_collect_2 : decode cX8_collect 2 = .ok (.putfield 118, 3) := by decide +kernel
theorem dX8_collect_5 : decode cX8_collect 5 = .ok (.iconst 0, 1) := by decide +kernel
theorem dX8_collect_6 : decode cX8_collect 6 = .ok (.istore_n 1, 1) := by decide +kernel
theorem dX8_collect_7 : decode cX8_collect 7 = .ok (.iload_n 1, 1) := by decide +kernel
theorem dX8_collect_8 : decode cX8_collect 8 = .ok (.bipush 24, 2) := by decide +kernel
theorem dX8_collect_10 : decode cX8_collect 10 = .ok (.if_icmp .ge 16, 3) := by decide +kernel
theorem dX8_collect_13 : decode cX8_collect 13 = .ok (.aload_n 0, 1) := by decide +kernel
theorem dX8_collect_14 : decode cX8_collect 14 = .ok (.getfield 59, 3) := by decide +kernel
theorem dX8_collect_17 : decode cX8_collect 17 = .ok (.iload_n 1, 1) := by decide +kernel
theorem dX8_collect_18 : decode cX8_collect 18 = .ok (.iconst 0, 1) := by decide +kernel
theorem dX8_collect_19 : decode cX8_collect 19 = .ok (.bastore, 1) := by decide +kernel
theorem dX8_collect_20 : decode cX8_collect 20 = .ok (.iinc 1 1, 3) := by decide +kernel
theorem dX8_collect_23 : decode cX8_collect 23 = .ok (.goto (-16), 3) := by decide +kernel
theorem dX8_collect_26 : decode cX8_collect 26 = .ok (.iconst 0, 1) := by decide +kernel
theorem dX8_collect_27 : decode cX8_collect 27 = .ok (.istore_n 1, 1) := by decide +kernel
theorem dX8_collect_28 : decode cX8_collect 28 = .ok (.iload_n 1, 1) := by decide +kernel
theorem dX8_collect_29 : decode cX8_collect 29 = .ok (.bipush 8, 2) := by decide +kernel
theorem dX8_collect_31 : decode cX8_collect 31 = .ok (.if_icmp .ge 30, 3) := by decide +kernel
theorem dX8_collect_34 : decode cX8_collect 34 = .ok (.aload_n 0, 1) := by decide +kernel
theorem dX8_collect_35 : decode cX8_collect 35 = .ok (.getfield 62, 3) := by decide +kernel
theorem dX8_collect_38 : decode cX8_collect 38 = .ok (.iload_n 1, 1) := by decide +kernel
theorem dX8_collect_39 : decode cX8_collect 39 = .ok (.iaload, 1) := by decide +kernel
theorem dX8_collect_40 : decode cX8_collect 40 = .ok (.ifCond .lt 15, 3) := by decide +kernel
theorem dX8_collect_43 : decode cX8_collect 43 = .ok (.aload_n 0, 1) := by decide +kernel
theorem dX8_collect_44 : decode cX8_collect 44 = .ok (.getfield 59, 3) := by decide +kernel
theorem dX8_collect_47 : decode cX8_collect 47 = .ok (.aload_n 0, 1) := by decide +kernel
theorem dX8_collect_48 : decode cX8_collect 48 = .ok (.getfield 62, 3) := by decide +kernel
theorem dX8_collect_51 : decode cX8_collect 51 = .ok (.iload_n 1, 1) := by decide +kernel
theorem dX8_collect_52 : decode cX8_collect 52 = .ok (.iaload, 1) := by decide +kernel
theorem dX8_collect_53 : decode cX8_collect 53 = .ok (.iconst 1, 1) := by decide +kernel
theorem dX8_collect_54 : decode cX8_collect 54 = .ok (.bastore, 1) := by decide +kernel
theorem dX8_collect_55 : decode cX8_collect 55 = .ok (.iinc 1 1, 3) := by decide +kernel
theorem dX8_collect_58 : decode cX8_collect 58 = .ok (.goto (-30), 3) := by decide +kernel
theorem dX8_collect_61 : decode cX8_collect 61 = .ok (.aload_n 0, 1) := by decide +kernel
theorem dX8_collect_62 : decode cX8_collect 62 = .ok (.invokevirtual 284, 3) := by decide +kernel
theorem dX8_collect_65 : decode cX8_collect 65 = .ok (.iconst 0, 1) := by decide +kernel
theorem dX8_collect_66 : decode cX8_collect 66 = .ok (.istore_n 1, 1) := by decide +kernel
theorem dX8_collect_67 : decode cX8_collect 67 = .ok (.iconst 0, 1) := by decide +kernel
theorem dX8_collect_68 : decode cX8_collect 68 = .ok (.istore_n 2, 1) := by decide +kernel
theorem dX8_collect_69 : decode cX8_collect 69 = .ok (.iload_n 2, 1) := by decide +kernel
theorem dX8_collect_70 : decode cX8_collect 70 = .ok (.bipush 24, 2) := by decide +kernel
theorem dX8_collect_72 : decode cX8_collect 72 = .ok (.if_icmp .ge 42, 3) := by decide +kernel
theorem dX8_collect_75 : decode cX8_collect 75 = .ok (.aload_n 0, 1) := by decide +kernel
theorem dX8_collect_76 : decode cX8_collect 76 = .ok (.getfield 47, 3) := by decide +kernel
theorem dX8_collect_79 : decode cX8_collect 79 = .ok (.iload_n 2, 1) := by decide +kernel
theorem dX8_collect_80 : decode cX8_collect 80 = .ok (.iaload, 1) := by decide +kernel
theorem dX8_collect_81 : decode cX8_collect 81 = .ok (.ifCond .lt 27, 3) := by decide +kernel
theorem dX8_collect_84 : decode cX8_collect 84 = .ok (.aload_n 0, 1) := by decide +kernel
theorem dX8_collect_85 : decode cX8_collect 85 = .ok (.getfield 59, 3) := by decide +kernel
theorem dX8_collect_88 : decode cX8_collect 88 = .ok (.iload_n 2, 1) := by decide +kernel
theorem dX8_collect_89 : decode cX8_collect 89 = .ok (.baload, 1) := by decide +kernel
theorem dX8_collect_90 : decode cX8_collect 90 = .ok (.ifCond .ne 18, 3) := by decide +kernel
theorem dX8_collect_93 : decode cX8_collect 93 = .ok (.aload_n 0, 1) := by decide +kernel
theorem dX8_collect_94 : decode cX8_collect 94 = .ok (.getfield 47, 3) := by decide +kernel
theorem dX8_collect_97 : decode cX8_collect 97 = .ok (.iload_n 2, 1) := by decide +kernel
theorem dX8_collect_98 : decode cX8_collect 98 = .ok (.iconst (-1), 1) := by decide +kernel
theorem dX8_collect_99 : decode cX8_collect 99 = .ok (.iastore, 1) := by decide +kernel
theorem dX8_collect_100 : decode cX8_collect 100 = .ok (.aload_n 0, 1) := by decide +kernel
theorem dX8_collect_101 : decode cX8_collect 101 = .ok (.iload_n 2, 1) := by decide +kernel
theorem dX8_collect_102 : decode cX8_collect 102 = .ok (.invokevirtual 287, 3) := by decide +kernel
theorem dX8_collect_105 : decode cX8_collect 105 = .ok (.iinc 1 1, 3) := by decide +kernel
theorem dX8_collect_108 : decode cX8_collect 108 = .ok (.iinc 2 1, 3) := by decide +kernel
theorem dX8_collect_111 : decode cX8_collect 111 = .ok (.goto (-42), 3) := by decide +kernel
theorem dX8_collect_114 : decode cX8_collect 114 = .ok (.iload_n 1, 1) := by decide +kernel
theorem dX8_collect_115 : decode cX8_collect 115 = .ok (.ireturn, 1) := by decide +kernel
set_option maxRecDepth 20000 in
theorem ggX8_about_X8_isClass : GoodIn wsX8_about wsX8_isClass := goodIn_r _ [8, 9, 20, 21, 22, 23, 24, 25, 26, 27, 28, 29, 30, 31, 32, 33, 34, 35, 36, 37, 38, 39, 40, 41, 42, 43, 44, 45, 46, 47, 48, 49, 50, 51, 52, 53, 54, 55, 56, 57, 58, 59, 60, 61, 62, 63] (by decide +kernel) (by decide +kernel)
set_option maxRecDepth 20000 in
theorem gX8_about_X8_isClass : GoodIn wsX8_about (wsV RX8 128 RX8 yX8_isClass wsX8_isClass) := goodIn_app (goodIn_of _ (by decide +kernel)) ggX8_about_X8_isClass
set_option maxRecDepth 20000 in
theorem ggX8_about_X8_records : GoodIn wsX8_about wsX8_records := goodIn_r _ [13, 14, 20, 21, 22, 23, 24, 25, 26, 27, 28, 29, 30, 31, 32, 33, 34, 35, 36, 37, 38, 39, 40, 41, 42, 43, 44, 45, 46, 47, 48, 49, 50, 51, 52, 53, 54, 55, 56, 57, 58, 59, 60, 61, 62, 63] (by decide +kernel) (by decide +kernel)
set_option maxRecDepth 20000 in
theorem gX8_about_X8_records : GoodIn wsX8_about (wsV RX8 135 RX8 yX8_records wsX8_records) := goodIn_app (goodIn_of _ (by decide +kernel)) ggX8_about_X8_records
set_option maxRecDepth 20000 in
theorem ggX8_about_X8_behind : GoodIn wsX8_about wsX8_behind := goodIn_r _ [18, 14, 19, 2, 20, 21, 22, 23, 24, 25, 26, 27, 28, 29, 30, 31, 32, 33, 34, 35, 36, 37, 38, 39, 40, 41, 42, 43, 44, 45, 46, 47, 48, 49, 50, 51, 52, 53, 54, 55, 56, 57, 58, 59, 60, 61, 62, 63] (by decide +kernel) (by decide +kernel)
set_option maxRecDepth 20000 in
theorem gX8_about_X8_behind : GoodIn wsX8_about (wsV RX8 281 RX8 yX8_behind wsX8_behind) := goodIn_app (goodIn_of _ (by decide +kernel)) ggX8_about_X8_behind
theorem dX8_about_0 : decode cX8_about 0 = .ok (.aload_n 0, 1) := by decide +kernel
theorem dX8_about_1 : decode cX8_about 1 = .ok (.aload_n 0, 1) := by decide +kernel
theorem dX8_about_2 : decode cX8_about 2 = .ok (.iload_n 1, 1) := by decide +kernel
theorem dX8_about_3 : decode cX8_about 3 = .ok (.invokevirtual 128, 3) := by decide +kernel
theorem dX8_about_6 : decode cX8_about 6 = .ok (.ifCond .eq 16, 3) := by decide +kernel
theorem dX8_about_9 : decode cX8_about 9 = .ok (.iload_n 2, 1) := by decide +kernel
theorem dX8_about_10 : decode cX8_about 10 = .ok (.ifCond .lt 12, 3) := by decide +kernel
theorem dX8_about_13 : decode cX8_about 13 = .ok (.iload_n 2, 1) := by decide +kernel
theorem dX8_about_14 : decode cX8_about 14 = .ok (.iconst 3, 1) := by decide +kernel
theorem dX8_about_15 : decode cX8_about 15 = .ok (.if_icmp .gt 7, 3) := by decide +kernel
theorem dX8_about_18 : decode cX8_about 18 = .ok (.iconst 0, 1) := by decide +kernel
theorem dX8_about_19 : decode cX8_about 19 = .ok (.goto 4, 3) := by decide +kernel
theorem dX8_about_22 : decode cX8_about 22 = .ok (.iconst 1, 1) := by decide +kernel
theorem dX8_about_23 : decode cX8_about 23 = .ok (.putfield 118, 3) := by decide +kernel
theorem dX8_about_26 : decode cX8_about 26 = .ok (.aload_n 0, 1) := by decide +kernel
theorem dX8_about_27 : decode cX8_about 27 = .ok (.getfield 118, 3) := by decide +kernel
theorem dX8_about_30 : decode cX8_about 30 = .ok (.ifCond .le 5, 3) := by decide +kernel
theorem dX8_about_33 : decode cX8_about 33 = .ok (.iconst 0, 1) := by decide +kernel
theorem dX8_about_34 : decode cX8_about 34 = .ok (.ireturn, 1) := by decide +kernel
theorem dX8_about_35 : decode cX8_about 35 = .ok (.iload_n 2, 1) := by decide +kernel
theorem dX8_about_36 : decode cX8_about 36 = .ok (.ifCond .ne 12, 3) := by decide +kernel
theorem dX8_about_39 : decode cX8_about 39 = .ok (.aload_n 0, 1) := by decide +kernel
theorem dX8_about_40 : decode cX8_about 40 = .ok (.getfield 7, 3) := by decide +kernel
theorem dX8_about_43 : decode cX8_about 43 = .ok (.iload_n 1, 1) := by decide +kernel
theorem dX8_about_44 : decode cX8_about 44 = .ok (.iaload, 1) := by decide +kernel
theorem dX8_about_45 : decode cX8_about 45 = .ok (.goto 35, 3) := by decide +kernel
theorem dX8_about_48 : decode cX8_about 48 = .ok (.iload_n 2, 1) := by decide +kernel
theorem dX8_about_49 : decode cX8_about 49 = .ok (.iconst 1, 1) := by decide +kernel
theorem dX8_about_50 : decode cX8_about 50 = .ok (.if_icmp .ne 11, 3) := by decide +kernel
theorem dX8_about_53 : decode cX8_about 53 = .ok (.aload_n 0, 1) := by decide +kernel
theorem dX8_about_54 : decode cX8_about 54 = .ok (.iload_n 1, 1) := by decide +kernel
theorem dX8_about_55 : decode cX8_about 55 = .ok (.invokevirtual 135, 3) := by decide +kernel
theorem dX8_about_58 : decode cX8_about 58 = .ok (.goto 22, 3) := by decide +kernel
theorem dX8_about_61 : decode cX8_about 61 = .ok (.iload_n 2, 1) := by decide +kernel
theorem dX8_about_62 : decode cX8_about 62 = .ok (.iconst 2, 1) := by decide +kernel
theorem dX8_about_63 : decode cX8_about 63 = .ok (.if_icmp .ne 11, 3) := by decide +kernel
theorem dX8_about_66 : decode cX8_about 66 = .ok (.aload_n 0, 1) := by decide +kernel
theorem dX8_about_67 : decode cX8_about 67 = .ok (.iload_n 1, 1) := by decide +kernel
theorem dX8_about_68 : decode cX8_about 68 = .ok (.invokevirtual 281, 3) := by decide +kernel
theorem dX8_about_71 : decode cX8_about 71 = .ok (.goto 9, 3) := by decide +kernel
theorem dX8_about_74 : decode cX8_about 74 = .ok (.aload_n 0, 1) := by decide +kernel
theorem dX8_about_75 : decode cX8_about 75 = .ok (.getfield 17, 3) := by decide +kernel
theorem dX8_about_78 : decode cX8_about 78 = .ok (.iload_n 1, 1) := by decide +kernel
theorem dX8_about_79 : decode cX8_about 79 = .ok (.iaload, 1) := by decide +kernel
theorem dX8_about_80 : decode cX8_about 80 = .ok (.ireturn, 1) := by decide +kernel
set_option maxRecDepth 20000 in
theorem ggX8_field_X8_isClass : GoodIn wsX8_field wsX8_isClass := goodIn_r _ [11, 12, 13, 14, 15, 16, 17, 18, 19, 20, 21, 22, 23, 24, 25, 26, 27, 28, 29, 30, 31, 32, 33, 34, 35, 36, 37, 38, 39, 40, 41, 42, 43, 44, 45, 46, 47, 48, 49, 50, 51, 52, 53, 54, 55, 56] (by decide +kernel) (by decide +kernel)
set_option maxRecDepth 20000 in
theorem gX8_field_X8_isClass : GoodIn wsX8_field (wsV RX8 128 RX8 yX8_isClass wsX8_isClass) := goodIn_app (goodIn_of _ (by decide +kernel)) ggX8_field_X8_isClass
theorem dX8_field_0 : decode cX8_field 0 = .ok (.aload_n 0, 1) := by decide +kernel
theorem dX8_field_1 : decode cX8_field 1 = .ok (.aload_n 0, 1) := by decide +kernel
theorem dX8_field_2 : decode cX8_field 2 = .ok (.iload_n 1, 1) := by decide +kernel
theorem dX8_field_3 : decode cX8_field 3 = .ok (.invokevirtual 128, 3) := by decide +kernel
theorem dX8_field_6 : decode cX8_field 6 = .ok (.ifCond .eq 12, 3) := by decide +kernel
theorem dX8_field_9 : decode cX8_field 9 = .ok (.iload_n 3, 1) := by decide +kernel
theorem dX8_field_10 : decode cX8_field 10 = .ok (.ifCond .lt 8, 3) := by decide +kernel
theorem dX8_field_13 : decode cX8_field 13 = .ok (.iload_n 3, 1) := by decide +kernel
theorem dX8_field_14 : decode cX8_field 14 = .ok (.iconst 3, 1) := by decide +kernel
theorem dX8_field_15 : decode cX8_field 15 = .ok (.if_icmp .le 7, 3) := by decide +kernel
theorem dX8_field_18 : decode cX8_field 18 = .ok (.iconst 1, 1) := by decide +kernel
theorem dX8_field_19 : decode cX8_field 19 = .ok (.goto 22, 3) := by decide +kernel
theorem dX8_field_22 : decode cX8_field 22 = .ok (.iload_n 2, 1) := by decide +kernel
theorem dX8_field_23 : decode cX8_field 23 = .ok (.ifCond .lt 13, 3) := by decide +kernel
theorem dX8_field_26 : decode cX8_field 26 = .ok (.iload_n 2, 1) := by decide +kernel
theorem dX8_field_27 : decode cX8_field 27 = .ok (.aload_n 0, 1) := by decide +kernel
theorem dX8_field_28 : decode cX8_field 28 = .ok (.getfield 17, 3) := by decide +kernel
theorem dX8_field_31 : decode cX8_field 31 = .ok (.iload_n 1, 1) := by decide +kernel
theorem dX8_field_32 : decode cX8_field 32 = .ok (.iaload, 1) := by decide +kernel
theorem dX8_field_33 : decode cX8_field 33 = .ok (.if_icmp .lt 7, 3) := by decide +kernel
theorem dX8_field_36 : decode cX8_field 36 = .ok (.iconst 2, 1) := by decide +kernel
theorem dX8_field_37 : decode cX8_field 37 = .ok (.goto 4, 3) := by decide +kernel
theorem dX8_field_40 : decode cX8_field 40 = .ok (.iconst 0, 1) := by decide +kernel
theorem dX8_field_41 : decode cX8_field 41 = .ok (.putfield 118, 3) := by decide +kernel
theorem dX8_field_44 : decode cX8_field 44 = .ok (.aload_n 0, 1) := by decide +kernel
theorem dX8_field_45 : decode cX8_field 45 = .ok (.getfield 118, 3) := by decide +kernel
theorem dX8_field_48 : decode cX8_field 48 = .ok (.ifCond .le 5, 3) := by decide +kernel
theorem dX8_field_51 : decode cX8_field 51 = .ok (.iconst 0, 1) := by decide +kernel
theorem dX8_field_52 : decode cX8_field 52 = .ok (.ireturn, 1) := by decide +kernel
theorem dX8_field_53 : decode cX8_field 53 = .ok (.bipush 6, 2) := by decide +kernel
theorem dX8_field_55 : decode cX8_field 55 = .ok (.iload_n 1, 1) := by decide +kernel
theorem dX8_field_56 : decode cX8_field 56 = .ok (.imul, 1) := by decide +kernel
theorem dX8_field_57 : decode cX8_field 57 = .ok (.iload_n 2, 1) := by decide +kernel
theorem dX8_field_58 : decode cX8_field 58 = .ok (.iadd, 1) := by decide +kernel
theorem dX8_field_59 : decode cX8_field 59 = .ok (.istore 4, 2) := by decide +kernel
theorem dX8_field_61 : decode cX8_field 61 = .ok (.iload_n 3, 1) := by decide +kernel
theorem dX8_field_62 : decode cX8_field 62 = .ok (.ifCond .ne 13, 3) := by decide +kernel
theorem dX8_field_65 : decode cX8_field 65 = .ok (.aload_n 0, 1) := by decide +kernel
theorem dX8_field_66 : decode cX8_field 66 = .ok (.getfield 20, 3) := by decide +kernel
theorem dX8_field_69 : decode cX8_field 69 = .ok (.iload 4, 2) := by decide +kernel
theorem dX8_field_71 : decode cX8_field 71 = .ok (.iaload, 1) := by decide +kernel
theorem dX8_field_72 : decode cX8_field 72 = .ok (.goto 40, 3) := by decide +kernel
theorem dX8_field_75 : decode cX8_field 75 = .ok (.iload_n 3, 1) := by decide +kernel
theorem dX8_field_76 : decode cX8_field 76 = .ok (.iconst 1, 1) := by decide +kernel
theorem dX8_field_77 : decode cX8_field 77 = .ok (.if_icmp .ne 13, 3) := by decide +kernel
theorem dX8_field_80 : decode cX8_field 80 = .ok (.aload_n 0, 1) := by decide +kernel
theorem dX8_field_81 : decode cX8_field 81 = .ok (.getfield 23, 3) := by decide +kernel
theorem dX8_field_84 : decode cX8_field 84 = .ok (.iload 4, 2) := by decide +kernel
theorem dX8_field_86 : decode cX8_field 86 = .ok (.iaload, 1) := by decide +kernel
theorem dX8_field_87 : decode cX8_field 87 = .ok (.goto 25, 3) := by decide +kernel
theorem dX8_field_90 : decode cX8_field 90 = .ok (.iload_n 3, 1) := by decide +kernel
theorem dX8_field_91 : decode cX8_field 91 = .ok (.iconst 2, 1) := by decide +kernel
theorem dX8_field_92 : decode cX8_field 92 = .ok (.if_icmp .ne 13, 3) := by decide +kernel
theorem dX8_field_95 : decode cX8_field 95 = .ok (.aload_n 0, 1) := by decide +kernel
theorem dX8_field_96 : decode cX8_field 96 = .ok (.getfield 26, 3) := by decide +kernel
theorem dX8_field_99 : decode cX8_field 99 = .ok (.iload 4, 2) := by decide +kernel
theorem dX8_field_101 : decode cX8_field 101 = .ok (.iaload, 1) := by decide +kernel
theorem dX8_field_102 : decode cX8_field 102 = .ok (.goto 10, 3) := by decide +kernel
theorem dX8_field_105 : decode cX8_field 105 = .ok (.aload_n 0, 1) := by decide +kernel
theorem dX8_field_106 : decode cX8_field 106 = .ok (.getfield 29, 3) := by decide +kernel
theorem dX8_field_109 : decode cX8_field 109 = .ok (.iload 4, 2) := by decide +kernel
theorem dX8_field_111 : decode cX8_field 111 = .ok (.iaload, 1) := by decide +kernel
theorem dX8_field_112 : decode cX8_field 112 = .ok (.ireturn, 1) := by decide +kernel
theorem dX8_fault_0 : decode cX8_fault 0 = .ok (.aload_n 0, 1) := by decide +kernel
theorem dX8_fault_1 : decode cX8_fault 1 = .ok (.iconst 0, 1) := by decide +kernel
theorem dX8_fault_2 : decode cX8_fault 2 = .ok (.putfield 118, 3) := by decide +kernel
theorem dX8_fault_5 : decode cX8_fault 5 = .ok (.aload_n 0, 1) := by decide +kernel
theorem dX8_fault_6 : decode cX8_fault 6 = .ok (.getfield 77, 3) := by decide +kernel
theorem dX8_fault_9 : decode cX8_fault 9 = .ok (.ireturn, 1) := by decide +kernel
theorem dJ9_abs_067f4_0 : decode cJ9_abs_067f4 0 = .ok (.lload_n 0, 1) := by decide +kernel
theorem dJ9_abs_067f4_1 : decode cJ9_abs_067f4 1 = .ok (.lconst 0, 1) := by decide +kernel
theorem dJ9_abs_067f4_2 : decode cJ9_abs_067f4 2 = .ok (.lcmp, 1) := by decide +kernel
theorem dJ9_abs_067f4_3 : decode cJ9_abs_067f4 3 = .ok (.ifCond .ge 8, 3) := by decide +kernel
theorem dJ9_abs_067f4_6 : decode cJ9_abs_067f4 6 = .ok (.lload_n 0, 1) := by decide +kernel
theorem dJ9_abs_067f4_7 : decode cJ9_abs_067f4 7 = .ok (.lneg, 1) := by decide +kernel
theorem dJ9_abs_067f4_8 : decode cJ9_abs_067f4 8 = .ok (.goto 4, 3) := by decide +kernel
theorem dJ9_abs_067f4_11 : decode cJ9_abs_067f4 11 = .ok (.lload_n 0, 1) := by decide +kernel
theorem dJ9_abs_067f4_12 : decode cJ9_abs_067f4 12 = .ok (.lreturn, 1) := by decide +kernel
theorem dJ9_max_7cf53_0 : decode cJ9_max_7cf53 0 = .ok (.iload_n 0, 1) := by decide +kernel
theorem dJ9_max_7cf53_1 : decode cJ9_max_7cf53 1 = .ok (.iload_n 1, 1) := by decide +kernel
theorem dJ9_max_7cf53_2 : decode cJ9_max_7cf53 2 = .ok (.if_icmp .lt 7, 3) := by decide +kernel
theorem dJ9_max_7cf53_5 : decode cJ9_max_7cf53 5 = .ok (.iload_n 0, 1) := by decide +kernel
theorem dJ9_max_7cf53_6 : decode cJ9_max_7cf53 6 = .ok (.goto 4, 3) := by decide +kernel
theorem dJ9_max_7cf53_9 : decode cJ9_max_7cf53 9 = .ok (.iload_n 1, 1) := by decide +kernel
theorem dJ9_max_7cf53_10 : decode cJ9_max_7cf53 10 = .ok (.ireturn, 1) := by decide +kernel
theorem dJ9_max_f86c9_0 : decode cJ9_max_f86c9 0 = .ok (.lload_n 0, 1) := by decide +kernel
theorem dJ9_max_f86c9_1 : decode cJ9_max_f86c9 1 = .ok (.lload_n 2, 1) := by decide +kernel
theorem dJ9_max_f86c9_2 : decode cJ9_max_f86c9 2 = .ok (.lcmp, 1) := by decide +kernel
theorem dJ9_max_f86c9_3 : decode cJ9_max_f86c9 3 = .ok (.ifCond .lt 7, 3) := by decide +kernel
theorem dJ9_max_f86c9_6 : decode cJ9_max_f86c9 6 = .ok (.lload_n 0, 1) := by decide +kernel
theorem dJ9_max_f86c9_7 : decode cJ9_max_f86c9 7 = .ok (.goto 4, 3) := by decide +kernel
theorem dJ9_max_f86c9_10 : decode cJ9_max_f86c9 10 = .ok (.lload_n 2, 1) := by decide +kernel
theorem dJ9_max_f86c9_11 : decode cJ9_max_f86c9 11 = .ok (.lreturn, 1) := by decide +kernel
theorem dJ9_min_7cf53_0 : decode cJ9_min_7cf53 0 = .ok (.iload_n 0, 1) := by decide +kernel
theorem dJ9_min_7cf53_1 : decode cJ9_min_7cf53 1 = .ok (.iload_n 1, 1) := by decide +kernel
theorem dJ9_min_7cf53_2 : decode cJ9_min_7cf53 2 = .ok (.if_icmp .gt 7, 3) := by decide +kernel
theorem dJ9_min_7cf53_5 : decode cJ9_min_7cf53 5 = .ok (.iload_n 0, 1) := by decide +kernel
theorem dJ9_min_7cf53_6 : decode cJ9_min_7cf53 6 = .ok (.goto 4, 3) := by decide +kernel
theorem dJ9_min_7cf53_9 : decode cJ9_min_7cf53 9 = .ok (.iload_n 1, 1) := by decide +kernel
theorem dJ9_min_7cf53_10 : decode cJ9_min_7cf53 10 = .ok (.ireturn, 1) := by decide +kernel
theorem dJ9_min_f86c9_0 : decode cJ9_min_f86c9 0 = .ok (.lload_n 0, 1) := by decide +kernel
theorem dJ9_min_f86c9_1 : decode cJ9_min_f86c9 1 = .ok (.lload_n 2, 1) := by decide +kernel
theorem dJ9_min_f86c9_2 : decode cJ9_min_f86c9 2 = .ok (.lcmp, 1) := by decide +kernel
theorem dJ9_min_f86c9_3 : decode cJ9_min_f86c9 3 = .ok (.ifCond .gt 7, 3) := by decide +kernel
theorem dJ9_min_f86c9_6 : decode cJ9_min_f86c9 6 = .ok (.lload_n 0, 1) := by decide +kernel
theorem dJ9_min_f86c9_7 : decode cJ9_min_f86c9 7 = .ok (.goto 4, 3) := by decide +kernel
theorem dJ9_min_f86c9_10 : decode cJ9_min_f86c9 10 = .ok (.lload_n 2, 1) := by decide +kernel
theorem dJ9_min_f86c9_11 : decode cJ9_min_f86c9 11 = .ok (.lreturn, 1) := by decide +kernel
theorem dL_newClass_0 : decode cL_newClass 0 = .ok (.aload_n 1, 1) := by decide +kernel
theorem dL_newClass_1 : decode cL_newClass 1 = .ok (.iconst 0, 1) := by decide +kernel
theorem dL_newClass_2 : decode cL_newClass 2 = .ok (.aload_n 0, 1) := by decide +kernel
theorem dL_newClass_3 : decode cL_newClass 3 = .ok (.invokevirtual 7, 3) := by decide +kernel
theorem dL_newClass_6 : decode cL_newClass 6 = .ok (.i2l, 1) := by decide +kernel
theorem dL_newClass_7 : decode cL_newClass 7 = .ok (.lastore, 1) := by decide +kernel
theorem dL_newClass_8 : decode cL_newClass 8 = .ok (.goto 6, 3) := by decide +kernel
theorem dL_newClass_11 : decode cL_newClass 11 = .ok (.astore_n 2, 1) := by decide +kernel
theorem dL_newClass_12 : decode cL_newClass 12 = .ok (.iconst 1, 1) := by decide +kernel
theorem dL_newClass_13 : decode cL_newClass 13 = .ok (.ireturn, 1) := by decide +kernel
theorem dL_newClass_14 : decode cL_newClass 14 = .ok (.iconst 0, 1) := by decide +kernel
theorem dL_newClass_15 : decode cL_newClass 15 = .ok (.ireturn, 1) := by decide +kernel
theorem dL_make_0 : decode cL_make 0 = .ok (.aload_n 0, 1) := by decide +kernel
theorem dL_make_1 : decode cL_make 1 = .ok (.iload_n 1, 1) := by decide +kernel
theorem dL_make_2 : decode cL_make 2 = .ok (.iload_n 2, 1) := by decide +kernel
theorem dL_make_3 : decode cL_make 3 = .ok (.invokevirtual 15, 3) := by decide +kernel
theorem dL_make_6 : decode cL_make 6 = .ok (.goto 9, 3) := by decide +kernel
theorem dL_make_9 : decode cL_make 9 = .ok (.astore_n 3, 1) := by decide +kernel
theorem dL_make_10 : decode cL_make 10 = .ok (.iconst 1, 1) := by decide +kernel
theorem dL_make_11 : decode cL_make 11 = .ok (.ireturn, 1) := by decide +kernel
theorem dL_make_12 : decode cL_make 12 = .ok (.astore_n 3, 1) := by decide +kernel
theorem dL_make_13 : decode cL_make 13 = .ok (.iconst 2, 1) := by decide +kernel
theorem dL_make_14 : decode cL_make 14 = .ok (.ireturn, 1) := by decide +kernel
theorem dL_make_15 : decode cL_make 15 = .ok (.iconst 0, 1) := by decide +kernel
theorem dL_make_16 : decode cL_make 16 = .ok (.ireturn, 1) := by decide +kernel
theorem dL_get_0 : decode cL_get 0 = .ok (.aload_n 3, 1) := by decide +kernel
theorem dL_get_1 : decode cL_get 1 = .ok (.iconst 0, 1) := by decide +kernel
theorem dL_get_2 : decode cL_get 2 = .ok (.aload_n 0, 1) := by decide +kernel
theorem dL_get_3 : decode cL_get 3 = .ok (.iload_n 1, 1) := by decide +kernel
theorem dL_get_4 : decode cL_get 4 = .ok (.iload_n 2, 1) := by decide +kernel
theorem dL_get_5 : decode cL_get 5 = .ok (.invokevirtual 21, 3) := by decide +kernel
theorem dL_get_8 : decode cL_get 8 = .ok (.i2l, 1) := by decide +kernel
theorem dL_get_9 : decode cL_get 9 = .ok (.lastore, 1) := by decide +kernel
theorem dL_get_10 : decode cL_get 10 = .ok (.goto 11, 3) := by decide +kernel
theorem dL_get_13 : decode cL_get 13 = .ok (.astore 4, 2) := by decide +kernel
theorem dL_get_15 : decode cL_get 15 = .ok (.iconst 1, 1) := by decide +kernel
theorem dL_get_16 : decode cL_get 16 = .ok (.ireturn, 1) := by decide +kernel
theorem dL_get_17 : decode cL_get 17 = .ok (.astore 4, 2) := by decide +kernel
theorem dL_get_19 : decode cL_get 19 = .ok (.iconst 2, 1) := by decide +kernel
theorem dL_get_20 : decode cL_get 20 = .ok (.ireturn, 1) := by decide +kernel
theorem dL_get_21 : decode cL_get 21 = .ok (.iconst 0, 1) := by decide +kernel
theorem dL_get_22 : decode cL_get 22 = .ok (.ireturn, 1) := by decide +kernel
theorem dL_set_0 : decode cL_set 0 = .ok (.aload_n 0, 1) := by decide +kernel
theorem dL_set_1 : decode cL_set 1 = .ok (.iload_n 1, 1) := by decide +kernel
theorem dL_set_2 : decode cL_set 2 = .ok (.iload_n 2, 1) := by decide +kernel
theorem dL_set_3 : decode cL_set 3 = .ok (.iload_n 3, 1) := by decide +kernel
theorem dL_set_4 : decode cL_set 4 = .ok (.invokevirtual 27, 3) := by decide +kernel
theorem dL_set_7 : decode cL_set 7 = .ok (.goto 15, 3) := by decide +kernel
theorem dL_set_10 : decode cL_set 10 = .ok (.astore 4, 2) := by decide +kernel
theorem dL_set_12 : decode cL_set 12 = .ok (.iconst 1, 1) := by decide +kernel
theorem dL_set_13 : decode cL_set 13 = .ok (.ireturn, 1) := by decide +kernel
theorem dL_set_14 : decode cL_set 14 = .ok (.astore 4, 2) := by decide +kernel
theorem dL_set_16 : decode cL_set 16 = .ok (.iconst 2, 1) := by decide +kernel
theorem dL_set_17 : decode cL_set 17 = .ok (.ireturn, 1) := by decide +kernel
theorem dL_set_18 : decode cL_set 18 = .ok (.astore 4, 2) := by decide +kernel
theorem dL_set_20 : decode cL_set 20 = .ok (.iconst 3, 1) := by decide +kernel
theorem dL_set_21 : decode cL_set 21 = .ok (.ireturn, 1) := by decide +kernel
theorem dL_set_22 : decode cL_set 22 = .ok (.iconst 0, 1) := by decide +kernel
theorem dL_set_23 : decode cL_set 23 = .ok (.ireturn, 1) := by decide +kernel
theorem dL_link_0 : decode cL_link 0 = .ok (.aload_n 0, 1) := by decide +kernel
theorem dL_link_1 : decode cL_link 1 = .ok (.iload_n 1, 1) := by decide +kernel
theorem dL_link_2 : decode cL_link 2 = .ok (.iload_n 2, 1) := by decide +kernel
theorem dL_link_3 : decode cL_link 3 = .ok (.iload_n 3, 1) := by decide +kernel
theorem dL_link_4 : decode cL_link 4 = .ok (.invokevirtual 31, 3) := by decide +kernel
theorem dL_link_7 : decode cL_link 7 = .ok (.goto 15, 3) := by decide +kernel
theorem dL_link_10 : decode cL_link 10 = .ok (.astore 4, 2) := by decide +kernel
theorem dL_link_12 : decode cL_link 12 = .ok (.iconst 1, 1) := by decide +kernel
theorem dL_link_13 : decode cL_link 13 = .ok (.ireturn, 1) := by decide +kernel
theorem dL_link_14 : decode cL_link 14 = .ok (.astore 4, 2) := by decide +kernel
theorem dL_link_16 : decode cL_link 16 = .ok (.iconst 2, 1) := by decide +kernel
theorem dL_link_17 : decode cL_link 17 = .ok (.ireturn, 1) := by decide +kernel
theorem dL_link_18 : decode cL_link 18 = .ok (.astore 4, 2) := by decide +kernel
theorem dL_link_20 : decode cL_link 20 = .ok (.iconst 3, 1) := by decide +kernel
theorem dL_link_21 : decode cL_link 21 = .ok (.ireturn, 1) := by decide +kernel
theorem dL_link_22 : decode cL_link 22 = .ok (.iconst 0, 1) := by decide +kernel
theorem dL_link_23 : decode cL_link 23 = .ok (.ireturn, 1) := by decide +kernel
theorem dL_follow_0 : decode cL_follow 0 = .ok (.aload_n 0, 1) := by decide +kernel
theorem dL_follow_1 : decode cL_follow 1 = .ok (.iload_n 1, 1) := by decide +kernel
theorem dL_follow_2 : decode cL_follow 2 = .ok (.iload_n 2, 1) := by decide +kernel
theorem dL_follow_3 : decode cL_follow 3 = .ok (.iload_n 3, 1) := by decide +kernel
theorem dL_follow_4 : decode cL_follow 4 = .ok (.invokevirtual 34, 3) := by decide +kernel
theorem dL_follow_7 : decode cL_follow 7 = .ok (.goto 11, 3) := by decide +kernel
theorem dL_follow_10 : decode cL_follow 10 = .ok (.astore 4, 2) := by decide +kernel
theorem dL_follow_12 : decode cL_follow 12 = .ok (.iconst 1, 1) := by decide +kernel
theorem dL_follow_13 : decode cL_follow 13 = .ok (.ireturn, 1) := by decide +kernel
theorem dL_follow_14 : decode cL_follow 14 = .ok (.astore 4, 2) := by decide +kernel
theorem dL_follow_16 : decode cL_follow 16 = .ok (.iconst 2, 1) := by decide +kernel
theorem dL_follow_17 : decode cL_follow 17 = .ok (.ireturn, 1) := by decide +kernel
theorem dL_follow_18 : decode cL_follow 18 = .ok (.iconst 0, 1) := by decide +kernel
theorem dL_follow_19 : decode cL_follow 19 = .ok (.ireturn, 1) := by decide +kernel
theorem dL_drop_0 : decode cL_drop 0 = .ok (.aload_n 2, 1) := by decide +kernel
theorem dL_drop_1 : decode cL_drop 1 = .ok (.iconst 0, 1) := by decide +kernel
theorem dL_drop_2 : decode cL_drop 2 = .ok (.aload_n 0, 1) := by decide +kernel
theorem dL_drop_3 : decode cL_drop 3 = .ok (.iload_n 1, 1) := by decide +kernel
theorem dL_drop_4 : decode cL_drop 4 = .ok (.invokevirtual 37, 3) := by decide +kernel
theorem dL_drop_7 : decode cL_drop 7 = .ok (.ifCond .eq 7, 3) := by decide +kernel
theorem dL_drop_10 : decode cL_drop 10 = .ok (.lconst 1, 1) := by decide +kernel
theorem dL_drop_11 : decode cL_drop 11 = .ok (.goto 4, 3) := by decide +kernel
theorem dL_drop_14 : decode cL_drop 14 = .ok (.lconst 0, 1) := by decide +kernel
theorem dL_drop_15 : decode cL_drop 15 = .ok (.lastore, 1) := by decide +kernel
theorem dL_drop_16 : decode cL_drop 16 = .ok (.goto 6, 3) := by decide +kernel
theorem dL_drop_19 : decode cL_drop 19 = .ok (.astore_n 3, 1) := by decide +kernel
theorem dL_drop_20 : decode cL_drop 20 = .ok (.iconst 1, 1) := by decide +kernel
theorem dL_drop_21 : decode cL_drop 21 = .ok (.ireturn, 1) := by decide +kernel
theorem dL_drop_22 : decode cL_drop 22 = .ok (.iconst 0, 1) := by decide +kernel
theorem dL_drop_23 : decode cL_drop 23 = .ok (.ireturn, 1) := by decide +kernel
theorem dL_same_0 : decode cL_same 0 = .ok (.aload_n 3, 1) := by decide +kernel
theorem dL_same_1 : decode cL_same 1 = .ok (.iconst 0, 1) := by decide +kernel
theorem dL_same_2 : decode cL_same 2 = .ok (.aload_n 0, 1) := by decide +kernel
theorem dL_same_3 : decode cL_same 3 = .ok (.iload_n 1, 1) := by decide +kernel
theorem dL_same_4 : decode cL_same 4 = .ok (.iload_n 2, 1) := by decide +kernel
theorem dL_same_5 : decode cL_same 5 = .ok (.invokevirtual 41, 3) := by decide +kernel
theorem dL_same_8 : decode cL_same 8 = .ok (.ifCond .eq 7, 3) := by decide +kernel
theorem dL_same_11 : decode cL_same 11 = .ok (.lconst 1, 1) := by decide +kernel
theorem dL_same_12 : decode cL_same 12 = .ok (.goto 4, 3) := by decide +kernel
theorem dL_same_15 : decode cL_same 15 = .ok (.lconst 0, 1) := by decide +kernel
theorem dL_same_16 : decode cL_same 16 = .ok (.lastore, 1) := by decide +kernel
theorem dL_same_17 : decode cL_same 17 = .ok (.goto 7, 3) := by decide +kernel
theorem dL_same_20 : decode cL_same 20 = .ok (.astore 4, 2) := by decide +kernel
theorem dL_same_22 : decode cL_same 22 = .ok (.iconst 1, 1) := by decide +kernel
theorem dL_same_23 : decode cL_same 23 = .ok (.ireturn, 1) := by decide +kernel
theorem dL_same_24 : decode cL_same 24 = .ok (.iconst 0, 1) := by decide +kernel
theorem dL_same_25 : decode cL_same 25 = .ok (.ireturn, 1) := by decide +kernel
theorem dL_word_0 : decode cL_word 0 = .ok (.aload_n 2, 1) := by decide +kernel
theorem dL_word_1 : decode cL_word 1 = .ok (.iconst 0, 1) := by decide +kernel
theorem dL_word_2 : decode cL_word 2 = .ok (.aload_n 0, 1) := by decide +kernel
theorem dL_word_3 : decode cL_word 3 = .ok (.iload_n 1, 1) := by decide +kernel
theorem dL_word_4 : decode cL_word 4 = .ok (.invokevirtual 45, 3) := by decide +kernel
theorem dL_word_7 : decode cL_word 7 = .ok (.i2l, 1) := by decide +kernel
theorem dL_word_8 : decode cL_word 8 = .ok (.lastore, 1) := by decide +kernel
theorem dL_word_9 : decode cL_word 9 = .ok (.goto 9, 3) := by decide +kernel
theorem dL_word_12 : decode cL_word 12 = .ok (.astore_n 3, 1) := by decide +kernel
theorem dL_word_13 : decode cL_word 13 = .ok (.iconst 1, 1) := by decide +kernel
theorem dL_word_14 : decode cL_word 14 = .ok (.ireturn, 1) := by decide +kernel
theorem dL_word_15 : decode cL_word 15 = .ok (.astore_n 3, 1) := by decide +kernel
theorem dL_word_16 : decode cL_word 16 = .ok (.iconst 2, 1) := by decide +kernel
theorem dL_word_17 : decode cL_word 17 = .ok (.ireturn, 1) := by decide +kernel
theorem dL_word_18 : decode cL_word 18 = .ok (.iconst 0, 1) := by decide +kernel
theorem dL_word_19 : decode cL_word 19 = .ok (.ireturn, 1) := by decide +kernel
theorem dL_step_0 : decode cL_step 0 = .ok (.aload 6, 2) := by decide +kernel
theorem dL_step_2 : decode cL_step 2 = .ok (.iconst 0, 1) := by decide +kernel
theorem dL_step_3 : decode cL_step 3 = .ok (.aload_n 0, 1) := by decide +kernel
theorem dL_step_4 : decode cL_step 4 = .ok (.iload_n 1, 1) := by decide +kernel
theorem dL_step_5 : decode cL_step 5 = .ok (.iload_n 2, 1) := by decide +kernel
theorem dL_step_6 : decode cL_step 6 = .ok (.iload_n 3, 1) := by decide +kernel
theorem dL_step_7 : decode cL_step 7 = .ok (.iload 4, 2) := by decide +kernel
theorem dL_step_9 : decode cL_step 9 = .ok (.iload 5, 2) := by decide +kernel
theorem dL_step_11 : decode cL_step 11 = .ok (.invokevirtual 49, 3) := by decide +kernel
theorem dL_step_14 : decode cL_step 14 = .ok (.i2l, 1) := by decide +kernel
theorem dL_step_15 : decode cL_step 15 = .ok (.lastore, 1) := by decide +kernel
theorem dL_step_16 : decode cL_step 16 = .ok (.goto 11, 3) := by decide +kernel
theorem dL_step_19 : decode cL_step 19 = .ok (.astore 7, 2) := by decide +kernel
theorem dL_step_21 : decode cL_step 21 = .ok (.iconst 1, 1) := by decide +kernel
theorem dL_step_22 : decode cL_step 22 = .ok (.ireturn, 1) := by decide +kernel
theorem dL_step_23 : decode cL_step 23 = .ok (.astore 7, 2) := by decide +kernel
theorem dL_step_25 : decode cL_step 25 = .ok (.iconst 2, 1) := by decide +kernel
theorem dL_step_26 : decode cL_step 26 = .ok (.ireturn, 1) := by decide +kernel
theorem dL_step_27 : decode cL_step 27 = .ok (.iconst 0, 1) := by decide +kernel
theorem dL_step_28 : decode cL_step 28 = .ok (.ireturn, 1) := by decide +kernel
theorem dL_change_0 : decode cL_change 0 = .ok (.aload_n 2, 1) := by decide +kernel
theorem dL_change_1 : decode cL_change 1 = .ok (.iconst 0, 1) := by decide +kernel
theorem dL_change_2 : decode cL_change 2 = .ok (.aload_n 0, 1) := by decide +kernel
theorem dL_change_3 : decode cL_change 3 = .ok (.iload_n 1, 1) := by decide +kernel
theorem dL_change_4 : decode cL_change 4 = .ok (.invokevirtual 53, 3) := by decide +kernel
theorem dL_change_7 : decode cL_change 7 = .ok (.i2l, 1) := by decide +kernel
theorem dL_change_8 : decode cL_change 8 = .ok (.lastore, 1) := by decide +kernel
theorem dL_change_9 : decode cL_change 9 = .ok (.goto 9, 3) := by decide +kernel
theorem dL_change_12 : decode cL_change 12 = .ok (.astore_n 3, 1) := by decide +kernel
theorem dL_change_13 : decode cL_change 13 = .ok (.iconst 1, 1) := by decide +kernel
theorem dL_change_14 : decode cL_change 14 = .ok (.ireturn, 1) := by decide +kernel
theorem dL_change_15 : decode cL_change 15 = .ok (.astore_n 3, 1) := by decide +kernel
theorem dL_change_16 : decode cL_change 16 = .ok (.iconst 2, 1) := by decide +kernel
theorem dL_change_17 : decode cL_change 17 = .ok (.ireturn, 1) := by decide +kernel
theorem dL_change_18 : decode cL_change 18 = .ok (.iconst 0, 1) := by decide +kernel
theorem dL_change_19 : decode cL_change 19 = .ok (.ireturn, 1) := by decide +kernel
theorem dL_takeBack_0 : decode cL_takeBack 0 = .ok (.aload_n 2, 1) := by decide +kernel
theorem dL_takeBack_1 : decode cL_takeBack 1 = .ok (.iconst 0, 1) := by decide +kernel
theorem dL_takeBack_2 : decode cL_takeBack 2 = .ok (.aload_n 0, 1) := by decide +kernel
theorem dL_takeBack_3 : decode cL_takeBack 3 = .ok (.iload_n 1, 1) := by decide +kernel
theorem dL_takeBack_4 : decode cL_takeBack 4 = .ok (.invokevirtual 56, 3) := by decide +kernel
theorem dL_takeBack_7 : decode cL_takeBack 7 = .ok (.i2l, 1) := by decide +kernel
theorem dL_takeBack_8 : decode cL_takeBack 8 = .ok (.lastore, 1) := by decide +kernel
theorem dL_takeBack_9 : decode cL_takeBack 9 = .ok (.goto 9, 3) := by decide +kernel
theorem dL_takeBack_12 : decode cL_takeBack 12 = .ok (.astore_n 3, 1) := by decide +kernel
theorem dL_takeBack_13 : decode cL_takeBack 13 = .ok (.iconst 1, 1) := by decide +kernel
theorem dL_takeBack_14 : decode cL_takeBack 14 = .ok (.ireturn, 1) := by decide +kernel
theorem dL_takeBack_15 : decode cL_takeBack 15 = .ok (.astore_n 3, 1) := by decide +kernel
theorem dL_takeBack_16 : decode cL_takeBack 16 = .ok (.iconst 2, 1) := by decide +kernel
theorem dL_takeBack_17 : decode cL_takeBack 17 = .ok (.ireturn, 1) := by decide +kernel
theorem dL_takeBack_18 : decode cL_takeBack 18 = .ok (.iconst 0, 1) := by decide +kernel
theorem dL_takeBack_19 : decode cL_takeBack 19 = .ok (.ireturn, 1) := by decide +kernel
theorem dL_versionOf_0 : decode cL_versionOf 0 = .ok (.aload_n 2, 1) := by decide +kernel
theorem dL_versionOf_1 : decode cL_versionOf 1 = .ok (.iconst 0, 1) := by decide +kernel
theorem dL_versionOf_2 : decode cL_versionOf 2 = .ok (.aload_n 0, 1) := by decide +kernel
theorem dL_versionOf_3 : decode cL_versionOf 3 = .ok (.iload_n 1, 1) := by decide +kernel
theorem dL_versionOf_4 : decode cL_versionOf 4 = .ok (.invokevirtual 59, 3) := by decide +kernel
theorem dL_versionOf_7 : decode cL_versionOf 7 = .ok (.i2l, 1) := by decide +kernel
theorem dL_versionOf_8 : decode cL_versionOf 8 = .ok (.lastore, 1) := by decide +kernel
theorem dL_versionOf_9 : decode cL_versionOf 9 = .ok (.goto 9, 3) := by decide +kernel
theorem dL_versionOf_12 : decode cL_versionOf 12 = .ok (.astore_n 3, 1) := by decide +kernel
theorem dL_versionOf_13 : decode cL_versionOf 13 = .ok (.iconst 1, 1) := by decide +kernel
theorem dL_versionOf_14 : decode cL_versionOf 14 = .ok (.ireturn, 1) := by decide +kernel
theorem dL_versionOf_15 : decode cL_versionOf 15 = .ok (.astore_n 3, 1) := by decide +kernel
theorem dL_versionOf_16 : decode cL_versionOf 16 = .ok (.iconst 2, 1) := by decide +kernel
theorem dL_versionOf_17 : decode cL_versionOf 17 = .ok (.ireturn, 1) := by decide +kernel
theorem dL_versionOf_18 : decode cL_versionOf 18 = .ok (.iconst 0, 1) := by decide +kernel
theorem dL_versionOf_19 : decode cL_versionOf 19 = .ok (.ireturn, 1) := by decide +kernel
theorem dL_touch_0 : decode cL_touch 0 = .ok (.aload_n 2, 1) := by decide +kernel
theorem dL_touch_1 : decode cL_touch 1 = .ok (.iconst 0, 1) := by decide +kernel
theorem dL_touch_2 : decode cL_touch 2 = .ok (.aload_n 0, 1) := by decide +kernel
theorem dL_touch_3 : decode cL_touch 3 = .ok (.iload_n 1, 1) := by decide +kernel
theorem dL_touch_4 : decode cL_touch 4 = .ok (.invokevirtual 62, 3) := by decide +kernel
theorem dL_touch_7 : decode cL_touch 7 = .ok (.i2l, 1) := by decide +kernel
theorem dL_touch_8 : decode cL_touch 8 = .ok (.lastore, 1) := by decide +kernel
theorem dL_touch_9 : decode cL_touch 9 = .ok (.goto 9, 3) := by decide +kernel
theorem dL_touch_12 : decode cL_touch 12 = .ok (.astore_n 3, 1) := by decide +kernel
theorem dL_touch_13 : decode cL_touch 13 = .ok (.iconst 1, 1) := by decide +kernel
theorem dL_touch_14 : decode cL_touch 14 = .ok (.ireturn, 1) := by decide +kernel
theorem dL_touch_15 : decode cL_touch 15 = .ok (.astore_n 3, 1) := by decide +kernel
theorem dL_touch_16 : decode cL_touch 16 = .ok (.iconst 2, 1) := by decide +kernel
theorem dL_touch_17 : decode cL_touch 17 = .ok (.ireturn, 1) := by decide +kernel
theorem dL_touch_18 : decode cL_touch 18 = .ok (.iconst 0, 1) := by decide +kernel
theorem dL_touch_19 : decode cL_touch 19 = .ok (.ireturn, 1) := by decide +kernel
theorem dL_sweep_0 : decode cL_sweep 0 = .ok (.aload_n 2, 1) := by decide +kernel
theorem dL_sweep_1 : decode cL_sweep 1 = .ok (.iconst 0, 1) := by decide +kernel
theorem dL_sweep_2 : decode cL_sweep 2 = .ok (.aload_n 0, 1) := by decide +kernel
theorem dL_sweep_3 : decode cL_sweep 3 = .ok (.iload_n 1, 1) := by decide +kernel
theorem dL_sweep_4 : decode cL_sweep 4 = .ok (.invokevirtual 65, 3) := by decide +kernel
theorem dL_sweep_7 : decode cL_sweep 7 = .ok (.i2l, 1) := by decide +kernel
theorem dL_sweep_8 : decode cL_sweep 8 = .ok (.lastore, 1) := by decide +kernel
theorem dL_sweep_9 : decode cL_sweep 9 = .ok (.goto 6, 3) := by decide +kernel
theorem dL_sweep_12 : decode cL_sweep 12 = .ok (.astore_n 3, 1) := by decide +kernel
theorem dL_sweep_13 : decode cL_sweep 13 = .ok (.iconst 1, 1) := by decide +kernel
theorem dL_sweep_14 : decode cL_sweep 14 = .ok (.ireturn, 1) := by decide +kernel
theorem dL_sweep_15 : decode cL_sweep 15 = .ok (.iconst 0, 1) := by decide +kernel
theorem dL_sweep_16 : decode cL_sweep 16 = .ok (.ireturn, 1) := by decide +kernel
theorem dL_about_0 : decode cL_about 0 = .ok (.aload_n 3, 1) := by decide +kernel
theorem dL_about_1 : decode cL_about 1 = .ok (.iconst 0, 1) := by decide +kernel
theorem dL_about_2 : decode cL_about 2 = .ok (.aload_n 0, 1) := by decide +kernel
theorem dL_about_3 : decode cL_about 3 = .ok (.iload_n 1, 1) := by decide +kernel
theorem dL_about_4 : decode cL_about 4 = .ok (.iload_n 2, 1) := by decide +kernel
theorem dL_about_5 : decode cL_about 5 = .ok (.invokevirtual 68, 3) := by decide +kernel
theorem dL_about_8 : decode cL_about 8 = .ok (.i2l, 1) := by decide +kernel
theorem dL_about_9 : decode cL_about 9 = .ok (.lastore, 1) := by decide +kernel
theorem dL_about_10 : decode cL_about 10 = .ok (.goto 7, 3) := by decide +kernel
theorem dL_about_13 : decode cL_about 13 = .ok (.astore 4, 2) := by decide +kernel
theorem dL_about_15 : decode cL_about 15 = .ok (.iconst 1, 1) := by decide +kernel
theorem dL_about_16 : decode cL_about 16 = .ok (.ireturn, 1) := by decide +kernel
theorem dL_about_17 : decode cL_about 17 = .ok (.iconst 0, 1) := by decide +kernel
theorem dL_about_18 : decode cL_about 18 = .ok (.ireturn, 1) := by decide +kernel
theorem dL_field_0 : decode cL_field 0 = .ok (.aload 4, 2) := by decide +kernel
theorem dL_field_2 : decode cL_field 2 = .ok (.iconst 0, 1) := by decide +kernel
theorem dL_field_3 : decode cL_field 3 = .ok (.aload_n 0, 1) := by decide +kernel
theorem dL_field_4 : decode cL_field 4 = .ok (.iload_n 1, 1) := by decide +kernel
theorem dL_field_5 : decode cL_field 5 = .ok (.iload_n 2, 1) := by decide +kernel
theorem dL_field_6 : decode cL_field 6 = .ok (.iload_n 3, 1) := by decide +kernel
theorem dL_field_7 : decode cL_field 7 = .ok (.invokevirtual 71, 3) := by decide +kernel
theorem dL_field_10 : decode cL_field 10 = .ok (.i2l, 1) := by decide +kernel
theorem dL_field_11 : decode cL_field 11 = .ok (.lastore, 1) := by decide +kernel
theorem dL_field_12 : decode cL_field 12 = .ok (.goto 11, 3) := by decide +kernel
theorem dL_field_15 : decode cL_field 15 = .ok (.astore 5, 2) := by decide +kernel
theorem dL_field_17 : decode cL_field 17 = .ok (.iconst 1, 1) := by decide +kernel
theorem dL_field_18 : decode cL_field 18 = .ok (.ireturn, 1) := by decide +kernel
theorem dL_field_19 : decode cL_field 19 = .ok (.astore 5, 2) := by decide +kernel
theorem dL_field_21 : decode cL_field 21 = .ok (.iconst 2, 1) := by decide +kernel
theorem dL_field_22 : decode cL_field 22 = .ok (.ireturn, 1) := by decide +kernel
theorem dL_field_23 : decode cL_field 23 = .ok (.iconst 0, 1) := by decide +kernel
theorem dL_field_24 : decode cL_field 24 = .ok (.ireturn, 1) := by decide +kernel
theorem dL_law_0 : decode cL_law 0 = .ok (.new 8, 3) := by decide +kernel
theorem dL_law_3 : decode cL_law 3 = .ok (.dup, 1) := by decide +kernel
theorem dL_law_4 : decode cL_law 4 = .ok (.invokespecial 77, 3) := by decide +kernel
theorem dL_law_7 : decode cL_law 7 = .ok (.astore_n 1, 1) := by decide +kernel
theorem dL_law_8 : decode cL_law 8 = .ok (.new 78, 3) := by decide +kernel
theorem dL_law_11 : decode cL_law 11 = .ok (.dup, 1) := by decide +kernel
theorem dL_law_12 : decode cL_law 12 = .ok (.invokespecial 80, 3) := by decide +kernel
theorem dL_law_15 : decode cL_law 15 = .ok (.astore_n 2, 1) := by decide +kernel
theorem dL_law_16 : decode cL_law 16 = .ok (.iconst 1, 1) := by decide +kernel
theorem dL_law_17 : decode cL_law 17 = .ok (.newarray .long, 2) := by decide +kernel
theorem dL_law_19 : decode cL_law 19 = .ok (.astore_n 3, 1) := by decide +kernel
theorem dL_law_20 : decode cL_law 20 = .ok (.iconst 0, 1) := by decide +kernel
theorem dL_law_21 : decode cL_law 21 = .ok (.istore 4, 2) := by decide +kernel
theorem dL_law_23 : decode cL_law 23 = .ok (.iload 4, 2) := by decide +kernel
theorem dL_law_25 : decode cL_law 25 = .ok (.aload_n 0, 1) := by decide +kernel
theorem dL_law_26 : decode cL_law 26 = .ok (.arraylength, 1) := by decide +kernel
theorem dL_law_27 : decode cL_law 27 = .ok (.bipush 6, 2) := by decide +kernel
theorem dL_law_29 : decode cL_law 29 = .ok (.isub, 1) := by decide +kernel
theorem dL_law_30 : decode cL_law 30 = .ok (.if_icmp .gt 1200, 3) := by decide +kernel
theorem dL_law_33 : decode cL_law 33 = .ok (.aload_n 0, 1) := by decide +kernel
theorem dL_law_34 : decode cL_law 34 = .ok (.iload 4, 2) := by decide +kernel
theorem dL_law_36 : decode cL_law 36 = .ok (.iaload, 1) := by decide +kernel
theorem dL_law_37 : decode cL_law 37 = .ok (.bipush 31, 2) := by decide +kernel
theorem dL_law_39 : decode cL_law 39 = .ok (.iand, 1) := by decide +kernel
theorem dL_law_40 : decode cL_law 40 = .ok (.tableswitch 1184 0 18 #[92, 136, 184, 252, 312, 372, 432, 495, 570, 626, 730, 786, 842, 898, 954, 1010, 1023, 1091, 1171], 92) := by decide +kernel
theorem dL_law_132 : decode cL_law 132 = .ok (.aload_n 1, 1) := by decide +kernel
theorem dL_law_133 : decode cL_law 133 = .ok (.aload_n 3, 1) := by decide +kernel
theorem dL_law_134 : decode cL_law 134 = .ok (.invokestatic 81, 3) := by decide +kernel
theorem dL_law_137 : decode cL_law 137 = .ok (.istore 5, 2) := by decide +kernel
theorem dL_law_139 : decode cL_law 139 = .ok (.aload_n 2, 1) := by decide +kernel
theorem dL_law_140 : decode cL_law 140 = .ok (.invokevirtual 86, 3) := by decide +kernel
theorem dL_law_143 : decode cL_law 143 = .ok (.istore 6, 2) := by decide +kernel
theorem dL_law_145 : decode cL_law 145 = .ok (.aload_n 2, 1) := by decide +kernel
theorem dL_law_146 : decode cL_law 146 = .ok (.invokevirtual 87, 3) := by decide +kernel
theorem dL_law_149 : decode cL_law 149 = .ok (.iload 5, 2) := by decide +kernel
theorem dL_law_151 : decode cL_law 151 = .ok (.if_icmp .eq 5, 3) := by decide +kernel
theorem dL_law_154 : decode cL_law 154 = .ok (.iconst 0, 1) := by decide +kernel
theorem dL_law_155 : decode cL_law 155 = .ok (.ireturn, 1) := by decide +kernel
theorem dL_law_156 : decode cL_law 156 = .ok (.iload 5, 2) := by decide +kernel
theorem dL_law_158 : decode cL_law 158 = .ok (.ifCond .ne 15, 3) := by decide +kernel
theorem dL_law_161 : decode cL_law 161 = .ok (.aload_n 3, 1) := by decide +kernel
theorem dL_law_162 : decode cL_law 162 = .ok (.iconst 0, 1) := by decide +kernel
theorem dL_law_163 : decode cL_law 163 = .ok (.laload, 1) := by decide +kernel
theorem dL_law_164 : decode cL_law 164 = .ok (.iload 6, 2) := by decide +kernel
theorem dL_law_166 : decode cL_law 166 = .ok (.i2l, 1) := by decide +kernel
theorem dL_law_167 : decode cL_law 167 = .ok (.lcmp, 1) := by decide +kernel
theorem dL_law_168 : decode cL_law 168 = .ok (.ifCond .eq 5, 3) := by decide +kernel
theorem dL_law_171 : decode cL_law 171 = .ok (.iconst 0, 1) := by decide +kernel
theorem dL_law_172 : decode cL_law 172 = .ok (.ireturn, 1) := by decide +kernel
theorem dL_law_173 : decode cL_law 173 = .ok (.goto 1051, 3) := by decide +kernel
theorem dL_law_176 : decode cL_law 176 = .ok (.aload_n 1, 1) := by decide +kernel
theorem dL_law_177 : decode cL_law 177 = .ok (.aload_n 0, 1) := by decide +kernel
theorem dL_law_178 : decode cL_law 178 = .ok (.iload 4, 2) := by decide +kernel
theorem dL_law_180 : decode cL_law 180 = .ok (.iconst 1, 1) := by decide +kernel
theorem dL_law_181 : decode cL_law 181 = .ok (.iadd, 1) := by decide +kernel
theorem dL_law_182 : decode cL_law 182 = .ok (.iaload, 1) := by decide +kernel
theorem dL_law_183 : decode cL_law 183 = .ok (.aload_n 0, 1) := by decide +kernel
theorem dL_law_184 : decode cL_law 184 = .ok (.iload 4, 2) := by decide +kernel
theorem dL_law_186 : decode cL_law 186 = .ok (.iconst 2, 1) := by decide +kernel
theorem dL_law_187 : decode cL_law 187 = .ok (.iadd, 1) := by decide +kernel
theorem dL_law_188 : decode cL_law 188 = .ok (.iaload, 1) := by decide +kernel
theorem dL_law_189 : decode cL_law 189 = .ok (.invokestatic 90, 3) := by decide +kernel
theorem dL_law_192 : decode cL_law 192 = .ok (.istore 5, 2) := by decide +kernel
theorem dL_law_194 : decode cL_law 194 = .ok (.aload_n 2, 1) := by decide +kernel
theorem dL_law_195 : decode cL_law 195 = .ok (.aload_n 0, 1) := by decide +kernel
theorem dL_law_196 : decode cL_law 196 = .ok (.iload 4, 2) := by decide +kernel
theorem dL_law_198 : decode cL_law 198 = .ok (.iconst 1, 1) := by decide +kernel
theorem dL_law_199 : decode cL_law 199 = .ok (.iadd, 1) := by decide +kernel
theorem dL_law_200 : decode cL_law 200 = .ok (.iaload, 1) := by decide +kernel
theorem dL_law_201 : decode cL_law 201 = .ok (.aload_n 0, 1) := by decide +kernel
theorem dL_law_202 : decode cL_law 202 = .ok (.iload 4, 2) := by decide +kernel
theorem dL_law_204 : decode cL_law 204 = .ok (.iconst 2, 1) := by decide +kernel
theorem dL_law_205 : decode cL_law 205 = .ok (.iadd, 1) := by decide +kernel
theorem dL_law_206 : decode cL_law 206 = .ok (.iaload, 1) := by decide +kernel
theorem dL_law_207 : decode cL_law 207 = .ok (.invokevirtual 93, 3) := by decide +kernel
theorem dL_law_210 : decode cL_law 210 = .ok (.aload_n 2, 1) := by decide +kernel
theorem dL_law_211 : decode cL_law 211 = .ok (.invokevirtual 87, 3) := by decide +kernel
theorem dL_law_214 : decode cL_law 214 = .ok (.iload 5, 2) := by decide +kernel
theorem dL_law_216 : decode cL_law 216 = .ok (.if_icmp .eq 5, 3) := by decide +kernel
theorem dL_law_219 : decode cL_law 219 = .ok (.iconst 0, 1) := by decide +kernel
theorem dL_law_220 : decode cL_law 220 = .ok (.ireturn, 1) := by decide +kernel
theorem dL_law_221 : decode cL_law 221 = .ok (.goto 1003, 3) := by decide +kernel
theorem dL_law_224 : decode cL_law 224 = .ok (.aload_n 1, 1) := by decide +kernel
theorem dL_law_225 : decode cL_law 225 = .ok (.aload_n 0, 1) := by decide +kernel
theorem dL_law_226 : decode cL_law 226 = .ok (.iload 4, 2) := by decide +kernel
theorem dL_law_228 : decode cL_law 228 = .ok (.iconst 1, 1) := by decide +kernel
theorem dL_law_229 : decode cL_law 229 = .ok (.iadd, 1) := by decide +kernel
theorem dL_law_230 : decode cL_law 230 = .ok (.iaload, 1) := by decide +kernel
theorem dL_law_231 : decode cL_law 231 = .ok (.aload_n 0, 1) := by decide +kernel
theorem dL_law_232 : decode cL_law 232 = .ok (.iload 4, 2) := by decide +kernel
theorem dL_law_234 : decode cL_law 234 = .ok (.iconst 2, 1) := by decide +kernel
theorem dL_law_235 : decode cL_law 235 = .ok (.iadd, 1) := by decide +kernel
theorem dL_law_236 : decode cL_law 236 = .ok (.iaload, 1) := by decide +kernel
theorem dL_law_237 : decode cL_law 237 = .ok (.aload_n 3, 1) := by decide +kernel
theorem dL_law_238 : decode cL_law 238 = .ok (.invokestatic 94, 3) := by decide +kernel
theorem dL_law_241 : decode cL_law 241 = .ok (.istore 5, 2) := by decide +kernel
theorem dL_law_243 : decode cL_law 243 = .ok (.aload_n 2, 1) := by decide +kernel
theorem dL_law_244 : decode cL_law 244 = .ok (.aload_n 0, 1) := by decide +kernel
theorem dL_law_245 : decode cL_law 245 = .ok (.iload 4, 2) := by decide +kernel
theorem dL_law_247 : decode cL_law 247 = .ok (.iconst 1, 1) := by decide +kernel
theorem dL_law_248 : decode cL_law 248 = .ok (.iadd, 1) := by decide +kernel
theorem dL_law_249 : decode cL_law 249 = .ok (.iaload, 1) := by decide +kernel
theorem dL_law_250 : decode cL_law 250 = .ok (.aload_n 0, 1) := by decide +kernel
theorem dL_law_251 : decode cL_law 251 = .ok (.iload 4, 2) := by decide +kernel
theorem dL_law_253 : decode cL_law 253 = .ok (.iconst 2, 1) := by decide +kernel
theorem dL_law_254 : decode cL_law 254 = .ok (.iadd, 1) := by decide +kernel
theorem dL_law_255 : decode cL_law 255 = .ok (.iaload, 1) := by decide +kernel
theorem dL_law_256 : decode cL_law 256 = .ok (.invokevirtual 97, 3) := by decide +kernel
theorem dL_law_259 : decode cL_law 259 = .ok (.istore 6, 2) := by decide +kernel
theorem dL_law_261 : decode cL_law 261 = .ok (.aload_n 2, 1) := by decide +kernel
theorem dL_law_262 : decode cL_law 262 = .ok (.invokevirtual 87, 3) := by decide +kernel
theorem dL_law_265 : decode cL_law 265 = .ok (.iload 5, 2) := by decide +kernel
theorem dL_law_267 : decode cL_law 267 = .ok (.if_icmp .eq 5, 3) := by decide +kernel
theorem dL_law_270 : decode cL_law 270 = .ok (.iconst 0, 1) := by decide +kernel
theorem dL_law_271 : decode cL_law 271 = .ok (.ireturn, 1) := by decide +kernel
theorem dL_law_272 : decode cL_law 272 = .ok (.iload 5, 2) := by decide +kernel
theorem dL_law_274 : decode cL_law 274 = .ok (.ifCond .ne 15, 3) := by decide +kernel
theorem dL_law_277 : decode cL_law 277 = .ok (.aload_n 3, 1) := by decide +kernel
theorem dL_law_278 : decode cL_law 278 = .ok (.iconst 0, 1) := by decide +kernel
theorem dL_law_279 : decode cL_law 279 = .ok (.laload, 1) := by decide +kernel
theorem dL_law_280 : decode cL_law 280 = .ok (.iload 6, 2) := by decide +kernel
theorem dL_law_282 : decode cL_law 282 = .ok (.i2l, 1) := by decide +kernel
theorem dL_law_283 : decode cL_law 283 = .ok (.lcmp, 1) := by decide +kernel
theorem dL_law_284 : decode cL_law 284 = .ok (.ifCond .eq 5, 3) := by decide +kernel
theorem dL_law_287 : decode cL_law 287 = .ok (.iconst 0, 1) := by decide +kernel
theorem dL_law_288 : decode cL_law 288 = .ok (.ireturn, 1) := by decide +kernel
theorem dL_law_289 : decode cL_law 289 = .ok (.goto 935, 3) := by decide +kernel
theorem dL_law_292 : decode cL_law 292 = .ok (.aload_n 1, 1) := by decide +kernel
theorem dL_law_293 : decode cL_law 293 = .ok (.aload_n 0, 1) := by decide +kernel
theorem dL_law_294 : decode cL_law 294 = .ok (.iload 4, 2) := by decide +kernel
theorem dL_law_296 : decode cL_law 296 = .ok (.iconst 1, 1) := by decide +kernel
theorem dL_law_297 : decode cL_law 297 = .ok (.iadd, 1) := by decide +kernel
theorem dL_law_298 : decode cL_law 298 = .ok (.iaload, 1) := by decide +kernel
theorem dL_law_299 : decode cL_law 299 = .ok (.aload_n 0, 1) := by decide +kernel
theorem dL_law_300 : decode cL_law 300 = .ok (.iload 4, 2) := by decide +kernel
theorem dL_law_302 : decode cL_law 302 = .ok (.iconst 2, 1) := by decide +kernel
theorem dL_law_303 : decode cL_law 303 = .ok (.iadd, 1) := by decide +kernel
theorem dL_law_304 : decode cL_law 304 = .ok (.iaload, 1) := by decide +kernel
theorem dL_law_305 : decode cL_law 305 = .ok (.aload_n 0, 1) := by decide +kernel
theorem dL_law_306 : decode cL_law 306 = .ok (.iload 4, 2) := by decide +kernel
theorem dL_law_308 : decode cL_law 308 = .ok (.iconst 3, 1) := by decide +kernel
theorem dL_law_309 : decode cL_law 309 = .ok (.iadd, 1) := by decide +kernel
theorem dL_law_310 : decode cL_law 310 = .ok (.iaload, 1) := by decide +kernel
theorem dL_law_311 : decode cL_law 311 = .ok (.invokestatic 98, 3) := by decide +kernel
theorem dL_law_314 : decode cL_law 314 = .ok (.istore 5, 2) := by decide +kernel
theorem dL_law_316 : decode cL_law 316 = .ok (.aload_n 2, 1) := by decide +kernel
theorem dL_law_317 : decode cL_law 317 = .ok (.aload_n 0, 1) := by decide +kernel
theorem dL_law_318 : decode cL_law 318 = .ok (.iload 4, 2) := by decide +kernel
theorem dL_law_320 : decode cL_law 320 = .ok (.iconst 1, 1) := by decide +kernel
theorem dL_law_321 : decode cL_law 321 = .ok (.iadd, 1) := by decide +kernel
theorem dL_law_322 : decode cL_law 322 = .ok (.iaload, 1) := by decide +kernel
theorem dL_law_323 : decode cL_law 323 = .ok (.aload_n 0, 1) := by decide +kernel
theorem dL_law_324 : decode cL_law 324 = .ok (.iload 4, 2) := by decide +kernel
theorem dL_law_326 : decode cL_law 326 = .ok (.iconst 2, 1) := by decide +kernel
theorem dL_law_327 : decode cL_law 327 = .ok (.iadd, 1) := by decide +kernel
theorem dL_law_328 : decode cL_law 328 = .ok (.iaload, 1) := by decide +kernel
theorem dL_law_329 : decode cL_law 329 = .ok (.aload_n 0, 1) := by decide +kernel
theorem dL_law_330 : decode cL_law 330 = .ok (.iload 4, 2) := by decide +kernel
theorem dL_law_332 : decode cL_law 332 = .ok (.iconst 3, 1) := by decide +kernel
theorem dL_law_333 : decode cL_law 333 = .ok (.iadd, 1) := by decide +kernel
theorem dL_law_334 : decode cL_law 334 = .ok (.iaload, 1) := by decide +kernel
theorem dL_law_335 : decode cL_law 335 = .ok (.invokevirtual 101, 3) := by decide +kernel
theorem dL_law_338 : decode cL_law 338 = .ok (.aload_n 2, 1) := by decide +kernel
theorem dL_law_339 : decode cL_law 339 = .ok (.invokevirtual 87, 3) := by decide +kernel
theorem dL_law_342 : decode cL_law 342 = .ok (.iload 5, 2) := by decide +kernel
theorem dL_law_344 : decode cL_law 344 = .ok (.if_icmp .eq 5, 3) := by decide +kernel
theorem dL_law_347 : decode cL_law 347 = .ok (.iconst 0, 1) := by decide +kernel
theorem dL_law_348 : decode cL_law 348 = .ok (.ireturn, 1) := by decide +kernel
theorem dL_law_349 : decode cL_law 349 = .ok (.goto 875, 3) := by decide +kernel
theorem dL_law_352 : decode cL_law 352 = .ok (.aload_n 1, 1) := by decide +kernel
theorem dL_law_353 : decode cL_law 353 = .ok (.aload_n 0, 1) := by decide +kernel
theorem dL_law_354 : decode cL_law 354 = .ok (.iload 4, 2) := by decide +kernel
theorem dL_law_356 : decode cL_law 356 = .ok (.iconst 1, 1) := by decide +kernel
theorem dL_law_357 : decode cL_law 357 = .ok (.iadd, 1) := by decide +kernel
theorem dL_law_358 : decode cL_law 358 = .ok (.iaload, 1) := by decide +kernel
theorem dL_law_359 : decode cL_law 359 = .ok (.aload_n 0, 1) := by decide +kernel
theorem dL_law_360 : decode cL_law 360 = .ok (.iload 4, 2) := by decide +kernel
theorem dL_law_362 : decode cL_law 362 = .ok (.iconst 2, 1) := by decide +kernel
theorem dL_law_363 : decode cL_law 363 = .ok (.iadd, 1) := by decide +kernel
theorem dL_law_364 : decode cL_law 364 = .ok (.iaload, 1) := by decide +kernel
theorem dL_law_365 : decode cL_law 365 = .ok (.aload_n 0, 1) := by decide +kernel
theorem dL_law_366 : decode cL_law 366 = .ok (.iload 4, 2) := by decide +kernel
theorem dL_law_368 : decode cL_law 368 = .ok (.iconst 3, 1) := by decide +kernel
theorem dL_law_369 : decode cL_law 369 = .ok (.iadd, 1) := by decide +kernel
theorem dL_law_370 : decode cL_law 370 = .ok (.iaload, 1) := by decide +kernel
theorem dL_law_371 : decode cL_law 371 = .ok (.invokestatic 102, 3) := by decide +kernel
theorem dL_law_374 : decode cL_law 374 = .ok (.istore 5, 2) := by decide +kernel
theorem dL_law_376 : decode cL_law 376 = .ok (.aload_n 2, 1) := by decide +kernel
theorem dL_law_377 : decode cL_law 377 = .ok (.aload_n 0, 1) := by decide +kernel
theorem dL_law_378 : decode cL_law 378 = .ok (.iload 4, 2) := by decide +kernel
theorem dL_law_380 : decode cL_law 380 = .ok (.iconst 1, 1) := by decide +kernel
theorem dL_law_381 : decode cL_law 381 = .ok (.iadd, 1) := by decide +kernel
theorem dL_law_382 : decode cL_law 382 = .ok (.iaload, 1) := by decide +kernel
theorem dL_law_383 : decode cL_law 383 = .ok (.aload_n 0, 1) := by decide +kernel
theorem dL_law_384 : decode cL_law 384 = .ok (.iload 4, 2) := by decide +kernel
theorem dL_law_386 : decode cL_law 386 = .ok (.iconst 2, 1) := by decide +kernel
theorem dL_law_387 : decode cL_law 387 = .ok (.iadd, 1) := by decide +kernel
theorem dL_law_388 : decode cL_law 388 = .ok (.iaload, 1) := by decide +kernel
theorem dL_law_389 : decode cL_law 389 = .ok (.aload_n 0, 1) := by decide +kernel
theorem dL_law_390 : decode cL_law 390 = .ok (.iload 4, 2) := by decide +kernel
theorem dL_law_392 : decode cL_law 392 = .ok (.iconst 3, 1) := by decide +kernel
theorem dL_law_393 : decode cL_law 393 = .ok (.iadd, 1) := by decide +kernel
theorem dL_law_394 : decode cL_law 394 = .ok (.iaload, 1) := by decide +kernel
theorem dL_law_395 : decode cL_law 395 = .ok (.invokevirtual 104, 3) := by decide +kernel
theorem dL_law_398 : decode cL_law 398 = .ok (.aload_n 2, 1) := by decide +kernel
theorem dL_law_399 : decode cL_law 399 = .ok (.invokevirtual 87, 3) := by decide +kernel
theorem dL_law_402 : decode cL_law 402 = .ok (.iload 5, 2) := by decide +kernel
theorem dL_law_404 : decode cL_law 404 = .ok (.if_icmp .eq 5, 3) := by decide +kernel
theorem dL_law_407 : decode cL_law 407 = .ok (.iconst 0, 1) := by decide +kernel
theorem dL_law_408 : decode cL_law 408 = .ok (.ireturn, 1) := by decide +kernel
theorem dL_law_409 : decode cL_law 409 = .ok (.goto 815, 3) := by decide +kernel
theorem dL_law_412 : decode cL_law 412 = .ok (.aload_n 1, 1) := by decide +kernel
theorem dL_law_413 : decode cL_law 413 = .ok (.aload_n 0, 1) := by decide +kernel
theorem dL_law_414 : decode cL_law 414 = .ok (.iload 4, 2) := by decide +kernel
theorem dL_law_416 : decode cL_law 416 = .ok (.iconst 1, 1) := by decide +kernel
theorem dL_law_417 : decode cL_law 417 = .ok (.iadd, 1) := by decide +kernel
theorem dL_law_418 : decode cL_law 418 = .ok (.iaload, 1) := by decide +kernel
theorem dL_law_419 : decode cL_law 419 = .ok (.aload_n 0, 1) := by decide +kernel
theorem dL_law_420 : decode cL_law 420 = .ok (.iload 4, 2) := by decide +kernel
theorem dL_law_422 : decode cL_law 422 = .ok (.iconst 2, 1) := by decide +kernel
theorem dL_law_423 : decode cL_law 423 = .ok (.iadd, 1) := by decide +kernel
theorem dL_law_424 : decode cL_law 424 = .ok (.iaload, 1) := by decide +kernel
theorem dL_law_425 : decode cL_law 425 = .ok (.aload_n 0, 1) := by decide +kernel
theorem dL_law_426 : decode cL_law 426 = .ok (.iload 4, 2) := by decide +kernel
theorem dL_law_428 : decode cL_law 428 = .ok (.iconst 3, 1) := by decide +kernel
theorem dL_law_429 : decode cL_law 429 = .ok (.iadd, 1) := by decide +kernel
theorem dL_law_430 : decode cL_law 430 = .ok (.iaload, 1) := by decide +kernel
theorem dL_law_431 : decode cL_law 431 = .ok (.invokestatic 105, 3) := by decide +kernel
theorem dL_law_434 : decode cL_law 434 = .ok (.istore 5, 2) := by decide +kernel
theorem dL_law_436 : decode cL_law 436 = .ok (.aload_n 2, 1) := by decide +kernel
theorem dL_law_437 : decode cL_law 437 = .ok (.aload_n 0, 1) := by decide +kernel
theorem dL_law_438 : decode cL_law 438 = .ok (.iload 4, 2) := by decide +kernel
theorem dL_law_440 : decode cL_law 440 = .ok (.iconst 1, 1) := by decide +kernel
theorem dL_law_441 : decode cL_law 441 = .ok (.iadd, 1) := by decide +kernel
theorem dL_law_442 : decode cL_law 442 = .ok (.iaload, 1) := by decide +kernel
theorem dL_law_443 : decode cL_law 443 = .ok (.aload_n 0, 1) := by decide +kernel
theorem dL_law_444 : decode cL_law 444 = .ok (.iload 4, 2) := by decide +kernel
theorem dL_law_446 : decode cL_law 446 = .ok (.iconst 2, 1) := by decide +kernel
theorem dL_law_447 : decode cL_law 447 = .ok (.iadd, 1) := by decide +kernel
theorem dL_law_448 : decode cL_law 448 = .ok (.iaload, 1) := by decide +kernel
theorem dL_law_449 : decode cL_law 449 = .ok (.aload_n 0, 1) := by decide +kernel
theorem dL_law_450 : decode cL_law 450 = .ok (.iload 4, 2) := by decide +kernel
theorem dL_law_452 : decode cL_law 452 = .ok (.iconst 3, 1) := by decide +kernel
theorem dL_law_453 : decode cL_law 453 = .ok (.iadd, 1) := by decide +kernel
theorem dL_law_454 : decode cL_law 454 = .ok (.iaload, 1) := by decide +kernel
theorem dL_law_455 : decode cL_law 455 = .ok (.invokevirtual 107, 3) := by decide +kernel
theorem dL_law_458 : decode cL_law 458 = .ok (.aload_n 2, 1) := by decide +kernel
theorem dL_law_459 : decode cL_law 459 = .ok (.invokevirtual 87, 3) := by decide +kernel
theorem dL_law_462 : decode cL_law 462 = .ok (.iload 5, 2) := by decide +kernel
theorem dL_law_464 : decode cL_law 464 = .ok (.if_icmp .eq 5, 3) := by decide +kernel
theorem dL_law_467 : decode cL_law 467 = .ok (.iconst 0, 1) := by decide +kernel
theorem dL_law_468 : decode cL_law 468 = .ok (.ireturn, 1) := by decide +kernel
theorem dL_law_469 : decode cL_law 469 = .ok (.goto 755, 3) := by decide +kernel
theorem dL_law_472 : decode cL_law 472 = .ok (.aload_n 1, 1) := by decide +kernel
theorem dL_law_473 : decode cL_law 473 = .ok (.aload_n 0, 1) := by decide +kernel
theorem dL_law_474 : decode cL_law 474 = .ok (.iload 4, 2) := by decide +kernel
theorem dL_law_476 : decode cL_law 476 = .ok (.iconst 1, 1) := by decide +kernel
theorem dL_law_477 : decode cL_law 477 = .ok (.iadd, 1) := by decide +kernel
theorem dL_law_478 : decode cL_law 478 = .ok (.iaload, 1) := by decide +kernel
theorem dL_law_479 : decode cL_law 479 = .ok (.aload_n 3, 1) := by decide +kernel
theorem dL_law_480 : decode cL_law 480 = .ok (.invokestatic 108, 3) := by decide +kernel
theorem dL_law_483 : decode cL_law 483 = .ok (.istore 5, 2) := by decide +kernel
theorem dL_law_485 : decode cL_law 485 = .ok (.aload_n 2, 1) := by decide +kernel
theorem dL_law_486 : decode cL_law 486 = .ok (.aload_n 0, 1) := by decide +kernel
theorem dL_law_487 : decode cL_law 487 = .ok (.iload 4, 2) := by decide +kernel
theorem dL_law_489 : decode cL_law 489 = .ok (.iconst 1, 1) := by decide +kernel
theorem dL_law_490 : decode cL_law 490 = .ok (.iadd, 1) := by decide +kernel
theorem dL_law_491 : decode cL_law 491 = .ok (.iaload, 1) := by decide +kernel
theorem dL_law_492 : decode cL_law 492 = .ok (.invokevirtual 111, 3) := by decide +kernel
theorem dL_law_495 : decode cL_law 495 = .ok (.istore 6, 2) := by decide +kernel
theorem dL_law_497 : decode cL_law 497 = .ok (.aload_n 2, 1) := by decide +kernel
theorem dL_law_498 : decode cL_law 498 = .ok (.invokevirtual 87, 3) := by decide +kernel
theorem dL_law_501 : decode cL_law 501 = .ok (.iload 5, 2) := by decide +kernel
theorem dL_law_503 : decode cL_law 503 = .ok (.if_icmp .eq 5, 3) := by decide +kernel
theorem dL_law_506 : decode cL_law 506 = .ok (.iconst 0, 1) := by decide +kernel
theorem dL_law_507 : decode cL_law 507 = .ok (.ireturn, 1) := by decide +kernel
theorem dL_law_508 : decode cL_law 508 = .ok (.iload 5, 2) := by decide +kernel
theorem dL_law_510 : decode cL_law 510 = .ok (.ifCond .ne 22, 3) := by decide +kernel
theorem dL_law_513 : decode cL_law 513 = .ok (.aload_n 3, 1) := by decide +kernel
theorem dL_law_514 : decode cL_law 514 = .ok (.iconst 0, 1) := by decide +kernel
theorem dL_law_515 : decode cL_law 515 = .ok (.laload, 1) := by decide +kernel
theorem dL_law_516 : decode cL_law 516 = .ok (.iload 6, 2) := by decide +kernel
theorem dL_law_518 : decode cL_law 518 = .ok (.ifCond .eq 7, 3) := by decide +kernel
theorem dL_law_521 : decode cL_law 521 = .ok (.lconst 1, 1) := by decide +kernel
theorem dL_law_522 : decode cL_law 522 = .ok (.goto 4, 3) := by decide +kernel
theorem dL_law_525 : decode cL_law 525 = .ok (.lconst 0, 1) := by decide +kernel
theorem dL_law_526 : decode cL_law 526 = .ok (.lcmp, 1) := by decide +kernel
theorem dL_law_527 : decode cL_law 527 = .ok (.ifCond .eq 5, 3) := by decide +kernel
theorem dL_law_530 : decode cL_law 530 = .ok (.iconst 0, 1) := by decide +kernel
theorem dL_law_531 : decode cL_law 531 = .ok (.ireturn, 1) := by decide +kernel
theorem dL_law_532 : decode cL_law 532 = .ok (.goto 692, 3) := by decide +kernel
theorem dL_law_535 : decode cL_law 535 = .ok (.aload_n 1, 1) := by decide +kernel
theorem dL_law_536 : decode cL_law 536 = .ok (.aload_n 0, 1) := by decide +kernel
theorem dL_law_537 : decode cL_law 537 = .ok (.iload 4, 2) := by decide +kernel
theorem dL_law_539 : decode cL_law 539 = .ok (.iconst 1, 1) := by decide +kernel
theorem dL_law_540 : decode cL_law 540 = .ok (.iadd, 1) := by decide +kernel
theorem dL_law_541 : decode cL_law 541 = .ok (.iaload, 1) := by decide +kernel
theorem dL_law_542 : decode cL_law 542 = .ok (.aload_n 0, 1) := by decide +kernel
theorem dL_law_543 : decode cL_law 543 = .ok (.iload 4, 2) := by decide +kernel
theorem dL_law_545 : decode cL_law 545 = .ok (.iconst 2, 1) := by decide +kernel
theorem dL_law_546 : decode cL_law 546 = .ok (.iadd, 1) := by decide +kernel
theorem dL_law_547 : decode cL_law 547 = .ok (.iaload, 1) := by decide +kernel
theorem dL_law_548 : decode cL_law 548 = .ok (.aload_n 3, 1) := by decide +kernel
theorem dL_law_549 : decode cL_law 549 = .ok (.invokestatic 112, 3) := by decide +kernel
theorem dL_law_552 : decode cL_law 552 = .ok (.istore 5, 2) := by decide +kernel
theorem dL_law_554 : decode cL_law 554 = .ok (.aload_n 2, 1) := by decide +kernel
theorem dL_law_555 : decode cL_law 555 = .ok (.aload_n 0, 1) := by decide +kernel
theorem dL_law_556 : decode cL_law 556 = .ok (.iload 4, 2) := by decide +kernel
theorem dL_law_558 : decode cL_law 558 = .ok (.iconst 1, 1) := by decide +kernel
theorem dL_law_559 : decode cL_law 559 = .ok (.iadd, 1) := by decide +kernel
theorem dL_law_560 : decode cL_law 560 = .ok (.iaload, 1) := by decide +kernel
theorem dL_law_561 : decode cL_law 561 = .ok (.aload_n 0, 1) := by decide +kernel
theorem dL_law_562 : decode cL_law 562 = .ok (.iload 4, 2) := by decide +kernel
theorem dL_law_564 : decode cL_law 564 = .ok (.iconst 2, 1) := by decide +kernel
theorem dL_law_565 : decode cL_law 565 = .ok (.iadd, 1) := by decide +kernel
theorem dL_law_566 : decode cL_law 566 = .ok (.iaload, 1) := by decide +kernel
theorem dL_law_567 : decode cL_law 567 = .ok (.invokevirtual 114, 3) := by decide +kernel
theorem dL_law_570 : decode cL_law 570 = .ok (.istore 6, 2) := by decide +kernel
theorem dL_law_572 : decode cL_law 572 = .ok (.aload_n 2, 1) := by decide +kernel
theorem dL_law_573 : decode cL_law 573 = .ok (.invokevirtual 87, 3) := by decide +kernel
theorem dL_law_576 : decode cL_law 576 = .ok (.iload 5, 2) := by decide +kernel
theorem dL_law_578 : decode cL_law 578 = .ok (.if_icmp .eq 5, 3) := by decide +kernel
theorem dL_law_581 : decode cL_law 581 = .ok (.iconst 0, 1) := by decide +kernel
theorem dL_law_582 : decode cL_law 582 = .ok (.ireturn, 1) := by decide +kernel
theorem dL_law_583 : decode cL_law 583 = .ok (.iload 5, 2) := by decide +kernel
theorem dL_law_585 : decode cL_law 585 = .ok (.ifCond .ne 22, 3) := by decide +kernel
theorem dL_law_588 : decode cL_law 588 = .ok (.aload_n 3, 1) := by decide +kernel
theorem dL_law_589 : decode cL_law 589 = .ok (.iconst 0, 1) := by decide +kernel
theorem dL_law_590 : decode cL_law 590 = .ok (.laload, 1) := by decide +kernel
theorem dL_law_591 : decode cL_law 591 = .ok (.iload 6, 2) := by decide +kernel
theorem dL_law_593 : decode cL_law 593 = .ok (.ifCond .eq 7, 3) := by decide +kernel
theorem dL_law_596 : decode cL_law 596 = .ok (.lconst 1, 1) := by decide +kernel
theorem dL_law_597 : decode cL_law 597 = .ok (.goto 4, 3) := by decide +kernel
theorem dL_law_600 : decode cL_law 600 = .ok (.lconst 0, 1) := by decide +kernel
theorem dL_law_601 : decode cL_law 601 = .ok (.lcmp, 1) := by decide +kernel
theorem dL_law_602 : decode cL_law 602 = .ok (.ifCond .eq 5, 3) := by decide +kernel
theorem dL_law_605 : decode cL_law 605 = .ok (.iconst 0, 1) := by decide +kernel
theorem dL_law_606 : decode cL_law 606 = .ok (.ireturn, 1) := by decide +kernel
theorem dL_law_607 : decode cL_law 607 = .ok (.goto 617, 3) := by decide +kernel
theorem dL_law_610 : decode cL_law 610 = .ok (.aload_n 1, 1) := by decide +kernel
theorem dL_law_611 : decode cL_law 611 = .ok (.aload_n 0, 1) := by decide +kernel
theorem dL_law_612 : decode cL_law 612 = .ok (.iload 4, 2) := by decide +kernel
theorem dL_law_614 : decode cL_law 614 = .ok (.iconst 1, 1) := by decide +kernel
theorem dL_law_615 : decode cL_law 615 = .ok (.iadd, 1) := by decide +kernel
theorem dL_law_616 : decode cL_law 616 = .ok (.iaload, 1) := by decide +kernel
theorem dL_law_617 : decode cL_law 617 = .ok (.aload_n 3, 1) := by decide +kernel
theorem dL_law_618 : decode cL_law 618 = .ok (.invokestatic 115, 3) := by decide +kernel
theorem dL_law_621 : decode cL_law 621 = .ok (.istore 5, 2) := by decide +kernel
theorem dL_law_623 : decode cL_law 623 = .ok (.aload_n 2, 1) := by decide +kernel
theorem dL_law_624 : decode cL_law 624 = .ok (.aload_n 0, 1) := by decide +kernel
theorem dL_law_625 : decode cL_law 625 = .ok (.iload 4, 2) := by decide +kernel
theorem dL_law_627 : decode cL_law 627 = .ok (.iconst 1, 1) := by decide +kernel
theorem dL_law_628 : decode cL_law 628 = .ok (.iadd, 1) := by decide +kernel
theorem dL_law_629 : decode cL_law 629 = .ok (.iaload, 1) := by decide +kernel
theorem dL_law_630 : decode cL_law 630 = .ok (.invokevirtual 117, 3) := by decide +kernel
theorem dL_law_633 : decode cL_law 633 = .ok (.istore 6, 2) := by decide +kernel
theorem dL_law_635 : decode cL_law 635 = .ok (.aload_n 2, 1) := by decide +kernel
theorem dL_law_636 : decode cL_law 636 = .ok (.invokevirtual 87, 3) := by decide +kernel
theorem dL_law_639 : decode cL_law 639 = .ok (.iload 5, 2) := by decide +kernel
theorem dL_law_641 : decode cL_law 641 = .ok (.if_icmp .eq 5, 3) := by decide +kernel
theorem dL_law_644 : decode cL_law 644 = .ok (.iconst 0, 1) := by decide +kernel
theorem dL_law_645 : decode cL_law 645 = .ok (.ireturn, 1) := by decide +kernel
theorem dL_law_646 : decode cL_law 646 = .ok (.iload 5, 2) := by decide +kernel
theorem dL_law_648 : decode cL_law 648 = .ok (.ifCond .ne 15, 3) := by decide +kernel
theorem dL_law_651 : decode cL_law 651 = .ok (.aload_n 3, 1) := by decide +kernel
theorem dL_law_652 : decode cL_law 652 = .ok (.iconst 0, 1) := by decide +kernel
theorem dL_law_653 : decode cL_law 653 = .ok (.laload, 1) := by decide +kernel
theorem dL_law_654 : decode cL_law 654 = .ok (.iload 6, 2) := by decide +kernel
theorem dL_law_656 : decode cL_law 656 = .ok (.i2l, 1) := by decide +kernel
theorem dL_law_657 : decode cL_law 657 = .ok (.lcmp, 1) := by decide +kernel
theorem dL_law_658 : decode cL_law 658 = .ok (.ifCond .eq 5, 3) := by decide +kernel
theorem dL_law_661 : decode cL_law 661 = .ok (.iconst 0, 1) := by decide +kernel
theorem dL_law_662 : decode cL_law 662 = .ok (.ireturn, 1) := by decide +kernel
theorem dL_law_663 : decode cL_law 663 = .ok (.goto 561, 3) := by decide +kernel
theorem dL_law_666 : decode cL_law 666 = .ok (.aload_n 1, 1) := by decide +kernel
theorem dL_law_667 : decode cL_law 667 = .ok (.aload_n 0, 1) := by decide +kernel
theorem dL_law_668 : decode cL_law 668 = .ok (.iload 4, 2) := by decide +kernel
theorem dL_law_670 : decode cL_law 670 = .ok (.iconst 1, 1) := by decide +kernel
theorem dL_law_671 : decode cL_law 671 = .ok (.iadd, 1) := by decide +kernel
theorem dL_law_672 : decode cL_law 672 = .ok (.iaload, 1) := by decide +kernel
theorem dL_law_673 : decode cL_law 673 = .ok (.aload_n 0, 1) := by decide +kernel
theorem dL_law_674 : decode cL_law 674 = .ok (.iload 4, 2) := by decide +kernel
theorem dL_law_676 : decode cL_law 676 = .ok (.iconst 2, 1) := by decide +kernel
theorem dL_law_677 : decode cL_law 677 = .ok (.iadd, 1) := by decide +kernel
theorem dL_law_678 : decode cL_law 678 = .ok (.iaload, 1) := by decide +kernel
theorem dL_law_679 : decode cL_law 679 = .ok (.aload_n 0, 1) := by decide +kernel
theorem dL_law_680 : decode cL_law 680 = .ok (.iload 4, 2) := by decide +kernel
theorem dL_law_682 : decode cL_law 682 = .ok (.iconst 3, 1) := by decide +kernel
theorem dL_law_683 : decode cL_law 683 = .ok (.iadd, 1) := by decide +kernel
theorem dL_law_684 : decode cL_law 684 = .ok (.iaload, 1) := by decide +kernel
theorem dL_law_685 : decode cL_law 685 = .ok (.aload_n 0, 1) := by decide +kernel
theorem dL_law_686 : decode cL_law 686 = .ok (.iload 4, 2) := by decide +kernel
theorem dL_law_688 : decode cL_law 688 = .ok (.iconst 4, 1) := by decide +kernel
theorem dL_law_689 : decode cL_law 689 = .ok (.iadd, 1) := by decide +kernel
theorem dL_law_690 : decode cL_law 690 = .ok (.iaload, 1) := by decide +kernel
theorem dL_law_691 : decode cL_law 691 = .ok (.aload_n 0, 1) := by decide +kernel
theorem dL_law_692 : decode cL_law 692 = .ok (.iload 4, 2) := by decide +kernel
theorem dL_law_694 : decode cL_law 694 = .ok (.iconst 5, 1) := by decide +kernel
theorem dL_law_695 : decode cL_law 695 = .ok (.iadd, 1) := by decide +kernel
theorem dL_law_696 : decode cL_law 696 = .ok (.iaload, 1) := by decide +kernel
theorem dL_law_697 : decode cL_law 697 = .ok (.aload_n 3, 1) := by decide +kernel
theorem dL_law_698 : decode cL_law 698 = .ok (.invokestatic 118, 3) := by decide +kernel
theorem dL_law_701 : decode cL_law 701 = .ok (.istore 5, 2) := by decide +kernel
theorem dL_law_703 : decode cL_law 703 = .ok (.aload_n 2, 1) := by decide +kernel
theorem dL_law_704 : decode cL_law 704 = .ok (.aload_n 0, 1) := by decide +kernel
theorem dL_law_705 : decode cL_law 705 = .ok (.iload 4, 2) := by decide +kernel
theorem dL_law_707 : decode cL_law 707 = .ok (.iconst 1, 1) := by decide +kernel
theorem dL_law_708 : decode cL_law 708 = .ok (.iadd, 1) := by decide +kernel
theorem dL_law_709 : decode cL_law 709 = .ok (.iaload, 1) := by decide +kernel
theorem dL_law_710 : decode cL_law 710 = .ok (.aload_n 0, 1) := by decide +kernel
theorem dL_law_711 : decode cL_law 711 = .ok (.iload 4, 2) := by decide +kernel
theorem dL_law_713 : decode cL_law 713 = .ok (.iconst 2, 1) := by decide +kernel
theorem dL_law_714 : decode cL_law 714 = .ok (.iadd, 1) := by decide +kernel
theorem dL_law_715 : decode cL_law 715 = .ok (.iaload, 1) := by decide +kernel
theorem dL_law_716 : decode cL_law 716 = .ok (.aload_n 0, 1) := by decide +kernel
theorem dL_law_717 : decode cL_law 717 = .ok (.iload 4, 2) := by decide +kernel
theorem dL_law_719 : decode cL_law 719 = .ok (.iconst 3, 1) := by decide +kernel
theorem dL_law_720 : decode cL_law 720 = .ok (.iadd, 1) := by decide +kernel
theorem dL_law_721 : decode cL_law 721 = .ok (.iaload, 1) := by decide +kernel
theorem dL_law_722 : decode cL_law 722 = .ok (.aload_n 0, 1) := by decide +kernel
theorem dL_law_723 : decode cL_law 723 = .ok (.iload 4, 2) := by decide +kernel
theorem dL_law_725 : decode cL_law 725 = .ok (.iconst 4, 1) := by decide +kernel
