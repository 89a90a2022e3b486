theorem dX8_splitField_3 : decode cX8_splitField 3 = .ok (.invokevirtual 230, 3) := by decide +kernel
theorem dX8_splitField_6 : decode cX8_splitField 6 = .ok (.ifCond .ne 5, 3) := by decide +kernel
theorem dX8_splitField_9 : decode cX8_splitField 9 = .ok (.iconst 0, 1) := by decide +kernel
theorem dX8_splitField_10 : decode cX8_splitField 10 = .ok (.ireturn, 1) := by decide +kernel
theorem dX8_splitField_11 : decode cX8_splitField 11 = .ok (.iconst 0, 1) := by decide +kernel
theorem dX8_splitField_12 : decode cX8_splitField 12 = .ok (.istore 4, 2) := by decide +kernel
theorem dX8_splitField_14 : decode cX8_splitField 14 = .ok (.iload 4, 2) := by decide +kernel
theorem dX8_splitField_16 : decode cX8_splitField 16 = .ok (.bipush 24, 2) := by decide +kernel
theorem dX8_splitField_18 : decode cX8_splitField 18 = .ok (.if_icmp .ge 17, 3) := by decide +kernel
theorem dX8_splitField_21 : decode cX8_splitField 21 = .ok (.aload_n 0, 1) := by decide +kernel
theorem dX8_splitField_22 : decode cX8_splitField 22 = .ok (.getfield 115, 3) := by decide +kernel
theorem dX8_splitField_25 : decode cX8_splitField 25 = .ok (.iload 4, 2) := by decide +kernel
theorem dX8_splitField_27 : decode cX8_splitField 27 = .ok (.iconst (-1), 1) := by decide +kernel
theorem dX8_splitField_28 : decode cX8_splitField 28 = .ok (.iastore, 1) := by decide +kernel
theorem dX8_splitField_29 : decode cX8_splitField 29 = .ok (.iinc 4 1, 3) := by decide +kernel
theorem dX8_splitField_32 : decode cX8_splitField 32 = .ok (.goto (-18), 3) := by decide +kernel
theorem dX8_splitField_35 : decode cX8_splitField 35 = .ok (.iconst 0, 1) := by decide +kernel
theorem dX8_splitField_36 : decode cX8_splitField 36 = .ok (.istore 4, 2) := by decide +kernel
theorem dX8_splitField_38 : decode cX8_splitField 38 = .ok (.iload 4, 2) := by decide +kernel
theorem dX8_splitField_40 : decode cX8_splitField 40 = .ok (.bipush 24, 2) := by decide +kernel
theorem dX8_splitField_42 : decode cX8_splitField 42 = .ok (.if_icmp .ge 119, 3) := by decide +kernel
theorem dX8_splitField_45 : decode cX8_splitField 45 = .ok (.aload_n 0, 1) := by decide +kernel
theorem dX8_splitField_46 : decode cX8_splitField 46 = .ok (.getfield 47, 3) := by decide +kernel
theorem dX8_splitField_49 : decode cX8_splitField 49 = .ok (.iload 4, 2) := by decide +kernel
theorem dX8_splitField_51 : decode cX8_splitField 51 = .ok (.iaload, 1) := by decide +kernel
theorem dX8_splitField_52 : decode cX8_splitField 52 = .ok (.aload_n 0, 1) := by decide +kernel
theorem dX8_splitField_53 : decode cX8_splitField 53 = .ok (.getfield 196, 3) := by decide +kernel
theorem dX8_splitField_56 : decode cX8_splitField 56 = .ok (.if_icmp .ne 99, 3) := by decide +kernel
theorem dX8_splitField_59 : decode cX8_splitField 59 = .ok (.aload_n 0, 1) := by decide +kernel
theorem dX8_splitField_60 : decode cX8_splitField 60 = .ok (.invokevirtual 124, 3) := by decide +kernel
theorem dX8_splitField_63 : decode cX8_splitField 63 = .ok (.istore 5, 2) := by decide +kernel
theorem dX8_splitField_65 : decode cX8_splitField 65 = .ok (.aload_n 0, 1) := by decide +kernel
theorem dX8_splitField_66 : decode cX8_splitField 66 = .ok (.getfield 47, 3) := by decide +kernel
theorem dX8_splitField_69 : decode cX8_splitField 69 = .ok (.iload 5, 2) := by decide +kernel
theorem dX8_splitField_71 : decode cX8_splitField 71 = .ok (.iload_n 2, 1) := by decide +kernel
theorem dX8_splitField_72 : decode cX8_splitField 72 = .ok (.iastore, 1) := by decide +kernel
theorem dX8_splitField_73 : decode cX8_splitField 73 = .ok (.aload_n 0, 1) := by decide +kernel
theorem dX8_splitField_74 : decode cX8_splitField 74 = .ok (.getfield 50, 3) := by decide +kernel
theorem dX8_splitField_77 : decode cX8_splitField 77 = .ok (.iload 5, 2) := by decide +kernel
theorem dX8_splitField_79 : decode cX8_splitField 79 = .ok (.aload_n 0, 1) := by decide +kernel
theorem dX8_splitField_80 : decode cX8_splitField 80 = .ok (.getfield 7, 3) := by decide +kernel
theorem dX8_splitField_83 : decode cX8_splitField 83 = .ok (.iload_n 2, 1) := by decide +kernel
theorem dX8_splitField_84 : decode cX8_splitField 84 = .ok (.iaload, 1) := by decide +kernel
theorem dX8_splitField_85 : decode cX8_splitField 85 = .ok (.iastore, 1) := by decide +kernel
theorem dX8_splitField_86 : decode cX8_splitField 86 = .ok (.iconst 0, 1) := by decide +kernel
theorem dX8_splitField_87 : decode cX8_splitField 87 = .ok (.istore 6, 2) := by decide +kernel
theorem dX8_splitField_89 : decode cX8_splitField 89 = .ok (.iload 6, 2) := by decide +kernel
theorem dX8_splitField_91 : decode cX8_splitField 91 = .ok (.aload_n 0, 1) := by decide +kernel
theorem dX8_splitField_92 : decode cX8_splitField 92 = .ok (.getfield 17, 3) := by decide +kernel
theorem dX8_splitField_95 : decode cX8_splitField 95 = .ok (.iload_n 2, 1) := by decide +kernel
theorem dX8_splitField_96 : decode cX8_splitField 96 = .ok (.iaload, 1) := by decide +kernel
theorem dX8_splitField_97 : decode cX8_splitField 97 = .ok (.if_icmp .ge 49, 3) := by decide +kernel
theorem dX8_splitField_100 : decode cX8_splitField 100 = .ok (.aload_n 0, 1) := by decide +kernel
theorem dX8_splitField_101 : decode cX8_splitField 101 = .ok (.getfield 53, 3) := by decide +kernel
theorem dX8_splitField_104 : decode cX8_splitField 104 = .ok (.bipush 6, 2) := by decide +kernel
theorem dX8_splitField_106 : decode cX8_splitField 106 = .ok (.iload 5, 2) := by decide +kernel
theorem dX8_splitField_108 : decode cX8_splitField 108 = .ok (.imul, 1) := by decide +kernel
theorem dX8_splitField_109 : decode cX8_splitField 109 = .ok (.iload 6, 2) := by decide +kernel
theorem dX8_splitField_111 : decode cX8_splitField 111 = .ok (.iadd, 1) := by decide +kernel
theorem dX8_splitField_112 : decode cX8_splitField 112 = .ok (.aload_n 0, 1) := by decide +kernel
theorem dX8_splitField_113 : decode cX8_splitField 113 = .ok (.getfield 96, 3) := by decide +kernel
theorem dX8_splitField_116 : decode cX8_splitField 116 = .ok (.bipush 6, 2) := by decide +kernel
theorem dX8_splitField_118 : decode cX8_splitField 118 = .ok (.iload 4, 2) := by decide +kernel
theorem dX8_splitField_120 : decode cX8_splitField 120 = .ok (.imul, 1) := by decide +kernel
theorem dX8_splitField_121 : decode cX8_splitField 121 = .ok (.aload_n 0, 1) := by decide +kernel
theorem dX8_splitField_122 : decode cX8_splitField 122 = .ok (.aload_n 0, 1) := by decide +kernel
theorem dX8_splitField_123 : decode cX8_splitField 123 = .ok (.getfield 20, 3) := by decide +kernel
theorem dX8_splitField_126 : decode cX8_splitField 126 = .ok (.bipush 6, 2) := by decide +kernel
theorem dX8_splitField_128 : decode cX8_splitField 128 = .ok (.iload_n 2, 1) := by decide +kernel
theorem dX8_splitField_129 : decode cX8_splitField 129 = .ok (.imul, 1) := by decide +kernel
theorem dX8_splitField_130 : decode cX8_splitField 130 = .ok (.iload 6, 2) := by decide +kernel
theorem dX8_splitField_132 : decode cX8_splitField 132 = .ok (.iadd, 1) := by decide +kernel
theorem dX8_splitField_133 : decode cX8_splitField 133 = .ok (.iaload, 1) := by decide +kernel
theorem dX8_splitField_134 : decode cX8_splitField 134 = .ok (.invokevirtual 210, 3) := by decide +kernel
theorem dX8_splitField_137 : decode cX8_splitField 137 = .ok (.iadd, 1) := by decide +kernel
theorem dX8_splitField_138 : decode cX8_splitField 138 = .ok (.iaload, 1) := by decide +kernel
theorem dX8_splitField_139 : decode cX8_splitField 139 = .ok (.iastore, 1) := by decide +kernel
theorem dX8_splitField_140 : decode cX8_splitField 140 = .ok (.iinc 6 1, 3) := by decide +kernel
theorem dX8_splitField_143 : decode cX8_splitField 143 = .ok (.goto (-54), 3) := by decide +kernel
theorem dX8_splitField_146 : decode cX8_splitField 146 = .ok (.aload_n 0, 1) := by decide +kernel
theorem dX8_splitField_147 : decode cX8_splitField 147 = .ok (.getfield 115, 3) := by decide +kernel
theorem dX8_splitField_150 : decode cX8_splitField 150 = .ok (.iload 4, 2) := by decide +kernel
theorem dX8_splitField_152 : decode cX8_splitField 152 = .ok (.iload 5, 2) := by decide +kernel
theorem dX8_splitField_154 : decode cX8_splitField 154 = .ok (.iastore, 1) := by decide +kernel
theorem dX8_splitField_155 : decode cX8_splitField 155 = .ok (.iinc 4 1, 3) := by decide +kernel
theorem dX8_splitField_158 : decode cX8_splitField 158 = .ok (.goto (-120), 3) := by decide +kernel
theorem dX8_splitField_161 : decode cX8_splitField 161 = .ok (.iconst 0, 1) := by decide +kernel
theorem dX8_splitField_162 : decode cX8_splitField 162 = .ok (.istore 4, 2) := by decide +kernel
theorem dX8_splitField_164 : decode cX8_splitField 164 = .ok (.iload 4, 2) := by decide +kernel
theorem dX8_splitField_166 : decode cX8_splitField 166 = .ok (.aload_n 0, 1) := by decide +kernel
theorem dX8_splitField_167 : decode cX8_splitField 167 = .ok (.getfield 17, 3) := by decide +kernel
theorem dX8_splitField_170 : decode cX8_splitField 170 = .ok (.iload_n 2, 1) := by decide +kernel
theorem dX8_splitField_171 : decode cX8_splitField 171 = .ok (.iaload, 1) := by decide +kernel
theorem dX8_splitField_172 : decode cX8_splitField 172 = .ok (.if_icmp .ge 29, 3) := by decide +kernel
theorem dX8_splitField_175 : decode cX8_splitField 175 = .ok (.aload_n 0, 1) := by decide +kernel
theorem dX8_splitField_176 : decode cX8_splitField 176 = .ok (.aload_n 0, 1) := by decide +kernel
theorem dX8_splitField_177 : decode cX8_splitField 177 = .ok (.aload_n 0, 1) := by decide +kernel
theorem dX8_splitField_178 : decode cX8_splitField 178 = .ok (.getfield 20, 3) := by decide +kernel
theorem dX8_splitField_181 : decode cX8_splitField 181 = .ok (.bipush 6, 2) := by decide +kernel
theorem dX8_splitField_183 : decode cX8_splitField 183 = .ok (.iload_n 2, 1) := by decide +kernel
theorem dX8_splitField_184 : decode cX8_splitField 184 = .ok (.imul, 1) := by decide +kernel
theorem dX8_splitField_185 : decode cX8_splitField 185 = .ok (.iload 4, 2) := by decide +kernel
theorem dX8_splitField_187 : decode cX8_splitField 187 = .ok (.iadd, 1) := by decide +kernel
theorem dX8_splitField_188 : decode cX8_splitField 188 = .ok (.iaload, 1) := by decide +kernel
theorem dX8_splitField_189 : decode cX8_splitField 189 = .ok (.invokevirtual 210, 3) := by decide +kernel
theorem dX8_splitField_192 : decode cX8_splitField 192 = .ok (.invokevirtual 213, 3) := by decide +kernel
theorem dX8_splitField_195 : decode cX8_splitField 195 = .ok (.iinc 4 1, 3) := by decide +kernel
theorem dX8_splitField_198 : decode cX8_splitField 198 = .ok (.goto (-34), 3) := by decide +kernel
theorem dX8_splitField_201 : decode cX8_splitField 201 = .ok (.aload_n 0, 1) := by decide +kernel
theorem dX8_splitField_202 : decode cX8_splitField 202 = .ok (.iconst 1, 1) := by decide +kernel
theorem dX8_splitField_203 : decode cX8_splitField 203 = .ok (.putfield 234, 3) := by decide +kernel
theorem dX8_splitField_206 : decode cX8_splitField 206 = .ok (.aload_n 0, 1) := by decide +kernel
theorem dX8_splitField_207 : decode cX8_splitField 207 = .ok (.dup, 1) := by decide +kernel
theorem dX8_splitField_208 : decode cX8_splitField 208 = .ok (.getfield 238, 3) := by decide +kernel
theorem dX8_splitField_211 : decode cX8_splitField 211 = .ok (.iconst 1, 1) := by decide +kernel
theorem dX8_splitField_212 : decode cX8_splitField 212 = .ok (.iload_n 2, 1) := by decide +kernel
theorem dX8_splitField_213 : decode cX8_splitField 213 = .ok (.ishl, 1) := by decide +kernel
theorem dX8_splitField_214 : decode cX8_splitField 214 = .ok (.ior, 1) := by decide +kernel
theorem dX8_splitField_215 : decode cX8_splitField 215 = .ok (.putfield 238, 3) := by decide +kernel
theorem dX8_splitField_218 : decode cX8_splitField 218 = .ok (.aload_n 0, 1) := by decide +kernel
theorem dX8_splitField_219 : decode cX8_splitField 219 = .ok (.iload_n 1, 1) := by decide +kernel
theorem dX8_splitField_220 : decode cX8_splitField 220 = .ok (.iconst 2, 1) := by decide +kernel
theorem dX8_splitField_221 : decode cX8_splitField 221 = .ok (.iload_n 2, 1) := by decide +kernel
theorem dX8_splitField_222 : decode cX8_splitField 222 = .ok (.iload_n 2, 1) := by decide +kernel
theorem dX8_splitField_223 : decode cX8_splitField 223 = .ok (.invokevirtual 220, 3) := by decide +kernel
theorem dX8_splitField_226 : decode cX8_splitField 226 = .ok (.ifCond .ne 5, 3) := by decide +kernel
theorem dX8_splitField_229 : decode cX8_splitField 229 = .ok (.iconst 0, 1) := by decide +kernel
theorem dX8_splitField_230 : decode cX8_splitField 230 = .ok (.ireturn, 1) := by decide +kernel
theorem dX8_splitField_231 : decode cX8_splitField 231 = .ok (.iconst 0, 1) := by decide +kernel
theorem dX8_splitField_232 : decode cX8_splitField 232 = .ok (.istore 4, 2) := by decide +kernel
theorem dX8_splitField_234 : decode cX8_splitField 234 = .ok (.iload 4, 2) := by decide +kernel
theorem dX8_splitField_236 : decode cX8_splitField 236 = .ok (.bipush 24, 2) := by decide +kernel
theorem dX8_splitField_238 : decode cX8_splitField 238 = .ok (.if_icmp .ge 33, 3) := by decide +kernel
theorem dX8_splitField_241 : decode cX8_splitField 241 = .ok (.aload_n 0, 1) := by decide +kernel
theorem dX8_splitField_242 : decode cX8_splitField 242 = .ok (.getfield 96, 3) := by decide +kernel
theorem dX8_splitField_245 : decode cX8_splitField 245 = .ok (.bipush 6, 2) := by decide +kernel
theorem dX8_splitField_247 : decode cX8_splitField 247 = .ok (.iload 4, 2) := by decide +kernel
theorem dX8_splitField_249 : decode cX8_splitField 249 = .ok (.imul, 1) := by decide +kernel
theorem dX8_splitField_250 : decode cX8_splitField 250 = .ok (.aload_n 0, 1) := by decide +kernel
theorem dX8_splitField_251 : decode cX8_splitField 251 = .ok (.getfield 207, 3) := by decide +kernel
theorem dX8_splitField_254 : decode cX8_splitField 254 = .ok (.iadd, 1) := by decide +kernel
theorem dX8_splitField_255 : decode cX8_splitField 255 = .ok (.iconst 1, 1) := by decide +kernel
theorem dX8_splitField_256 : decode cX8_splitField 256 = .ok (.isub, 1) := by decide +kernel
theorem dX8_splitField_257 : decode cX8_splitField 257 = .ok (.aload_n 0, 1) := by decide +kernel
theorem dX8_splitField_258 : decode cX8_splitField 258 = .ok (.getfield 115, 3) := by decide +kernel
theorem dX8_splitField_261 : decode cX8_splitField 261 = .ok (.iload 4, 2) := by decide +kernel
theorem dX8_splitField_263 : decode cX8_splitField 263 = .ok (.iaload, 1) := by decide +kernel
theorem dX8_splitField_264 : decode cX8_splitField 264 = .ok (.iastore, 1) := by decide +kernel
theorem dX8_splitField_265 : decode cX8_splitField 265 = .ok (.iinc 4 1, 3) := by decide +kernel
theorem dX8_splitField_268 : decode cX8_splitField 268 = .ok (.goto (-34), 3) := by decide +kernel
theorem dX8_splitField_271 : decode cX8_splitField 271 = .ok (.iconst 1, 1) := by decide +kernel
theorem dX8_splitField_272 : decode cX8_splitField 272 = .ok (.ireturn, 1) := by decide +kernel
theorem dX8_isHeld_0 : decode cX8_isHeld 0 = .ok (.iconst 0, 1) := by decide +kernel
theorem dX8_isHeld_1 : decode cX8_isHeld 1 = .ok (.istore_n 2, 1) := by decide +kernel
theorem dX8_isHeld_2 : decode cX8_isHeld 2 = .ok (.iconst 0, 1) := by decide +kernel
theorem dX8_isHeld_3 : decode cX8_isHeld 3 = .ok (.istore_n 3, 1) := by decide +kernel
theorem dX8_isHeld_4 : decode cX8_isHeld 4 = .ok (.iload_n 3, 1) := by decide +kernel
theorem dX8_isHeld_5 : decode cX8_isHeld 5 = .ok (.bipush 24, 2) := by decide +kernel
theorem dX8_isHeld_7 : decode cX8_isHeld 7 = .ok (.if_icmp .ge 79, 3) := by decide +kernel
theorem dX8_isHeld_10 : decode cX8_isHeld 10 = .ok (.iconst 0, 1) := by decide +kernel
theorem dX8_isHeld_11 : decode cX8_isHeld 11 = .ok (.istore 4, 2) := by decide +kernel
theorem dX8_isHeld_13 : decode cX8_isHeld 13 = .ok (.iload 4, 2) := by decide +kernel
theorem dX8_isHeld_15 : decode cX8_isHeld 15 = .ok (.bipush 8, 2) := by decide +kernel
theorem dX8_isHeld_17 : decode cX8_isHeld 17 = .ok (.if_icmp .ge 63, 3) := by decide +kernel
theorem dX8_isHeld_20 : decode cX8_isHeld 20 = .ok (.aload_n 0, 1) := by decide +kernel
theorem dX8_isHeld_21 : decode cX8_isHeld 21 = .ok (.getfield 47, 3) := by decide +kernel
theorem dX8_isHeld_24 : decode cX8_isHeld 24 = .ok (.iload_n 3, 1) := by decide +kernel
theorem dX8_isHeld_25 : decode cX8_isHeld 25 = .ok (.iaload, 1) := by decide +kernel
theorem dX8_isHeld_26 : decode cX8_isHeld 26 = .ok (.aload_n 0, 1) := by decide +kernel
theorem dX8_isHeld_27 : decode cX8_isHeld 27 = .ok (.getfield 196, 3) := by decide +kernel
theorem dX8_isHeld_30 : decode cX8_isHeld 30 = .ok (.if_icmp .ne 50, 3) := by decide +kernel
theorem dX8_isHeld_33 : decode cX8_isHeld 33 = .ok (.iload_n 2, 1) := by decide +kernel
theorem dX8_isHeld_34 : decode cX8_isHeld 34 = .ok (.ifCond .ne 34, 3) := by decide +kernel
theorem dX8_isHeld_37 : decode cX8_isHeld 37 = .ok (.aload_n 0, 1) := by decide +kernel
theorem dX8_isHeld_38 : decode cX8_isHeld 38 = .ok (.getfield 62, 3) := by decide +kernel
theorem dX8_isHeld_41 : decode cX8_isHeld 41 = .ok (.iload 4, 2) := by decide +kernel
theorem dX8_isHeld_43 : decode cX8_isHeld 43 = .ok (.iaload, 1) := by decide +kernel
theorem dX8_isHeld_44 : decode cX8_isHeld 44 = .ok (.ifCond .lt 28, 3) := by decide +kernel
theorem dX8_isHeld_47 : decode cX8_isHeld 47 = .ok (.aload_n 0, 1) := by decide +kernel
theorem dX8_isHeld_48 : decode cX8_isHeld 48 = .ok (.getfield 62, 3) := by decide +kernel
theorem dX8_isHeld_51 : decode cX8_isHeld 51 = .ok (.iload 4, 2) := by decide +kernel
theorem dX8_isHeld_53 : decode cX8_isHeld 53 = .ok (.iaload, 1) := by decide +kernel
theorem dX8_isHeld_54 : decode cX8_isHeld 54 = .ok (.aload_n 0, 1) := by decide +kernel
theorem dX8_isHeld_55 : decode cX8_isHeld 55 = .ok (.getfield 96, 3) := by decide +kernel
theorem dX8_isHeld_58 : decode cX8_isHeld 58 = .ok (.bipush 6, 2) := by decide +kernel
theorem dX8_isHeld_60 : decode cX8_isHeld 60 = .ok (.iload_n 3, 1) := by decide +kernel
theorem dX8_isHeld_61 : decode cX8_isHeld 61 = .ok (.imul, 1) := by decide +kernel
theorem dX8_isHeld_62 : decode cX8_isHeld 62 = .ok (.iload_n 1, 1) := by decide +kernel
theorem dX8_isHeld_63 : decode cX8_isHeld 63 = .ok (.iadd, 1) := by decide +kernel
theorem dX8_isHeld_64 : decode cX8_isHeld 64 = .ok (.iaload, 1) := by decide +kernel
theorem dX8_isHeld_65 : decode cX8_isHeld 65 = .ok (.if_icmp .ne 7, 3) := by decide +kernel
theorem dX8_isHeld_68 : decode cX8_isHeld 68 = .ok (.iconst 1, 1) := by decide +kernel
theorem dX8_isHeld_69 : decode cX8_isHeld 69 = .ok (.goto 4, 3) := by decide +kernel
theorem dX8_isHeld_72 : decode cX8_isHeld 72 = .ok (.iconst 0, 1) := by decide +kernel
theorem dX8_isHeld_73 : decode cX8_isHeld 73 = .ok (.istore_n 2, 1) := by decide +kernel
theorem dX8_isHeld_74 : decode cX8_isHeld 74 = .ok (.iinc 4 1, 3) := by decide +kernel
theorem dX8_isHeld_77 : decode cX8_isHeld 77 = .ok (.goto (-64), 3) := by decide +kernel
theorem dX8_isHeld_80 : decode cX8_isHeld 80 = .ok (.iinc 3 1, 3) := by decide +kernel
theorem dX8_isHeld_83 : decode cX8_isHeld 83 = .ok (.goto (-79), 3) := by decide +kernel
theorem dX8_isHeld_86 : decode cX8_isHeld 86 = .ok (.iload_n 2, 1) := by decide +kernel
theorem dX8_isHeld_87 : decode cX8_isHeld 87 = .ok (.ireturn, 1) := by decide +kernel
set_option maxRecDepth 20000 in
theorem ggX8_joinField_X8_findDraft : GoodIn wsX8_joinField wsX8_findDraft := goodIn_r _ [20, 12, 21, 41, 42, 43, 44, 45, 46, 47, 48, 49, 50, 51, 52, 53, 54, 55, 56, 57, 58, 59, 60, 61, 62, 63, 64, 65, 66, 67, 68, 69, 70, 71, 72, 73, 74, 75, 76, 77, 78, 79, 80, 81, 82, 83, 84] rfl (by decide +kernel)
set_option maxRecDepth 20000 in
theorem gX8_joinField_X8_findDraft : GoodIn wsX8_joinField (wsV RX8 210 RX8 yX8_findDraft wsX8_findDraft) := goodIn_app (goodIn_of _ (by decide +kernel)) ggX8_joinField_X8_findDraft
set_option maxRecDepth 20000 in
theorem ggX8_joinField_X8_hasNumbersAlone : GoodIn wsX8_joinField wsX8_hasNumbersAlone := goodIn_r _ [25, 6, 26, 41, 42, 43, 44, 45, 46, 47, 48, 49, 50, 51, 52, 53, 54, 55, 56, 57, 58, 59, 60, 61, 62, 63, 64, 65, 66, 67, 68, 69, 70, 71, 72, 73, 74, 75, 76, 77, 78, 79, 80, 81, 82, 83, 84] rfl (by decide +kernel)
set_option maxRecDepth 20000 in
theorem gX8_joinField_X8_hasNumbersAlone : GoodIn wsX8_joinField (wsV RX8 227 RX8 yX8_hasNumbersAlone wsX8_hasNumbersAlone) := goodIn_app (goodIn_of _ (by decide +kernel)) ggX8_joinField_X8_hasNumbersAlone
set_option maxRecDepth 20000 in
theorem ggX8_joinField_X8_isHeld : GoodIn wsX8_joinField wsX8_isHeld := goodIn_r _ [30, 10, 11, 31, 5, 41, 42, 43, 44, 45, 46, 47, 48, 49, 50, 51, 52, 53, 54, 55, 56, 57, 58, 59, 60, 61, 62, 63, 64, 65, 66, 67, 68, 69, 70, 71, 72, 73, 74, 75, 76, 77, 78, 79, 80, 81, 82, 83, 84] rfl (by decide +kernel)
set_option maxRecDepth 20000 in
theorem gX8_joinField_X8_isHeld : GoodIn wsX8_joinField (wsV RX8 241 RX8 yX8_isHeld wsX8_isHeld) := goodIn_app (goodIn_of _ (by decide +kernel)) ggX8_joinField_X8_isHeld
set_option maxRecDepth 20000 in
theorem ggX8_joinField_X8_takeField : GoodIn wsX8_joinField wsX8_takeField := goodIn_r _ [35, 12, 21, 1, 3, 36, 2, 5, 41, 42, 43, 44, 45, 46, 47, 48, 49, 50, 51, 52, 53, 54, 55, 56, 57, 58, 59, 60, 61, 62, 63, 64, 65, 66, 67, 68, 69, 70, 71, 72, 73, 74, 75, 76, 77, 78, 79, 80, 81, 82, 83, 84] rfl (by decide +kernel)
set_option maxRecDepth 20000 in
theorem gX8_joinField_X8_takeField : GoodIn wsX8_joinField (wsV RX8 213 RX8 yX8_takeField wsX8_takeField) := goodIn_app (goodIn_of _ (by decide +kernel)) ggX8_joinField_X8_takeField
set_option maxRecDepth 20000 in
theorem ggX8_joinField_X8_append : GoodIn wsX8_joinField wsX8_append := goodIn_r _ [40, 12, 21, 1, 3, 36, 2, 16, 17, 18, 19, 20, 41, 42, 43, 44, 45, 46, 47, 48, 49, 50, 51, 52, 53, 54, 55, 56, 57, 58, 59, 60, 61, 62, 63, 64, 65, 66, 67, 68, 69, 70, 71, 72, 73, 74, 75, 76, 77, 78, 79, 80, 81, 82, 83, 84] rfl (by decide +kernel)
set_option maxRecDepth 20000 in
theorem gX8_joinField_X8_append : GoodIn wsX8_joinField (wsV RX8 220 RX8 yX8_append wsX8_append) := goodIn_app (goodIn_of _ (by decide +kernel)) ggX8_joinField_X8_append
theorem dX8_joinField_0 : decode cX8_joinField 0 = .ok (.aload_n 0, 1) := by decide +kernel
theorem dX8_joinField_1 : decode cX8_joinField 1 = .ok (.iload_n 1, 1) := by decide +kernel
theorem dX8_joinField_2 : decode cX8_joinField 2 = .ok (.invokevirtual 210, 3) := by decide +kernel
theorem dX8_joinField_5 : decode cX8_joinField 5 = .ok (.istore_n 2, 1) := by decide +kernel
theorem dX8_joinField_6 : decode cX8_joinField 6 = .ok (.iload_n 2, 1) := by decide +kernel
theorem dX8_joinField_7 : decode cX8_joinField 7 = .ok (.ifCond .lt 43, 3) := by decide +kernel
theorem dX8_joinField_10 : decode cX8_joinField 10 = .ok (.aload_n 0, 1) := by decide +kernel
theorem dX8_joinField_11 : decode cX8_joinField 11 = .ok (.getfield 84, 3) := by decide +kernel
theorem dX8_joinField_14 : decode cX8_joinField 14 = .ok (.iload_n 2, 1) := by decide +kernel
theorem dX8_joinField_15 : decode cX8_joinField 15 = .ok (.iaload, 1) := by decide +kernel
theorem dX8_joinField_16 : decode cX8_joinField 16 = .ok (.iconst 2, 1) := by decide +kernel
theorem dX8_joinField_17 : decode cX8_joinField 17 = .ok (.if_icmp .ne 33, 3) := by decide +kernel
theorem dX8_joinField_20 : decode cX8_joinField 20 = .ok (.aload_n 0, 1) := by decide +kernel
theorem dX8_joinField_21 : decode cX8_joinField 21 = .ok (.getfield 93, 3) := by decide +kernel
theorem dX8_joinField_24 : decode cX8_joinField 24 = .ok (.iload_n 2, 1) := by decide +kernel
theorem dX8_joinField_25 : decode cX8_joinField 25 = .ok (.iaload, 1) := by decide +kernel
theorem dX8_joinField_26 : decode cX8_joinField 26 = .ok (.ifCond .lt 24, 3) := by decide +kernel
theorem dX8_joinField_29 : decode cX8_joinField 29 = .ok (.aload_n 0, 1) := by decide +kernel
theorem dX8_joinField_30 : decode cX8_joinField 30 = .ok (.aload_n 0, 1) := by decide +kernel
theorem dX8_joinField_31 : decode cX8_joinField 31 = .ok (.getfield 87, 3) := by decide +kernel
theorem dX8_joinField_34 : decode cX8_joinField 34 = .ok (.iload_n 2, 1) := by decide +kernel
theorem dX8_joinField_35 : decode cX8_joinField 35 = .ok (.iaload, 1) := by decide +kernel
theorem dX8_joinField_36 : decode cX8_joinField 36 = .ok (.invokevirtual 227, 3) := by decide +kernel
theorem dX8_joinField_39 : decode cX8_joinField 39 = .ok (.ifCond .eq 11, 3) := by decide +kernel
theorem dX8_joinField_42 : decode cX8_joinField 42 = .ok (.aload_n 0, 1) := by decide +kernel
theorem dX8_joinField_43 : decode cX8_joinField 43 = .ok (.iload_n 2, 1) := by decide +kernel
theorem dX8_joinField_44 : decode cX8_joinField 44 = .ok (.invokevirtual 241, 3) := by decide +kernel
theorem dX8_joinField_47 : decode cX8_joinField 47 = .ok (.ifCond .eq 5, 3) := by decide +kernel
theorem dX8_joinField_50 : decode cX8_joinField 50 = .ok (.iconst 0, 1) := by decide +kernel
theorem dX8_joinField_51 : decode cX8_joinField 51 = .ok (.ireturn, 1) := by decide +kernel
theorem dX8_joinField_52 : decode cX8_joinField 52 = .ok (.aload_n 0, 1) := by decide +kernel
theorem dX8_joinField_53 : decode cX8_joinField 53 = .ok (.getfield 87, 3) := by decide +kernel
theorem dX8_joinField_56 : decode cX8_joinField 56 = .ok (.iload_n 2, 1) := by decide +kernel
theorem dX8_joinField_57 : decode cX8_joinField 57 = .ok (.iaload, 1) := by decide +kernel
theorem dX8_joinField_58 : decode cX8_joinField 58 = .ok (.istore_n 3, 1) := by decide +kernel
theorem dX8_joinField_59 : decode cX8_joinField 59 = .ok (.iconst 0, 1) := by decide +kernel
theorem dX8_joinField_60 : decode cX8_joinField 60 = .ok (.istore 4, 2) := by decide +kernel
theorem dX8_joinField_62 : decode cX8_joinField 62 = .ok (.iload 4, 2) := by decide +kernel
theorem dX8_joinField_64 : decode cX8_joinField 64 = .ok (.bipush 24, 2) := by decide +kernel
theorem dX8_joinField_66 : decode cX8_joinField 66 = .ok (.if_icmp .ge 28, 3) := by decide +kernel
theorem dX8_joinField_69 : decode cX8_joinField 69 = .ok (.aload_n 0, 1) := by decide +kernel
theorem dX8_joinField_70 : decode cX8_joinField 70 = .ok (.getfield 115, 3) := by decide +kernel
theorem dX8_joinField_73 : decode cX8_joinField 73 = .ok (.iload 4, 2) := by decide +kernel
theorem dX8_joinField_75 : decode cX8_joinField 75 = .ok (.aload_n 0, 1) := by decide +kernel
theorem dX8_joinField_76 : decode cX8_joinField 76 = .ok (.getfield 96, 3) := by decide +kernel
theorem dX8_joinField_79 : decode cX8_joinField 79 = .ok (.bipush 6, 2) := by decide +kernel
theorem dX8_joinField_81 : decode cX8_joinField 81 = .ok (.iload 4, 2) := by decide +kernel
theorem dX8_joinField_83 : decode cX8_joinField 83 = .ok (.imul, 1) := by decide +kernel
theorem dX8_joinField_84 : decode cX8_joinField 84 = .ok (.iload_n 2, 1) := by decide +kernel
theorem dX8_joinField_85 : decode cX8_joinField 85 = .ok (.iadd, 1) := by decide +kernel
theorem dX8_joinField_86 : decode cX8_joinField 86 = .ok (.iaload, 1) := by decide +kernel
theorem dX8_joinField_87 : decode cX8_joinField 87 = .ok (.iastore, 1) := by decide +kernel
theorem dX8_joinField_88 : decode cX8_joinField 88 = .ok (.iinc 4 1, 3) := by decide +kernel
theorem dX8_joinField_91 : decode cX8_joinField 91 = .ok (.goto (-29), 3) := by decide +kernel
theorem dX8_joinField_94 : decode cX8_joinField 94 = .ok (.aload_n 0, 1) := by decide +kernel
theorem dX8_joinField_95 : decode cX8_joinField 95 = .ok (.iload_n 2, 1) := by decide +kernel
theorem dX8_joinField_96 : decode cX8_joinField 96 = .ok (.invokevirtual 213, 3) := by decide +kernel
theorem dX8_joinField_99 : decode cX8_joinField 99 = .ok (.iconst 0, 1) := by decide +kernel
theorem dX8_joinField_100 : decode cX8_joinField 100 = .ok (.istore 4, 2) := by decide +kernel
theorem dX8_joinField_102 : decode cX8_joinField 102 = .ok (.iload 4, 2) := by decide +kernel
theorem dX8_joinField_104 : decode cX8_joinField 104 = .ok (.aload_n 0, 1) := by decide +kernel
theorem dX8_joinField_105 : decode cX8_joinField 105 = .ok (.getfield 17, 3) := by decide +kernel
theorem dX8_joinField_108 : decode cX8_joinField 108 = .ok (.iload_n 3, 1) := by decide +kernel
theorem dX8_joinField_109 : decode cX8_joinField 109 = .ok (.iaload, 1) := by decide +kernel
theorem dX8_joinField_110 : decode cX8_joinField 110 = .ok (.if_icmp .ge 120, 3) := by decide +kernel
theorem dX8_joinField_113 : decode cX8_joinField 113 = .ok (.aload_n 0, 1) := by decide +kernel
theorem dX8_joinField_114 : decode cX8_joinField 114 = .ok (.aload_n 0, 1) := by decide +kernel
theorem dX8_joinField_115 : decode cX8_joinField 115 = .ok (.getfield 20, 3) := by decide +kernel
theorem dX8_joinField_118 : decode cX8_joinField 118 = .ok (.bipush 6, 2) := by decide +kernel
theorem dX8_joinField_120 : decode cX8_joinField 120 = .ok (.iload_n 3, 1) := by decide +kernel
theorem dX8_joinField_121 : decode cX8_joinField 121 = .ok (.imul, 1) := by decide +kernel
theorem dX8_joinField_122 : decode cX8_joinField 122 = .ok (.iload 4, 2) := by decide +kernel
theorem dX8_joinField_124 : decode cX8_joinField 124 = .ok (.iadd, 1) := by decide +kernel
theorem dX8_joinField_125 : decode cX8_joinField 125 = .ok (.iaload, 1) := by decide +kernel
theorem dX8_joinField_126 : decode cX8_joinField 126 = .ok (.iconst 0, 1) := by decide +kernel
theorem dX8_joinField_127 : decode cX8_joinField 127 = .ok (.aload_n 0, 1) := by decide +kernel
theorem dX8_joinField_128 : decode cX8_joinField 128 = .ok (.getfield 26, 3) := by decide +kernel
theorem dX8_joinField_131 : decode cX8_joinField 131 = .ok (.bipush 6, 2) := by decide +kernel
theorem dX8_joinField_133 : decode cX8_joinField 133 = .ok (.iload_n 3, 1) := by decide +kernel
theorem dX8_joinField_134 : decode cX8_joinField 134 = .ok (.imul, 1) := by decide +kernel
theorem dX8_joinField_135 : decode cX8_joinField 135 = .ok (.iload 4, 2) := by decide +kernel
theorem dX8_joinField_137 : decode cX8_joinField 137 = .ok (.iadd, 1) := by decide +kernel
theorem dX8_joinField_138 : decode cX8_joinField 138 = .ok (.iaload, 1) := by decide +kernel
theorem dX8_joinField_139 : decode cX8_joinField 139 = .ok (.aload_n 0, 1) := by decide +kernel
theorem dX8_joinField_140 : decode cX8_joinField 140 = .ok (.getfield 29, 3) := by decide +kernel
theorem dX8_joinField_143 : decode cX8_joinField 143 = .ok (.bipush 6, 2) := by decide +kernel
theorem dX8_joinField_145 : decode cX8_joinField 145 = .ok (.iload_n 3, 1) := by decide +kernel
theorem dX8_joinField_146 : decode cX8_joinField 146 = .ok (.imul, 1) := by decide +kernel
theorem dX8_joinField_147 : decode cX8_joinField 147 = .ok (.iload 4, 2) := by decide +kernel
theorem dX8_joinField_149 : decode cX8_joinField 149 = .ok (.iadd, 1) := by decide +kernel
theorem dX8_joinField_150 : decode cX8_joinField 150 = .ok (.iaload, 1) := by decide +kernel
theorem dX8_joinField_151 : decode cX8_joinField 151 = .ok (.invokevirtual 220, 3) := by decide +kernel
theorem dX8_joinField_154 : decode cX8_joinField 154 = .ok (.ifCond .ne 5, 3) := by decide +kernel
theorem dX8_joinField_157 : decode cX8_joinField 157 = .ok (.iconst 0, 1) := by decide +kernel
theorem dX8_joinField_158 : decode cX8_joinField 158 = .ok (.ireturn, 1) := by decide +kernel
theorem dX8_joinField_159 : decode cX8_joinField 159 = .ok (.iconst 0, 1) := by decide +kernel
theorem dX8_joinField_160 : decode cX8_joinField 160 = .ok (.istore 5, 2) := by decide +kernel
theorem dX8_joinField_162 : decode cX8_joinField 162 = .ok (.iload 5, 2) := by decide +kernel
theorem dX8_joinField_164 : decode cX8_joinField 164 = .ok (.bipush 24, 2) := by decide +kernel
theorem dX8_joinField_166 : decode cX8_joinField 166 = .ok (.if_icmp .ge 58, 3) := by decide +kernel
theorem dX8_joinField_169 : decode cX8_joinField 169 = .ok (.aload_n 0, 1) := by decide +kernel
theorem dX8_joinField_170 : decode cX8_joinField 170 = .ok (.getfield 47, 3) := by decide +kernel
theorem dX8_joinField_173 : decode cX8_joinField 173 = .ok (.iload 5, 2) := by decide +kernel
theorem dX8_joinField_175 : decode cX8_joinField 175 = .ok (.iaload, 1) := by decide +kernel
theorem dX8_joinField_176 : decode cX8_joinField 176 = .ok (.aload_n 0, 1) := by decide +kernel
theorem dX8_joinField_177 : decode cX8_joinField 177 = .ok (.getfield 196, 3) := by decide +kernel
theorem dX8_joinField_180 : decode cX8_joinField 180 = .ok (.if_icmp .ne 38, 3) := by decide +kernel
theorem dX8_joinField_183 : decode cX8_joinField 183 = .ok (.aload_n 0, 1) := by decide +kernel
theorem dX8_joinField_184 : decode cX8_joinField 184 = .ok (.getfield 96, 3) := by decide +kernel
theorem dX8_joinField_187 : decode cX8_joinField 187 = .ok (.bipush 6, 2) := by decide +kernel
theorem dX8_joinField_189 : decode cX8_joinField 189 = .ok (.iload 5, 2) := by decide +kernel
theorem dX8_joinField_191 : decode cX8_joinField 191 = .ok (.imul, 1) := by decide +kernel
theorem dX8_joinField_192 : decode cX8_joinField 192 = .ok (.aload_n 0, 1) := by decide +kernel
theorem dX8_joinField_193 : decode cX8_joinField 193 = .ok (.getfield 207, 3) := by decide +kernel
theorem dX8_joinField_196 : decode cX8_joinField 196 = .ok (.iadd, 1) := by decide +kernel
theorem dX8_joinField_197 : decode cX8_joinField 197 = .ok (.iconst 1, 1) := by decide +kernel
theorem dX8_joinField_198 : decode cX8_joinField 198 = .ok (.isub, 1) := by decide +kernel
theorem dX8_joinField_199 : decode cX8_joinField 199 = .ok (.aload_n 0, 1) := by decide +kernel
theorem dX8_joinField_200 : decode cX8_joinField 200 = .ok (.getfield 53, 3) := by decide +kernel
theorem dX8_joinField_203 : decode cX8_joinField 203 = .ok (.bipush 6, 2) := by decide +kernel
theorem dX8_joinField_205 : decode cX8_joinField 205 = .ok (.aload_n 0, 1) := by decide +kernel
theorem dX8_joinField_206 : decode cX8_joinField 206 = .ok (.getfield 115, 3) := by decide +kernel
theorem dX8_joinField_209 : decode cX8_joinField 209 = .ok (.iload 5, 2) := by decide +kernel
theorem dX8_joinField_211 : decode cX8_joinField 211 = .ok (.iaload, 1) := by decide +kernel
theorem dX8_joinField_212 : decode cX8_joinField 212 = .ok (.imul, 1) := by decide +kernel
theorem dX8_joinField_213 : decode cX8_joinField 213 = .ok (.iload 4, 2) := by decide +kernel
theorem dX8_joinField_215 : decode cX8_joinField 215 = .ok (.iadd, 1) := by decide +kernel
theorem dX8_joinField_216 : decode cX8_joinField 216 = .ok (.iaload, 1) := by decide +kernel
theorem dX8_joinField_217 : decode cX8_joinField 217 = .ok (.iastore, 1) := by decide +kernel
