theorem dX8_joinField_218 : decode cX8_joinField 218 = .ok (.iinc 5 1, 3) := by decide +kernel
theorem dX8_joinField_221 : decode cX8_joinField 221 = .ok (.goto (-59), 3) := by decide +kernel
theorem dX8_joinField_224 : decode cX8_joinField 224 = .ok (.iinc 4 1, 3) := by decide +kernel
theorem dX8_joinField_227 : decode cX8_joinField 227 = .ok (.goto (-125), 3) := by decide +kernel
theorem dX8_joinField_230 : decode cX8_joinField 230 = .ok (.iconst 0, 1) := by decide +kernel
theorem dX8_joinField_231 : decode cX8_joinField 231 = .ok (.istore 4, 2) := by decide +kernel
theorem dX8_joinField_233 : decode cX8_joinField 233 = .ok (.iload 4, 2) := by decide +kernel
theorem dX8_joinField_235 : decode cX8_joinField 235 = .ok (.bipush 24, 2) := by decide +kernel
theorem dX8_joinField_237 : decode cX8_joinField 237 = .ok (.if_icmp .ge 36, 3) := by decide +kernel
theorem dX8_joinField_240 : decode cX8_joinField 240 = .ok (.aload_n 0, 1) := by decide +kernel
theorem dX8_joinField_241 : decode cX8_joinField 241 = .ok (.getfield 47, 3) := by decide +kernel
theorem dX8_joinField_244 : decode cX8_joinField 244 = .ok (.iload 4, 2) := by decide +kernel
theorem dX8_joinField_246 : decode cX8_joinField 246 = .ok (.iaload, 1) := by decide +kernel
theorem dX8_joinField_247 : decode cX8_joinField 247 = .ok (.aload_n 0, 1) := by decide +kernel
theorem dX8_joinField_248 : decode cX8_joinField 248 = .ok (.getfield 196, 3) := by decide +kernel
theorem dX8_joinField_251 : decode cX8_joinField 251 = .ok (.if_icmp .ne 16, 3) := by decide +kernel
theorem dX8_joinField_254 : decode cX8_joinField 254 = .ok (.aload_n 0, 1) := by decide +kernel
theorem dX8_joinField_255 : decode cX8_joinField 255 = .ok (.getfield 47, 3) := by decide +kernel
theorem dX8_joinField_258 : decode cX8_joinField 258 = .ok (.aload_n 0, 1) := by decide +kernel
theorem dX8_joinField_259 : decode cX8_joinField 259 = .ok (.getfield 115, 3) := by decide +kernel
theorem dX8_joinField_262 : decode cX8_joinField 262 = .ok (.iload 4, 2) := by decide +kernel
theorem dX8_joinField_264 : decode cX8_joinField 264 = .ok (.iaload, 1) := by decide +kernel
theorem dX8_joinField_265 : decode cX8_joinField 265 = .ok (.iconst (-1), 1) := by decide +kernel
theorem dX8_joinField_266 : decode cX8_joinField 266 = .ok (.iastore, 1) := by decide +kernel
theorem dX8_joinField_267 : decode cX8_joinField 267 = .ok (.iinc 4 1, 3) := by decide +kernel
theorem dX8_joinField_270 : decode cX8_joinField 270 = .ok (.goto (-37), 3) := by decide +kernel
theorem dX8_joinField_273 : decode cX8_joinField 273 = .ok (.aload_n 0, 1) := by decide +kernel
theorem dX8_joinField_274 : decode cX8_joinField 274 = .ok (.iconst 1, 1) := by decide +kernel
theorem dX8_joinField_275 : decode cX8_joinField 275 = .ok (.putfield 234, 3) := by decide +kernel
theorem dX8_joinField_278 : decode cX8_joinField 278 = .ok (.aload_n 0, 1) := by decide +kernel
theorem dX8_joinField_279 : decode cX8_joinField 279 = .ok (.dup, 1) := by decide +kernel
theorem dX8_joinField_280 : decode cX8_joinField 280 = .ok (.getfield 238, 3) := by decide +kernel
theorem dX8_joinField_283 : decode cX8_joinField 283 = .ok (.iconst 1, 1) := by decide +kernel
theorem dX8_joinField_284 : decode cX8_joinField 284 = .ok (.iload_n 3, 1) := by decide +kernel
theorem dX8_joinField_285 : decode cX8_joinField 285 = .ok (.ishl, 1) := by decide +kernel
theorem dX8_joinField_286 : decode cX8_joinField 286 = .ok (.ior, 1) := by decide +kernel
theorem dX8_joinField_287 : decode cX8_joinField 287 = .ok (.putfield 238, 3) := by decide +kernel
theorem dX8_joinField_290 : decode cX8_joinField 290 = .ok (.iconst 1, 1) := by decide +kernel
theorem dX8_joinField_291 : decode cX8_joinField 291 = .ok (.ireturn, 1) := by decide +kernel
set_option maxRecDepth 20000 in
theorem ggX8_act_X8_dropField : GoodIn wsX8_act wsX8_dropField := goodIn_r _ [6, 7, 8, 9, 10, 5, 11, 12, 13, 14, 15, 16, 17, 18, 19, 20, 21, 120, 121, 122, 123, 124, 125, 126, 127, 128, 129, 130, 131, 132, 133, 134, 135, 136, 137, 138, 139, 140, 141, 142, 143, 144, 145, 146, 147, 148, 149, 150, 151, 152, 153, 154, 155, 156, 157, 158, 159, 160, 161, 162, 163] rfl (by decide +kernel)
set_option maxRecDepth 20000 in
theorem gX8_act_X8_dropField : GoodIn wsX8_act (wsV RX8 244 RX8 yX8_dropField wsX8_dropField) := goodIn_app (goodIn_of _ (by decide +kernel)) ggX8_act_X8_dropField
set_option maxRecDepth 20000 in
theorem ggX8_act_X8_nameField : GoodIn wsX8_act wsX8_nameField := goodIn_r _ [25, 13, 8, 9, 10, 5, 11, 12, 120, 121, 122, 123, 124, 125, 126, 127, 128, 129, 130, 131, 132, 133, 134, 135, 136, 137, 138, 139, 140, 141, 142, 143, 144, 145, 146, 147, 148, 149, 150, 151, 152, 153, 154, 155, 156, 157, 158, 159, 160, 161, 162, 163] rfl (by decide +kernel)
set_option maxRecDepth 20000 in
theorem gX8_act_X8_nameField : GoodIn wsX8_act (wsV RX8 247 RX8 yX8_nameField wsX8_nameField) := goodIn_app (goodIn_of _ (by decide +kernel)) ggX8_act_X8_nameField
set_option maxRecDepth 20000 in
theorem ggX8_act_X8_numberField : GoodIn wsX8_act wsX8_numberField := goodIn_r _ [29, 30, 31, 21, 12, 32, 33, 34, 5, 35, 36, 37, 38, 39, 40, 41, 42, 43, 44, 45, 46, 47, 48, 49, 50, 51, 52, 53, 54, 55, 56, 57, 58, 59, 60, 61, 62, 63, 64, 65, 66, 67, 68, 69, 70, 71, 72, 13, 7, 18, 19, 20, 8, 9, 10, 11, 73, 74, 75, 76, 77, 120, 121, 122, 123, 124, 125, 126, 127, 128, 129, 130, 131, 132, 133, 134, 135, 136, 137, 138, 139, 140, 141, 142, 143, 144, 145, 146, 147, 148, 149, 150, 151, 152, 153, 154, 155, 156, 157, 158, 159, 160, 161, 162, 163] rfl (by decide +kernel)
set_option maxRecDepth 20000 in
theorem gX8_act_X8_numberField : GoodIn wsX8_act (wsV RX8 250 RX8 yX8_numberField wsX8_numberField) := goodIn_app (goodIn_of _ (by decide +kernel)) ggX8_act_X8_numberField
set_option maxRecDepth 20000 in
theorem ggX8_act_X8_rangeField : GoodIn wsX8_act wsX8_rangeField := goodIn_r _ [81, 7, 18, 19, 21, 30, 31, 8, 9, 10, 5, 11, 12, 13, 120, 121, 122, 123, 124, 125, 126, 127, 128, 129, 130, 131, 132, 133, 134, 135, 136, 137, 138, 139, 140, 141, 142, 143, 144, 145, 146, 147, 148, 149, 150, 151, 152, 153, 154, 155, 156, 157, 158, 159, 160, 161, 162, 163] rfl (by decide +kernel)
set_option maxRecDepth 20000 in
theorem gX8_act_X8_rangeField : GoodIn wsX8_act (wsV RX8 253 RX8 yX8_rangeField wsX8_rangeField) := goodIn_app (goodIn_of _ (by decide +kernel)) ggX8_act_X8_rangeField
set_option maxRecDepth 20000 in
theorem ggX8_act_X8_referenceField : GoodIn wsX8_act wsX8_referenceField := goodIn_r _ [85, 21, 12, 69, 70, 71, 5, 72, 13, 7, 18, 19, 20, 8, 9, 10, 11, 120, 121, 122, 123, 124, 125, 126, 127, 128, 129, 130, 131, 132, 133, 134, 135, 136, 137, 138, 139, 140, 141, 142, 143, 144, 145, 146, 147, 148, 149, 150, 151, 152, 153, 154, 155, 156, 157, 158, 159, 160, 161, 162, 163] rfl (by decide +kernel)
set_option maxRecDepth 20000 in
theorem gX8_act_X8_referenceField : GoodIn wsX8_act (wsV RX8 257 RX8 yX8_referenceField wsX8_referenceField) := goodIn_app (goodIn_of _ (by decide +kernel)) ggX8_act_X8_referenceField
set_option maxRecDepth 20000 in
theorem ggX8_act_X8_splitField : GoodIn wsX8_act wsX8_splitField := goodIn_r _ [89, 90, 30, 31, 91, 92, 54, 77, 21, 55, 93, 94, 12, 95, 96, 97, 5, 98, 7, 18, 46, 19, 47, 8, 9, 10, 11, 13, 99, 100, 101, 102, 45, 103, 104, 105, 106, 107, 108, 109, 110, 14, 15, 16, 17, 20, 69, 70, 71, 72, 120, 121, 122, 123, 124, 125, 126, 127, 128, 129, 130, 131, 132, 133, 134, 135, 136, 137, 138, 139, 140, 141, 142, 143, 144, 145, 146, 147, 148, 149, 150, 151, 152, 153, 154, 155, 156, 157, 158, 159, 160, 161, 162, 163] rfl (by decide +kernel)
set_option maxRecDepth 20000 in
theorem gX8_act_X8_splitField : GoodIn wsX8_act (wsV RX8 260 RX8 yX8_splitField wsX8_splitField) := goodIn_app (goodIn_of _ (by decide +kernel)) ggX8_act_X8_splitField
set_option maxRecDepth 20000 in
theorem ggX8_act_X8_joinField : GoodIn wsX8_act wsX8_joinField := goodIn_r _ [114, 7, 20, 18, 90, 21, 54, 55, 46, 47, 30, 31, 12, 77, 93, 94, 8, 9, 10, 5, 11, 13, 99, 100, 101, 102, 45, 115, 116, 117, 118, 119, 14, 15, 16, 17, 19, 69, 70, 71, 72, 120, 121, 122, 123, 124, 125, 126, 127, 128, 129, 130, 131, 132, 133, 134, 135, 136, 137, 138, 139, 140, 141, 142, 143, 144, 145, 146, 147, 148, 149, 150, 151, 152, 153, 154, 155, 156, 157, 158, 159, 160, 161, 162, 163] rfl (by decide +kernel)
set_option maxRecDepth 20000 in
theorem gX8_act_X8_joinField : GoodIn wsX8_act (wsV RX8 263 RX8 yX8_joinField wsX8_joinField) := goodIn_app (goodIn_of _ (by decide +kernel)) ggX8_act_X8_joinField
theorem dX8_act_0 : decode cX8_act 0 = .ok (.aload_n 0, 1) := by decide +kernel
theorem dX8_act_1 : decode cX8_act 1 = .ok (.getfield 68, 3) := by decide +kernel
theorem dX8_act_4 : decode cX8_act 4 = .ok (.iconst 5, 1) := by decide +kernel
theorem dX8_act_5 : decode cX8_act 5 = .ok (.iload_n 1, 1) := by decide +kernel
theorem dX8_act_6 : decode cX8_act 6 = .ok (.imul, 1) := by decide +kernel
theorem dX8_act_7 : decode cX8_act 7 = .ok (.iconst 1, 1) := by decide +kernel
theorem dX8_act_8 : decode cX8_act 8 = .ok (.iadd, 1) := by decide +kernel
theorem dX8_act_9 : decode cX8_act 9 = .ok (.iaload, 1) := by decide +kernel
theorem dX8_act_10 : decode cX8_act 10 = .ok (.istore_n 2, 1) := by decide +kernel
theorem dX8_act_11 : decode cX8_act 11 = .ok (.aload_n 0, 1) := by decide +kernel
theorem dX8_act_12 : decode cX8_act 12 = .ok (.getfield 68, 3) := by decide +kernel
theorem dX8_act_15 : decode cX8_act 15 = .ok (.iconst 5, 1) := by decide +kernel
theorem dX8_act_16 : decode cX8_act 16 = .ok (.iload_n 1, 1) := by decide +kernel
theorem dX8_act_17 : decode cX8_act 17 = .ok (.imul, 1) := by decide +kernel
theorem dX8_act_18 : decode cX8_act 18 = .ok (.iconst 2, 1) := by decide +kernel
theorem dX8_act_19 : decode cX8_act 19 = .ok (.iadd, 1) := by decide +kernel
theorem dX8_act_20 : decode cX8_act 20 = .ok (.iaload, 1) := by decide +kernel
theorem dX8_act_21 : decode cX8_act 21 = .ok (.istore_n 3, 1) := by decide +kernel
theorem dX8_act_22 : decode cX8_act 22 = .ok (.aload_n 0, 1) := by decide +kernel
theorem dX8_act_23 : decode cX8_act 23 = .ok (.getfield 68, 3) := by decide +kernel
theorem dX8_act_26 : decode cX8_act 26 = .ok (.iconst 5, 1) := by decide +kernel
theorem dX8_act_27 : decode cX8_act 27 = .ok (.iload_n 1, 1) := by decide +kernel
theorem dX8_act_28 : decode cX8_act 28 = .ok (.imul, 1) := by decide +kernel
theorem dX8_act_29 : decode cX8_act 29 = .ok (.iconst 3, 1) := by decide +kernel
theorem dX8_act_30 : decode cX8_act 30 = .ok (.iadd, 1) := by decide +kernel
theorem dX8_act_31 : decode cX8_act 31 = .ok (.iaload, 1) := by decide +kernel
theorem dX8_act_32 : decode cX8_act 32 = .ok (.istore 4, 2) := by decide +kernel
theorem dX8_act_34 : decode cX8_act 34 = .ok (.aload_n 0, 1) := by decide +kernel
theorem dX8_act_35 : decode cX8_act 35 = .ok (.getfield 68, 3) := by decide +kernel
theorem dX8_act_38 : decode cX8_act 38 = .ok (.iconst 5, 1) := by decide +kernel
theorem dX8_act_39 : decode cX8_act 39 = .ok (.iload_n 1, 1) := by decide +kernel
theorem dX8_act_40 : decode cX8_act 40 = .ok (.imul, 1) := by decide +kernel
theorem dX8_act_41 : decode cX8_act 41 = .ok (.iaload, 1) := by decide +kernel
theorem dX8_act_42 : decode cX8_act 42 = .ok (.tableswitch 105 0 5 #[38, 44, 51, 61, 89, 96], 38) := by decide +kernel
theorem dX8_act_80 : decode cX8_act 80 = .ok (.aload_n 0, 1) := by decide +kernel
theorem dX8_act_81 : decode cX8_act 81 = .ok (.iload_n 2, 1) := by decide +kernel
theorem dX8_act_82 : decode cX8_act 82 = .ok (.invokevirtual 244, 3) := by decide +kernel
theorem dX8_act_85 : decode cX8_act 85 = .ok (.ireturn, 1) := by decide +kernel
theorem dX8_act_86 : decode cX8_act 86 = .ok (.aload_n 0, 1) := by decide +kernel
theorem dX8_act_87 : decode cX8_act 87 = .ok (.iload_n 2, 1) := by decide +kernel
theorem dX8_act_88 : decode cX8_act 88 = .ok (.iload_n 3, 1) := by decide +kernel
theorem dX8_act_89 : decode cX8_act 89 = .ok (.invokevirtual 247, 3) := by decide +kernel
theorem dX8_act_92 : decode cX8_act 92 = .ok (.ireturn, 1) := by decide +kernel
theorem dX8_act_93 : decode cX8_act 93 = .ok (.aload_n 0, 1) := by decide +kernel
theorem dX8_act_94 : decode cX8_act 94 = .ok (.iload_n 1, 1) := by decide +kernel
theorem dX8_act_95 : decode cX8_act 95 = .ok (.iload_n 2, 1) := by decide +kernel
theorem dX8_act_96 : decode cX8_act 96 = .ok (.iload_n 3, 1) := by decide +kernel
theorem dX8_act_97 : decode cX8_act 97 = .ok (.iload 4, 2) := by decide +kernel
theorem dX8_act_99 : decode cX8_act 99 = .ok (.invokevirtual 250, 3) := by decide +kernel
theorem dX8_act_102 : decode cX8_act 102 = .ok (.ireturn, 1) := by decide +kernel
theorem dX8_act_103 : decode cX8_act 103 = .ok (.aload_n 0, 1) := by decide +kernel
theorem dX8_act_104 : decode cX8_act 104 = .ok (.iload_n 2, 1) := by decide +kernel
theorem dX8_act_105 : decode cX8_act 105 = .ok (.iload_n 3, 1) := by decide +kernel
theorem dX8_act_106 : decode cX8_act 106 = .ok (.iload 4, 2) := by decide +kernel
theorem dX8_act_108 : decode cX8_act 108 = .ok (.aload_n 0, 1) := by decide +kernel
theorem dX8_act_109 : decode cX8_act 109 = .ok (.getfield 68, 3) := by decide +kernel
theorem dX8_act_112 : decode cX8_act 112 = .ok (.iconst 5, 1) := by decide +kernel
theorem dX8_act_113 : decode cX8_act 113 = .ok (.iload_n 1, 1) := by decide +kernel
theorem dX8_act_114 : decode cX8_act 114 = .ok (.imul, 1) := by decide +kernel
theorem dX8_act_115 : decode cX8_act 115 = .ok (.iconst 4, 1) := by decide +kernel
theorem dX8_act_116 : decode cX8_act 116 = .ok (.iadd, 1) := by decide +kernel
theorem dX8_act_117 : decode cX8_act 117 = .ok (.iaload, 1) := by decide +kernel
theorem dX8_act_118 : decode cX8_act 118 = .ok (.iconst 1, 1) := by decide +kernel
theorem dX8_act_119 : decode cX8_act 119 = .ok (.if_icmp .ne 7, 3) := by decide +kernel
theorem dX8_act_122 : decode cX8_act 122 = .ok (.iconst 1, 1) := by decide +kernel
theorem dX8_act_123 : decode cX8_act 123 = .ok (.goto 4, 3) := by decide +kernel
theorem dX8_act_126 : decode cX8_act 126 = .ok (.iconst 0, 1) := by decide +kernel
theorem dX8_act_127 : decode cX8_act 127 = .ok (.invokevirtual 253, 3) := by decide +kernel
theorem dX8_act_130 : decode cX8_act 130 = .ok (.ireturn, 1) := by decide +kernel
theorem dX8_act_131 : decode cX8_act 131 = .ok (.aload_n 0, 1) := by decide +kernel
theorem dX8_act_132 : decode cX8_act 132 = .ok (.iload_n 2, 1) := by decide +kernel
theorem dX8_act_133 : decode cX8_act 133 = .ok (.iload_n 3, 1) := by decide +kernel
theorem dX8_act_134 : decode cX8_act 134 = .ok (.invokevirtual 257, 3) := by decide +kernel
theorem dX8_act_137 : decode cX8_act 137 = .ok (.ireturn, 1) := by decide +kernel
theorem dX8_act_138 : decode cX8_act 138 = .ok (.aload_n 0, 1) := by decide +kernel
theorem dX8_act_139 : decode cX8_act 139 = .ok (.iload_n 2, 1) := by decide +kernel
theorem dX8_act_140 : decode cX8_act 140 = .ok (.iload_n 3, 1) := by decide +kernel
theorem dX8_act_141 : decode cX8_act 141 = .ok (.iload 4, 2) := by decide +kernel
theorem dX8_act_143 : decode cX8_act 143 = .ok (.invokevirtual 260, 3) := by decide +kernel
theorem dX8_act_146 : decode cX8_act 146 = .ok (.ireturn, 1) := by decide +kernel
theorem dX8_act_147 : decode cX8_act 147 = .ok (.aload_n 0, 1) := by decide +kernel
theorem dX8_act_148 : decode cX8_act 148 = .ok (.iload_n 2, 1) := by decide +kernel
theorem dX8_act_149 : decode cX8_act 149 = .ok (.invokevirtual 263, 3) := by decide +kernel
theorem dX8_act_152 : decode cX8_act 152 = .ok (.ireturn, 1) := by decide +kernel
theorem dX8_begin_0 : decode cX8_begin 0 = .ok (.aload_n 0, 1) := by decide +kernel
theorem dX8_begin_1 : decode cX8_begin 1 = .ok (.iload_n 1, 1) := by decide +kernel
theorem dX8_begin_2 : decode cX8_begin 2 = .ok (.putfield 196, 3) := by decide +kernel
theorem dX8_begin_5 : decode cX8_begin 5 = .ok (.aload_n 0, 1) := by decide +kernel
theorem dX8_begin_6 : decode cX8_begin 6 = .ok (.aload_n 0, 1) := by decide +kernel
theorem dX8_begin_7 : decode cX8_begin 7 = .ok (.getfield 17, 3) := by decide +kernel
theorem dX8_begin_10 : decode cX8_begin 10 = .ok (.iload_n 1, 1) := by decide +kernel
theorem dX8_begin_11 : decode cX8_begin 11 = .ok (.iaload, 1) := by decide +kernel
theorem dX8_begin_12 : decode cX8_begin 12 = .ok (.putfield 207, 3) := by decide +kernel
theorem dX8_begin_15 : decode cX8_begin 15 = .ok (.aload_n 0, 1) := by decide +kernel
theorem dX8_begin_16 : decode cX8_begin 16 = .ok (.iconst 0, 1) := by decide +kernel
theorem dX8_begin_17 : decode cX8_begin 17 = .ok (.putfield 234, 3) := by decide +kernel
theorem dX8_begin_20 : decode cX8_begin 20 = .ok (.aload_n 0, 1) := by decide +kernel
theorem dX8_begin_21 : decode cX8_begin 21 = .ok (.iconst 0, 1) := by decide +kernel
theorem dX8_begin_22 : decode cX8_begin 22 = .ok (.putfield 238, 3) := by decide +kernel
theorem dX8_begin_25 : decode cX8_begin 25 = .ok (.iconst 0, 1) := by decide +kernel
theorem dX8_begin_26 : decode cX8_begin 26 = .ok (.istore_n 2, 1) := by decide +kernel
theorem dX8_begin_27 : decode cX8_begin 27 = .ok (.iload_n 2, 1) := by decide +kernel
theorem dX8_begin_28 : decode cX8_begin 28 = .ok (.aload_n 0, 1) := by decide +kernel
theorem dX8_begin_29 : decode cX8_begin 29 = .ok (.getfield 207, 3) := by decide +kernel
theorem dX8_begin_32 : decode cX8_begin 32 = .ok (.if_icmp .ge 84, 3) := by decide +kernel
theorem dX8_begin_35 : decode cX8_begin 35 = .ok (.aload_n 0, 1) := by decide +kernel
theorem dX8_begin_36 : decode cX8_begin 36 = .ok (.getfield 81, 3) := by decide +kernel
theorem dX8_begin_39 : decode cX8_begin 39 = .ok (.iload_n 2, 1) := by decide +kernel
theorem dX8_begin_40 : decode cX8_begin 40 = .ok (.aload_n 0, 1) := by decide +kernel
theorem dX8_begin_41 : decode cX8_begin 41 = .ok (.getfield 20, 3) := by decide +kernel
theorem dX8_begin_44 : decode cX8_begin 44 = .ok (.bipush 6, 2) := by decide +kernel
theorem dX8_begin_46 : decode cX8_begin 46 = .ok (.iload_n 1, 1) := by decide +kernel
theorem dX8_begin_47 : decode cX8_begin 47 = .ok (.imul, 1) := by decide +kernel
theorem dX8_begin_48 : decode cX8_begin 48 = .ok (.iload_n 2, 1) := by decide +kernel
theorem dX8_begin_49 : decode cX8_begin 49 = .ok (.iadd, 1) := by decide +kernel
theorem dX8_begin_50 : decode cX8_begin 50 = .ok (.iaload, 1) := by decide +kernel
theorem dX8_begin_51 : decode cX8_begin 51 = .ok (.iastore, 1) := by decide +kernel
theorem dX8_begin_52 : decode cX8_begin 52 = .ok (.aload_n 0, 1) := by decide +kernel
theorem dX8_begin_53 : decode cX8_begin 53 = .ok (.getfield 84, 3) := by decide +kernel
theorem dX8_begin_56 : decode cX8_begin 56 = .ok (.iload_n 2, 1) := by decide +kernel
theorem dX8_begin_57 : decode cX8_begin 57 = .ok (.aload_n 0, 1) := by decide +kernel
theorem dX8_begin_58 : decode cX8_begin 58 = .ok (.getfield 23, 3) := by decide +kernel
theorem dX8_begin_61 : decode cX8_begin 61 = .ok (.bipush 6, 2) := by decide +kernel
theorem dX8_begin_63 : decode cX8_begin 63 = .ok (.iload_n 1, 1) := by decide +kernel
theorem dX8_begin_64 : decode cX8_begin 64 = .ok (.imul, 1) := by decide +kernel
theorem dX8_begin_65 : decode cX8_begin 65 = .ok (.iload_n 2, 1) := by decide +kernel
theorem dX8_begin_66 : decode cX8_begin 66 = .ok (.iadd, 1) := by decide +kernel
theorem dX8_begin_67 : decode cX8_begin 67 = .ok (.iaload, 1) := by decide +kernel
theorem dX8_begin_68 : decode cX8_begin 68 = .ok (.iastore, 1) := by decide +kernel
theorem dX8_begin_69 : decode cX8_begin 69 = .ok (.aload_n 0, 1) := by decide +kernel
theorem dX8_begin_70 : decode cX8_begin 70 = .ok (.getfield 87, 3) := by decide +kernel
theorem dX8_begin_73 : decode cX8_begin 73 = .ok (.iload_n 2, 1) := by decide +kernel
theorem dX8_begin_74 : decode cX8_begin 74 = .ok (.aload_n 0, 1) := by decide +kernel
theorem dX8_begin_75 : decode cX8_begin 75 = .ok (.getfield 26, 3) := by decide +kernel
theorem dX8_begin_78 : decode cX8_begin 78 = .ok (.bipush 6, 2) := by decide +kernel
theorem dX8_begin_80 : decode cX8_begin 80 = .ok (.iload_n 1, 1) := by decide +kernel
theorem dX8_begin_81 : decode cX8_begin 81 = .ok (.imul, 1) := by decide +kernel
theorem dX8_begin_82 : decode cX8_begin 82 = .ok (.iload_n 2, 1) := by decide +kernel
theorem dX8_begin_83 : decode cX8_begin 83 = .ok (.iadd, 1) := by decide +kernel
theorem dX8_begin_84 : decode cX8_begin 84 = .ok (.iaload, 1) := by decide +kernel
theorem dX8_begin_85 : decode cX8_begin 85 = .ok (.iastore, 1) := by decide +kernel
theorem dX8_begin_86 : decode cX8_begin 86 = .ok (.aload_n 0, 1) := by decide +kernel
theorem dX8_begin_87 : decode cX8_begin 87 = .ok (.getfield 90, 3) := by decide +kernel
theorem dX8_begin_90 : decode cX8_begin 90 = .ok (.iload_n 2, 1) := by decide +kernel
theorem dX8_begin_91 : decode cX8_begin 91 = .ok (.aload_n 0, 1) := by decide +kernel
theorem dX8_begin_92 : decode cX8_begin 92 = .ok (.getfield 29, 3) := by decide +kernel
theorem dX8_begin_95 : decode cX8_begin 95 = .ok (.bipush 6, 2) := by decide +kernel
theorem dX8_begin_97 : decode cX8_begin 97 = .ok (.iload_n 1, 1) := by decide +kernel
theorem dX8_begin_98 : decode cX8_begin 98 = .ok (.imul, 1) := by decide +kernel
theorem dX8_begin_99 : decode cX8_begin 99 = .ok (.iload_n 2, 1) := by decide +kernel
theorem dX8_begin_100 : decode cX8_begin 100 = .ok (.iadd, 1) := by decide +kernel
theorem dX8_begin_101 : decode cX8_begin 101 = .ok (.iaload, 1) := by decide +kernel
theorem dX8_begin_102 : decode cX8_begin 102 = .ok (.iastore, 1) := by decide +kernel
theorem dX8_begin_103 : decode cX8_begin 103 = .ok (.aload_n 0, 1) := by decide +kernel
theorem dX8_begin_104 : decode cX8_begin 104 = .ok (.getfield 93, 3) := by decide +kernel
theorem dX8_begin_107 : decode cX8_begin 107 = .ok (.iload_n 2, 1) := by decide +kernel
theorem dX8_begin_108 : decode cX8_begin 108 = .ok (.iload_n 2, 1) := by decide +kernel
theorem dX8_begin_109 : decode cX8_begin 109 = .ok (.iastore, 1) := by decide +kernel
theorem dX8_begin_110 : decode cX8_begin 110 = .ok (.iinc 2 1, 3) := by decide +kernel
theorem dX8_begin_113 : decode cX8_begin 113 = .ok (.goto (-86), 3) := by decide +kernel
theorem dX8_begin_116 : decode cX8_begin 116 = .ok (.iconst 0, 1) := by decide +kernel
theorem dX8_begin_117 : decode cX8_begin 117 = .ok (.istore_n 2, 1) := by decide +kernel
theorem dX8_begin_118 : decode cX8_begin 118 = .ok (.iload_n 2, 1) := by decide +kernel
theorem dX8_begin_119 : decode cX8_begin 119 = .ok (.sipush 144, 3) := by decide +kernel
theorem dX8_begin_122 : decode cX8_begin 122 = .ok (.if_icmp .ge 33, 3) := by decide +kernel
theorem dX8_begin_125 : decode cX8_begin 125 = .ok (.aload_n 0, 1) := by decide +kernel
theorem dX8_begin_126 : decode cX8_begin 126 = .ok (.getfield 96, 3) := by decide +kernel
theorem dX8_begin_129 : decode cX8_begin 129 = .ok (.iload_n 2, 1) := by decide +kernel
theorem dX8_begin_130 : decode cX8_begin 130 = .ok (.aload_n 0, 1) := by decide +kernel
theorem dX8_begin_131 : decode cX8_begin 131 = .ok (.getfield 53, 3) := by decide +kernel
theorem dX8_begin_134 : decode cX8_begin 134 = .ok (.iload_n 2, 1) := by decide +kernel
theorem dX8_begin_135 : decode cX8_begin 135 = .ok (.iaload, 1) := by decide +kernel
theorem dX8_begin_136 : decode cX8_begin 136 = .ok (.iastore, 1) := by decide +kernel
theorem dX8_begin_137 : decode cX8_begin 137 = .ok (.aload_n 0, 1) := by decide +kernel
theorem dX8_begin_138 : decode cX8_begin 138 = .ok (.getfield 105, 3) := by decide +kernel
theorem dX8_begin_141 : decode cX8_begin 141 = .ok (.iload_n 2, 1) := by decide +kernel
theorem dX8_begin_142 : decode cX8_begin 142 = .ok (.aload_n 0, 1) := by decide +kernel
theorem dX8_begin_143 : decode cX8_begin 143 = .ok (.getfield 53, 3) := by decide +kernel
theorem dX8_begin_146 : decode cX8_begin 146 = .ok (.iload_n 2, 1) := by decide +kernel
theorem dX8_begin_147 : decode cX8_begin 147 = .ok (.iaload, 1) := by decide +kernel
theorem dX8_begin_148 : decode cX8_begin 148 = .ok (.iastore, 1) := by decide +kernel
theorem dX8_begin_149 : decode cX8_begin 149 = .ok (.iinc 2 1, 3) := by decide +kernel
theorem dX8_begin_152 : decode cX8_begin 152 = .ok (.goto (-34), 3) := by decide +kernel
theorem dX8_begin_155 : decode cX8_begin 155 = .ok (.iconst 0, 1) := by decide +kernel
theorem dX8_begin_156 : decode cX8_begin 156 = .ok (.istore_n 2, 1) := by decide +kernel
theorem dX8_begin_157 : decode cX8_begin 157 = .ok (.iload_n 2, 1) := by decide +kernel
theorem dX8_begin_158 : decode cX8_begin 158 = .ok (.bipush 24, 2) := by decide +kernel
theorem dX8_begin_160 : decode cX8_begin 160 = .ok (.if_icmp .ge 33, 3) := by decide +kernel
theorem dX8_begin_163 : decode cX8_begin 163 = .ok (.aload_n 0, 1) := by decide +kernel
theorem dX8_begin_164 : decode cX8_begin 164 = .ok (.getfield 99, 3) := by decide +kernel
theorem dX8_begin_167 : decode cX8_begin 167 = .ok (.iload_n 2, 1) := by decide +kernel
theorem dX8_begin_168 : decode cX8_begin 168 = .ok (.aload_n 0, 1) := by decide +kernel
theorem dX8_begin_169 : decode cX8_begin 169 = .ok (.getfield 47, 3) := by decide +kernel
theorem dX8_begin_172 : decode cX8_begin 172 = .ok (.iload_n 2, 1) := by decide +kernel
theorem dX8_begin_173 : decode cX8_begin 173 = .ok (.iaload, 1) := by decide +kernel
theorem dX8_begin_174 : decode cX8_begin 174 = .ok (.iastore, 1) := by decide +kernel
theorem dX8_begin_175 : decode cX8_begin 175 = .ok (.aload_n 0, 1) := by decide +kernel
theorem dX8_begin_176 : decode cX8_begin 176 = .ok (.getfield 102, 3) := by decide +kernel
theorem dX8_begin_179 : decode cX8_begin 179 = .ok (.iload_n 2, 1) := by decide +kernel
theorem dX8_begin_180 : decode cX8_begin 180 = .ok (.aload_n 0, 1) := by decide +kernel
theorem dX8_begin_181 : decode cX8_begin 181 = .ok (.getfield 50, 3) := by decide +kernel
theorem dX8_begin_184 : decode cX8_begin 184 = .ok (.iload_n 2, 1) := by decide +kernel
theorem dX8_begin_185 : decode cX8_begin 185 = .ok (.iaload, 1) := by decide +kernel
theorem dX8_begin_186 : decode cX8_begin 186 = .ok (.iastore, 1) := by decide +kernel
theorem dX8_begin_187 : decode cX8_begin 187 = .ok (.iinc 2 1, 3) := by decide +kernel
theorem dX8_begin_190 : decode cX8_begin 190 = .ok (.goto (-33), 3) := by decide +kernel
theorem dX8_begin_193 : decode cX8_begin 193 = .ok (.return_, 1) := by decide +kernel
theorem dX8_restore_0 : decode cX8_restore 0 = .ok (.iconst 0, 1) := by decide +kernel
theorem dX8_restore_1 : decode cX8_restore 1 = .ok (.istore_n 1, 1) := by decide +kernel
theorem dX8_restore_2 : decode cX8_restore 2 = .ok (.iload_n 1, 1) := by decide +kernel
theorem dX8_restore_3 : decode cX8_restore 3 = .ok (.sipush 144, 3) := by decide +kernel
theorem dX8_restore_6 : decode cX8_restore 6 = .ok (.if_icmp .ge 21, 3) := by decide +kernel
theorem dX8_restore_9 : decode cX8_restore 9 = .ok (.aload_n 0, 1) := by decide +kernel
theorem dX8_restore_10 : decode cX8_restore 10 = .ok (.getfield 53, 3) := by decide +kernel
theorem dX8_restore_13 : decode cX8_restore 13 = .ok (.iload_n 1, 1) := by decide +kernel
theorem dX8_restore_14 : decode cX8_restore 14 = .ok (.aload_n 0, 1) := by decide +kernel
theorem dX8_restore_15 : decode cX8_restore 15 = .ok (.getfield 105, 3) := by decide +kernel
theorem dX8_restore_18 : decode cX8_restore 18 = .ok (.iload_n 1, 1) := by decide +kernel
theorem dX8_restore_19 : decode cX8_restore 19 = .ok (.iaload, 1) := by decide +kernel
theorem dX8_restore_20 : decode cX8_restore 20 = .ok (.iastore, 1) := by decide +kernel
theorem dX8_restore_21 : decode cX8_restore 21 = .ok (.iinc 1 1, 3) := by decide +kernel
theorem dX8_restore_24 : decode cX8_restore 24 = .ok (.goto (-22), 3) := by decide +kernel
theorem dX8_restore_27 : decode cX8_restore 27 = .ok (.iconst 0, 1) := by decide +kernel
theorem dX8_restore_28 : decode cX8_restore 28 = .ok (.istore_n 1, 1) := by decide +kernel
theorem dX8_restore_29 : decode cX8_restore 29 = .ok (.iload_n 1, 1) := by decide +kernel
theorem dX8_restore_30 : decode cX8_restore 30 = .ok (.bipush 24, 2) := by decide +kernel
theorem dX8_restore_32 : decode cX8_restore 32 = .ok (.if_icmp .ge 33, 3) := by decide +kernel
theorem dX8_restore_35 : decode cX8_restore 35 = .ok (.aload_n 0, 1) := by decide +kernel
theorem dX8_restore_36 : decode cX8_restore 36 = .ok (.getfield 47, 3) := by decide +kernel
theorem dX8_restore_39 : decode cX8_restore 39 = .ok (.iload_n 1, 1) := by decide +kernel
theorem dX8_restore_40 : decode cX8_restore 40 = .ok (.aload_n 0, 1) := by decide +kernel
theorem dX8_restore_41 : decode cX8_restore 41 = .ok (.getfield 99, 3) := by decide +kernel
theorem dX8_restore_44 : decode cX8_restore 44 = .ok (.iload_n 1, 1) := by decide +kernel
theorem dX8_restore_45 : decode cX8_restore 45 = .ok (.iaload, 1) := by decide +kernel
theorem dX8_restore_46 : decode cX8_restore 46 = .ok (.iastore, 1) := by decide +kernel
theorem dX8_restore_47 : decode cX8_restore 47 = .ok (.aload_n 0, 1) := by decide +kernel
theorem dX8_restore_48 : decode cX8_restore 48 = .ok (.getfield 50, 3) := by decide +kernel
theorem dX8_restore_51 : decode cX8_restore 51 = .ok (.iload_n 1, 1) := by decide +kernel
theorem dX8_restore_52 : decode cX8_restore 52 = .ok (.aload_n 0, 1) := by decide +kernel
theorem dX8_restore_53 : decode cX8_restore 53 = .ok (.getfield 102, 3) := by decide +kernel
theorem dX8_restore_56 : decode cX8_restore 56 = .ok (.iload_n 1, 1) := by decide +kernel
theorem dX8_restore_57 : decode cX8_restore 57 = .ok (.iaload, 1) := by decide +kernel
theorem dX8_restore_58 : decode cX8_restore 58 = .ok (.iastore, 1) := by decide +kernel
theorem dX8_restore_59 : decode cX8_restore 59 = .ok (.iinc 1 1, 3) := by decide +kernel
theorem dX8_restore_62 : decode cX8_restore 62 = .ok (.goto (-33), 3) := by decide +kernel
theorem dX8_restore_65 : decode cX8_restore 65 = .ok (.return_, 1) := by decide +kernel
theorem dX8_settle_0 : decode cX8_settle 0 = .ok (.iconst 0, 1) := by decide +kernel
theorem dX8_settle_1 : decode cX8_settle 1 = .ok (.istore_n 2, 1) := by decide +kernel
theorem dX8_settle_2 : decode cX8_settle 2 = .ok (.iload_n 2, 1) := by decide +kernel
theorem dX8_settle_3 : decode cX8_settle 3 = .ok (.bipush 6, 2) := by decide +kernel
theorem dX8_settle_5 : decode cX8_settle 5 = .ok (.if_icmp .ge 165, 3) := by decide +kernel
theorem dX8_settle_8 : decode cX8_settle 8 = .ok (.aload_n 0, 1) := by decide +kernel
theorem dX8_settle_9 : decode cX8_settle 9 = .ok (.getfield 35, 3) := by decide +kernel
theorem dX8_settle_12 : decode cX8_settle 12 = .ok (.bipush 6, 2) := by decide +kernel
theorem dX8_settle_14 : decode cX8_settle 14 = .ok (.iload_n 1, 1) := by decide +kernel
theorem dX8_settle_15 : decode cX8_settle 15 = .ok (.imul, 1) := by decide +kernel
theorem dX8_settle_16 : decode cX8_settle 16 = .ok (.iload_n 2, 1) := by decide +kernel
theorem dX8_settle_17 : decode cX8_settle 17 = .ok (.iadd, 1) := by decide +kernel
theorem dX8_settle_18 : decode cX8_settle 18 = .ok (.aload_n 0, 1) := by decide +kernel
theorem dX8_settle_19 : decode cX8_settle 19 = .ok (.getfield 20, 3) := by decide +kernel
theorem dX8_settle_22 : decode cX8_settle 22 = .ok (.bipush 6, 2) := by decide +kernel
theorem dX8_settle_24 : decode cX8_settle 24 = .ok (.iload_n 1, 1) := by decide +kernel
theorem dX8_settle_25 : decode cX8_settle 25 = .ok (.imul, 1) := by decide +kernel
theorem dX8_settle_26 : decode cX8_settle 26 = .ok (.iload_n 2, 1) := by decide +kernel
theorem dX8_settle_27 : decode cX8_settle 27 = .ok (.iadd, 1) := by decide +kernel
theorem dX8_settle_28 : decode cX8_settle 28 = .ok (.iaload, 1) := by decide +kernel
theorem dX8_settle_29 : decode cX8_settle 29 = .ok (.iastore, 1) := by decide +kernel
theorem dX8_settle_30 : decode cX8_settle 30 = .ok (.aload_n 0, 1) := by decide +kernel
theorem dX8_settle_31 : decode cX8_settle 31 = .ok (.getfield 38, 3) := by decide +kernel
theorem dX8_settle_34 : decode cX8_settle 34 = .ok (.bipush 6, 2) := by decide +kernel
theorem dX8_settle_36 : decode cX8_settle 36 = .ok (.iload_n 1, 1) := by decide +kernel
theorem dX8_settle_37 : decode cX8_settle 37 = .ok (.imul, 1) := by decide +kernel
theorem dX8_settle_38 : decode cX8_settle 38 = .ok (.iload_n 2, 1) := by decide +kernel
theorem dX8_settle_39 : decode cX8_settle 39 = .ok (.iadd, 1) := by decide +kernel
theorem dX8_settle_40 : decode cX8_settle 40 = .ok (.aload_n 0, 1) := by decide +kernel
theorem dX8_settle_41 : decode cX8_settle 41 = .ok (.getfield 23, 3) := by decide +kernel
theorem dX8_settle_44 : decode cX8_settle 44 = .ok (.bipush 6, 2) := by decide +kernel
theorem dX8_settle_46 : decode cX8_settle 46 = .ok (.iload_n 1, 1) := by decide +kernel
theorem dX8_settle_47 : decode cX8_settle 47 = .ok (.imul, 1) := by decide +kernel
theorem dX8_settle_48 : decode cX8_settle 48 = .ok (.iload_n 2, 1) := by decide +kernel
theorem dX8_settle_49 : decode cX8_settle 49 = .ok (.iadd, 1) := by decide +kernel
theorem dX8_settle_50 : decode cX8_settle 50 = .ok (.iaload, 1) := by decide +kernel
theorem dX8_settle_51 : decode cX8_settle 51 = .ok (.iastore, 1) := by decide +kernel
