theorem dX8_nameField_0 : decode cX8_nameField 0 = .ok (.aload_n 0, 1) := by decide +kernel
theorem dX8_nameField_1 : decode cX8_nameField 1 = .ok (.iload_n 1, 1) := by decide +kernel
theorem dX8_nameField_2 : decode cX8_nameField 2 = .ok (.invokevirtual 210, 3) := by decide +kernel
theorem dX8_nameField_5 : decode cX8_nameField 5 = .ok (.istore_n 3, 1) := by decide +kernel
theorem dX8_nameField_6 : decode cX8_nameField 6 = .ok (.iload_n 3, 1) := by decide +kernel
theorem dX8_nameField_7 : decode cX8_nameField 7 = .ok (.ifCond .lt 11, 3) := by decide +kernel
theorem dX8_nameField_10 : decode cX8_nameField 10 = .ok (.aload_n 0, 1) := by decide +kernel
theorem dX8_nameField_11 : decode cX8_nameField 11 = .ok (.iload_n 2, 1) := by decide +kernel
theorem dX8_nameField_12 : decode cX8_nameField 12 = .ok (.invokevirtual 210, 3) := by decide +kernel
theorem dX8_nameField_15 : decode cX8_nameField 15 = .ok (.ifCond .lt 5, 3) := by decide +kernel
theorem dX8_nameField_18 : decode cX8_nameField 18 = .ok (.iconst 0, 1) := by decide +kernel
theorem dX8_nameField_19 : decode cX8_nameField 19 = .ok (.ireturn, 1) := by decide +kernel
theorem dX8_nameField_20 : decode cX8_nameField 20 = .ok (.aload_n 0, 1) := by decide +kernel
theorem dX8_nameField_21 : decode cX8_nameField 21 = .ok (.getfield 81, 3) := by decide +kernel
theorem dX8_nameField_24 : decode cX8_nameField 24 = .ok (.iload_n 3, 1) := by decide +kernel
theorem dX8_nameField_25 : decode cX8_nameField 25 = .ok (.iload_n 2, 1) := by decide +kernel
theorem dX8_nameField_26 : decode cX8_nameField 26 = .ok (.iastore, 1) := by decide +kernel
theorem dX8_nameField_27 : decode cX8_nameField 27 = .ok (.iconst 1, 1) := by decide +kernel
theorem dX8_nameField_28 : decode cX8_nameField 28 = .ok (.ireturn, 1) := by decide +kernel
set_option maxRecDepth 20000 in
theorem ggX8_numberField_X8_fits : GoodIn wsX8_numberField wsX8_fits := goodIn_r _ [9, 10, 11, 12, 13, 14, 15, 16, 17, 8, 18, 2, 19, 20, 21, 22, 23, 24, 25, 26, 27, 28, 29, 30, 31, 32, 33, 34, 35, 36, 37, 38, 39, 40, 41, 42, 61, 62, 63, 64, 65, 66, 67, 68, 69, 70, 71, 72, 73, 74, 75, 76, 77, 78, 79, 80, 81, 82, 83, 84, 85, 86, 87, 88, 89, 90, 91, 92, 93, 94, 95, 96, 97, 98, 99, 100, 101, 102, 103, 104] rfl (by decide +kernel)
set_option maxRecDepth 20000 in
theorem gX8_numberField_X8_fits : GoodIn wsX8_numberField (wsV RX8 216 RX8 yX8_fits wsX8_fits) := goodIn_app (goodIn_of _ (by decide +kernel)) ggX8_numberField_X8_fits
set_option maxRecDepth 20000 in
theorem ggX8_numberField_X8_append : GoodIn wsX8_numberField wsX8_append := goodIn_r _ [46, 4, 47, 48, 49, 50, 51, 52, 53, 54, 8, 55, 61, 62, 63, 64, 65, 66, 67, 68, 69, 70, 71, 72, 73, 74, 75, 76, 77, 78, 79, 80, 81, 82, 83, 84, 85, 86, 87, 88, 89, 90, 91, 92, 93, 94, 95, 96, 97, 98, 99, 100, 101, 102, 103, 104] rfl (by decide +kernel)
set_option maxRecDepth 20000 in
theorem gX8_numberField_X8_append : GoodIn wsX8_numberField (wsV RX8 220 RX8 yX8_append wsX8_append) := goodIn_app (goodIn_of _ (by decide +kernel)) ggX8_numberField_X8_append
set_option maxRecDepth 20000 in
theorem ggX8_numberField_X8_value : GoodIn wsX8_numberField wsX8_value := goodIn_r _ [59, 10, 11, 12, 13, 60, 2, 24, 25, 26, 8, 27, 28, 29, 40, 41, 42, 61, 62, 63, 64, 65, 66, 67, 68, 69, 70, 71, 72, 73, 74, 75, 76, 77, 78, 79, 80, 81, 82, 83, 84, 85, 86, 87, 88, 89, 90, 91, 92, 93, 94, 95, 96, 97, 98, 99, 100, 101, 102, 103, 104] rfl (by decide +kernel)
set_option maxRecDepth 20000 in
theorem gX8_numberField_X8_value : GoodIn wsX8_numberField (wsV RX8 224 RX8 yX8_value wsX8_value) := goodIn_app (goodIn_of _ (by decide +kernel)) ggX8_numberField_X8_value
theorem dX8_numberField_0 : decode cX8_numberField 0 = .ok (.aload_n 0, 1) := by decide +kernel
theorem dX8_numberField_1 : decode cX8_numberField 1 = .ok (.iload_n 1, 1) := by decide +kernel
theorem dX8_numberField_2 : decode cX8_numberField 2 = .ok (.iload_n 3, 1) := by decide +kernel
theorem dX8_numberField_3 : decode cX8_numberField 3 = .ok (.iload 4, 2) := by decide +kernel
theorem dX8_numberField_5 : decode cX8_numberField 5 = .ok (.invokevirtual 216, 3) := by decide +kernel
theorem dX8_numberField_8 : decode cX8_numberField 8 = .ok (.ifCond .eq 15, 3) := by decide +kernel
theorem dX8_numberField_11 : decode cX8_numberField 11 = .ok (.aload_n 0, 1) := by decide +kernel
theorem dX8_numberField_12 : decode cX8_numberField 12 = .ok (.iload_n 2, 1) := by decide +kernel
theorem dX8_numberField_13 : decode cX8_numberField 13 = .ok (.iconst 0, 1) := by decide +kernel
theorem dX8_numberField_14 : decode cX8_numberField 14 = .ok (.iload_n 3, 1) := by decide +kernel
theorem dX8_numberField_15 : decode cX8_numberField 15 = .ok (.iload 4, 2) := by decide +kernel
theorem dX8_numberField_17 : decode cX8_numberField 17 = .ok (.invokevirtual 220, 3) := by decide +kernel
theorem dX8_numberField_20 : decode cX8_numberField 20 = .ok (.ifCond .ne 5, 3) := by decide +kernel
theorem dX8_numberField_23 : decode cX8_numberField 23 = .ok (.iconst 0, 1) := by decide +kernel
theorem dX8_numberField_24 : decode cX8_numberField 24 = .ok (.ireturn, 1) := by decide +kernel
theorem dX8_numberField_25 : decode cX8_numberField 25 = .ok (.iconst 0, 1) := by decide +kernel
theorem dX8_numberField_26 : decode cX8_numberField 26 = .ok (.istore 5, 2) := by decide +kernel
theorem dX8_numberField_28 : decode cX8_numberField 28 = .ok (.iload 5, 2) := by decide +kernel
theorem dX8_numberField_30 : decode cX8_numberField 30 = .ok (.bipush 24, 2) := by decide +kernel
theorem dX8_numberField_32 : decode cX8_numberField 32 = .ok (.if_icmp .ge 47, 3) := by decide +kernel
theorem dX8_numberField_35 : decode cX8_numberField 35 = .ok (.aload_n 0, 1) := by decide +kernel
theorem dX8_numberField_36 : decode cX8_numberField 36 = .ok (.getfield 47, 3) := by decide +kernel
theorem dX8_numberField_39 : decode cX8_numberField 39 = .ok (.iload 5, 2) := by decide +kernel
theorem dX8_numberField_41 : decode cX8_numberField 41 = .ok (.iaload, 1) := by decide +kernel
theorem dX8_numberField_42 : decode cX8_numberField 42 = .ok (.aload_n 0, 1) := by decide +kernel
theorem dX8_numberField_43 : decode cX8_numberField 43 = .ok (.getfield 196, 3) := by decide +kernel
theorem dX8_numberField_46 : decode cX8_numberField 46 = .ok (.if_icmp .ne 27, 3) := by decide +kernel
theorem dX8_numberField_49 : decode cX8_numberField 49 = .ok (.aload_n 0, 1) := by decide +kernel
theorem dX8_numberField_50 : decode cX8_numberField 50 = .ok (.getfield 96, 3) := by decide +kernel
theorem dX8_numberField_53 : decode cX8_numberField 53 = .ok (.bipush 6, 2) := by decide +kernel
theorem dX8_numberField_55 : decode cX8_numberField 55 = .ok (.iload 5, 2) := by decide +kernel
theorem dX8_numberField_57 : decode cX8_numberField 57 = .ok (.imul, 1) := by decide +kernel
theorem dX8_numberField_58 : decode cX8_numberField 58 = .ok (.aload_n 0, 1) := by decide +kernel
theorem dX8_numberField_59 : decode cX8_numberField 59 = .ok (.getfield 207, 3) := by decide +kernel
theorem dX8_numberField_62 : decode cX8_numberField 62 = .ok (.iadd, 1) := by decide +kernel
theorem dX8_numberField_63 : decode cX8_numberField 63 = .ok (.iconst 1, 1) := by decide +kernel
theorem dX8_numberField_64 : decode cX8_numberField 64 = .ok (.isub, 1) := by decide +kernel
theorem dX8_numberField_65 : decode cX8_numberField 65 = .ok (.aload_n 0, 1) := by decide +kernel
theorem dX8_numberField_66 : decode cX8_numberField 66 = .ok (.iload_n 1, 1) := by decide +kernel
theorem dX8_numberField_67 : decode cX8_numberField 67 = .ok (.iload 5, 2) := by decide +kernel
theorem dX8_numberField_69 : decode cX8_numberField 69 = .ok (.invokevirtual 224, 3) := by decide +kernel
theorem dX8_numberField_72 : decode cX8_numberField 72 = .ok (.iastore, 1) := by decide +kernel
theorem dX8_numberField_73 : decode cX8_numberField 73 = .ok (.iinc 5 1, 3) := by decide +kernel
theorem dX8_numberField_76 : decode cX8_numberField 76 = .ok (.goto (-48), 3) := by decide +kernel
theorem dX8_numberField_79 : decode cX8_numberField 79 = .ok (.iconst 1, 1) := by decide +kernel
theorem dX8_numberField_80 : decode cX8_numberField 80 = .ok (.ireturn, 1) := by decide +kernel
set_option maxRecDepth 20000 in
theorem ggX8_rangeField_X8_findDraft : GoodIn wsX8_rangeField wsX8_findDraft := goodIn_r _ [11, 12, 13, 14, 15, 16, 17, 18, 19, 20, 21, 22, 23, 24, 25, 26, 27, 28, 29, 30, 31, 32, 33, 34, 35, 36, 37, 38, 39, 40, 41, 42, 43, 44, 45, 46, 47, 48, 49, 50, 51, 52, 53, 54, 55, 56, 57] rfl (by decide +kernel)
set_option maxRecDepth 20000 in
theorem gX8_rangeField_X8_findDraft : GoodIn wsX8_rangeField (wsV RX8 210 RX8 yX8_findDraft wsX8_findDraft) := goodIn_app (goodIn_of _ (by decide +kernel)) ggX8_rangeField_X8_findDraft
theorem dX8_rangeField_0 : decode cX8_rangeField 0 = .ok (.aload_n 0, 1) := by decide +kernel
theorem dX8_rangeField_1 : decode cX8_rangeField 1 = .ok (.iload_n 1, 1) := by decide +kernel
theorem dX8_rangeField_2 : decode cX8_rangeField 2 = .ok (.invokevirtual 210, 3) := by decide +kernel
theorem dX8_rangeField_5 : decode cX8_rangeField 5 = .ok (.istore 5, 2) := by decide +kernel
theorem dX8_rangeField_7 : decode cX8_rangeField 7 = .ok (.iload 5, 2) := by decide +kernel
theorem dX8_rangeField_9 : decode cX8_rangeField 9 = .ok (.ifCond .lt 40, 3) := by decide +kernel
theorem dX8_rangeField_12 : decode cX8_rangeField 12 = .ok (.aload_n 0, 1) := by decide +kernel
theorem dX8_rangeField_13 : decode cX8_rangeField 13 = .ok (.getfield 84, 3) := by decide +kernel
theorem dX8_rangeField_16 : decode cX8_rangeField 16 = .ok (.iload 5, 2) := by decide +kernel
theorem dX8_rangeField_18 : decode cX8_rangeField 18 = .ok (.iaload, 1) := by decide +kernel
theorem dX8_rangeField_19 : decode cX8_rangeField 19 = .ok (.ifCond .ne 30, 3) := by decide +kernel
theorem dX8_rangeField_22 : decode cX8_rangeField 22 = .ok (.iload 4, 2) := by decide +kernel
theorem dX8_rangeField_24 : decode cX8_rangeField 24 = .ok (.ifCond .ne 27, 3) := by decide +kernel
theorem dX8_rangeField_27 : decode cX8_rangeField 27 = .ok (.aload_n 0, 1) := by decide +kernel
theorem dX8_rangeField_28 : decode cX8_rangeField 28 = .ok (.getfield 87, 3) := by decide +kernel
theorem dX8_rangeField_31 : decode cX8_rangeField 31 = .ok (.iload 5, 2) := by decide +kernel
theorem dX8_rangeField_33 : decode cX8_rangeField 33 = .ok (.iaload, 1) := by decide +kernel
theorem dX8_rangeField_34 : decode cX8_rangeField 34 = .ok (.iload_n 2, 1) := by decide +kernel
theorem dX8_rangeField_35 : decode cX8_rangeField 35 = .ok (.if_icmp .lt 14, 3) := by decide +kernel
theorem dX8_rangeField_38 : decode cX8_rangeField 38 = .ok (.aload_n 0, 1) := by decide +kernel
theorem dX8_rangeField_39 : decode cX8_rangeField 39 = .ok (.getfield 90, 3) := by decide +kernel
theorem dX8_rangeField_42 : decode cX8_rangeField 42 = .ok (.iload 5, 2) := by decide +kernel
theorem dX8_rangeField_44 : decode cX8_rangeField 44 = .ok (.iaload, 1) := by decide +kernel
theorem dX8_rangeField_45 : decode cX8_rangeField 45 = .ok (.iload_n 3, 1) := by decide +kernel
theorem dX8_rangeField_46 : decode cX8_rangeField 46 = .ok (.if_icmp .le 5, 3) := by decide +kernel
theorem dX8_rangeField_49 : decode cX8_rangeField 49 = .ok (.iconst 0, 1) := by decide +kernel
theorem dX8_rangeField_50 : decode cX8_rangeField 50 = .ok (.ireturn, 1) := by decide +kernel
theorem dX8_rangeField_51 : decode cX8_rangeField 51 = .ok (.aload_n 0, 1) := by decide +kernel
theorem dX8_rangeField_52 : decode cX8_rangeField 52 = .ok (.getfield 87, 3) := by decide +kernel
theorem dX8_rangeField_55 : decode cX8_rangeField 55 = .ok (.iload 5, 2) := by decide +kernel
theorem dX8_rangeField_57 : decode cX8_rangeField 57 = .ok (.iload_n 2, 1) := by decide +kernel
theorem dX8_rangeField_58 : decode cX8_rangeField 58 = .ok (.iastore, 1) := by decide +kernel
theorem dX8_rangeField_59 : decode cX8_rangeField 59 = .ok (.aload_n 0, 1) := by decide +kernel
theorem dX8_rangeField_60 : decode cX8_rangeField 60 = .ok (.getfield 90, 3) := by decide +kernel
theorem dX8_rangeField_63 : decode cX8_rangeField 63 = .ok (.iload 5, 2) := by decide +kernel
theorem dX8_rangeField_65 : decode cX8_rangeField 65 = .ok (.iload_n 3, 1) := by decide +kernel
theorem dX8_rangeField_66 : decode cX8_rangeField 66 = .ok (.iastore, 1) := by decide +kernel
theorem dX8_rangeField_67 : decode cX8_rangeField 67 = .ok (.iconst 0, 1) := by decide +kernel
theorem dX8_rangeField_68 : decode cX8_rangeField 68 = .ok (.istore 6, 2) := by decide +kernel
theorem dX8_rangeField_70 : decode cX8_rangeField 70 = .ok (.iload 6, 2) := by decide +kernel
theorem dX8_rangeField_72 : decode cX8_rangeField 72 = .ok (.bipush 24, 2) := by decide +kernel
theorem dX8_rangeField_74 : decode cX8_rangeField 74 = .ok (.if_icmp .ge 78, 3) := by decide +kernel
theorem dX8_rangeField_77 : decode cX8_rangeField 77 = .ok (.aload_n 0, 1) := by decide +kernel
theorem dX8_rangeField_78 : decode cX8_rangeField 78 = .ok (.getfield 96, 3) := by decide +kernel
theorem dX8_rangeField_81 : decode cX8_rangeField 81 = .ok (.bipush 6, 2) := by decide +kernel
theorem dX8_rangeField_83 : decode cX8_rangeField 83 = .ok (.iload 6, 2) := by decide +kernel
theorem dX8_rangeField_85 : decode cX8_rangeField 85 = .ok (.imul, 1) := by decide +kernel
theorem dX8_rangeField_86 : decode cX8_rangeField 86 = .ok (.iload 5, 2) := by decide +kernel
theorem dX8_rangeField_88 : decode cX8_rangeField 88 = .ok (.iadd, 1) := by decide +kernel
theorem dX8_rangeField_89 : decode cX8_rangeField 89 = .ok (.iaload, 1) := by decide +kernel
theorem dX8_rangeField_90 : decode cX8_rangeField 90 = .ok (.istore 7, 2) := by decide +kernel
theorem dX8_rangeField_92 : decode cX8_rangeField 92 = .ok (.aload_n 0, 1) := by decide +kernel
theorem dX8_rangeField_93 : decode cX8_rangeField 93 = .ok (.getfield 96, 3) := by decide +kernel
theorem dX8_rangeField_96 : decode cX8_rangeField 96 = .ok (.bipush 6, 2) := by decide +kernel
theorem dX8_rangeField_98 : decode cX8_rangeField 98 = .ok (.iload 6, 2) := by decide +kernel
theorem dX8_rangeField_100 : decode cX8_rangeField 100 = .ok (.imul, 1) := by decide +kernel
theorem dX8_rangeField_101 : decode cX8_rangeField 101 = .ok (.iload 5, 2) := by decide +kernel
theorem dX8_rangeField_103 : decode cX8_rangeField 103 = .ok (.iadd, 1) := by decide +kernel
theorem dX8_rangeField_104 : decode cX8_rangeField 104 = .ok (.aload_n 0, 1) := by decide +kernel
theorem dX8_rangeField_105 : decode cX8_rangeField 105 = .ok (.getfield 47, 3) := by decide +kernel
theorem dX8_rangeField_108 : decode cX8_rangeField 108 = .ok (.iload 6, 2) := by decide +kernel
theorem dX8_rangeField_110 : decode cX8_rangeField 110 = .ok (.iaload, 1) := by decide +kernel
theorem dX8_rangeField_111 : decode cX8_rangeField 111 = .ok (.aload_n 0, 1) := by decide +kernel
theorem dX8_rangeField_112 : decode cX8_rangeField 112 = .ok (.getfield 196, 3) := by decide +kernel
theorem dX8_rangeField_115 : decode cX8_rangeField 115 = .ok (.if_icmp .eq 8, 3) := by decide +kernel
theorem dX8_rangeField_118 : decode cX8_rangeField 118 = .ok (.iload 7, 2) := by decide +kernel
theorem dX8_rangeField_120 : decode cX8_rangeField 120 = .ok (.goto 25, 3) := by decide +kernel
theorem dX8_rangeField_123 : decode cX8_rangeField 123 = .ok (.iload 7, 2) := by decide +kernel
theorem dX8_rangeField_125 : decode cX8_rangeField 125 = .ok (.iload_n 2, 1) := by decide +kernel
theorem dX8_rangeField_126 : decode cX8_rangeField 126 = .ok (.if_icmp .ge 7, 3) := by decide +kernel
theorem dX8_rangeField_129 : decode cX8_rangeField 129 = .ok (.iload_n 2, 1) := by decide +kernel
theorem dX8_rangeField_130 : decode cX8_rangeField 130 = .ok (.goto 15, 3) := by decide +kernel
theorem dX8_rangeField_133 : decode cX8_rangeField 133 = .ok (.iload 7, 2) := by decide +kernel
theorem dX8_rangeField_135 : decode cX8_rangeField 135 = .ok (.iload_n 3, 1) := by decide +kernel
theorem dX8_rangeField_136 : decode cX8_rangeField 136 = .ok (.if_icmp .le 7, 3) := by decide +kernel
theorem dX8_rangeField_139 : decode cX8_rangeField 139 = .ok (.iload_n 3, 1) := by decide +kernel
theorem dX8_rangeField_140 : decode cX8_rangeField 140 = .ok (.goto 5, 3) := by decide +kernel
theorem dX8_rangeField_143 : decode cX8_rangeField 143 = .ok (.iload 7, 2) := by decide +kernel
theorem dX8_rangeField_145 : decode cX8_rangeField 145 = .ok (.iastore, 1) := by decide +kernel
theorem dX8_rangeField_146 : decode cX8_rangeField 146 = .ok (.iinc 6 1, 3) := by decide +kernel
theorem dX8_rangeField_149 : decode cX8_rangeField 149 = .ok (.goto (-79), 3) := by decide +kernel
theorem dX8_rangeField_152 : decode cX8_rangeField 152 = .ok (.iconst 1, 1) := by decide +kernel
theorem dX8_rangeField_153 : decode cX8_rangeField 153 = .ok (.ireturn, 1) := by decide +kernel
set_option maxRecDepth 20000 in
theorem ggX8_referenceField_X8_append : GoodIn wsX8_referenceField wsX8_append := goodIn_r _ [7, 2, 8, 9, 10, 11, 12, 13, 14, 15, 6, 16, 17, 18, 19, 20, 21, 22, 23, 24, 25, 26, 27, 28, 29, 30, 31, 32, 33, 34, 35, 36, 37, 38, 39, 40, 41, 42, 43, 44, 45, 46, 47, 48, 49, 50, 51, 52, 53, 54, 55, 56, 57, 58, 59, 60] rfl (by decide +kernel)
set_option maxRecDepth 20000 in
theorem gX8_referenceField_X8_append : GoodIn wsX8_referenceField (wsV RX8 220 RX8 yX8_append wsX8_append) := goodIn_app (goodIn_of _ (by decide +kernel)) ggX8_referenceField_X8_append
theorem dX8_referenceField_0 : decode cX8_referenceField 0 = .ok (.aload_n 0, 1) := by decide +kernel
theorem dX8_referenceField_1 : decode cX8_referenceField 1 = .ok (.iload_n 1, 1) := by decide +kernel
theorem dX8_referenceField_2 : decode cX8_referenceField 2 = .ok (.iconst 1, 1) := by decide +kernel
theorem dX8_referenceField_3 : decode cX8_referenceField 3 = .ok (.iload_n 2, 1) := by decide +kernel
theorem dX8_referenceField_4 : decode cX8_referenceField 4 = .ok (.iload_n 2, 1) := by decide +kernel
theorem dX8_referenceField_5 : decode cX8_referenceField 5 = .ok (.invokevirtual 220, 3) := by decide +kernel
theorem dX8_referenceField_8 : decode cX8_referenceField 8 = .ok (.ifCond .ne 5, 3) := by decide +kernel
theorem dX8_referenceField_11 : decode cX8_referenceField 11 = .ok (.iconst 0, 1) := by decide +kernel
theorem dX8_referenceField_12 : decode cX8_referenceField 12 = .ok (.ireturn, 1) := by decide +kernel
theorem dX8_referenceField_13 : decode cX8_referenceField 13 = .ok (.iconst 0, 1) := by decide +kernel
theorem dX8_referenceField_14 : decode cX8_referenceField 14 = .ok (.istore_n 3, 1) := by decide +kernel
theorem dX8_referenceField_15 : decode cX8_referenceField 15 = .ok (.iload_n 3, 1) := by decide +kernel
theorem dX8_referenceField_16 : decode cX8_referenceField 16 = .ok (.bipush 24, 2) := by decide +kernel
theorem dX8_referenceField_18 : decode cX8_referenceField 18 = .ok (.if_icmp .ge 26, 3) := by decide +kernel
theorem dX8_referenceField_21 : decode cX8_referenceField 21 = .ok (.aload_n 0, 1) := by decide +kernel
theorem dX8_referenceField_22 : decode cX8_referenceField 22 = .ok (.getfield 96, 3) := by decide +kernel
theorem dX8_referenceField_25 : decode cX8_referenceField 25 = .ok (.bipush 6, 2) := by decide +kernel
theorem dX8_referenceField_27 : decode cX8_referenceField 27 = .ok (.iload_n 3, 1) := by decide +kernel
theorem dX8_referenceField_28 : decode cX8_referenceField 28 = .ok (.imul, 1) := by decide +kernel
theorem dX8_referenceField_29 : decode cX8_referenceField 29 = .ok (.aload_n 0, 1) := by decide +kernel
theorem dX8_referenceField_30 : decode cX8_referenceField 30 = .ok (.getfield 207, 3) := by decide +kernel
theorem dX8_referenceField_33 : decode cX8_referenceField 33 = .ok (.iadd, 1) := by decide +kernel
theorem dX8_referenceField_34 : decode cX8_referenceField 34 = .ok (.iconst 1, 1) := by decide +kernel
theorem dX8_referenceField_35 : decode cX8_referenceField 35 = .ok (.isub, 1) := by decide +kernel
theorem dX8_referenceField_36 : decode cX8_referenceField 36 = .ok (.iconst (-1), 1) := by decide +kernel
theorem dX8_referenceField_37 : decode cX8_referenceField 37 = .ok (.iastore, 1) := by decide +kernel
theorem dX8_referenceField_38 : decode cX8_referenceField 38 = .ok (.iinc 3 1, 3) := by decide +kernel
theorem dX8_referenceField_41 : decode cX8_referenceField 41 = .ok (.goto (-26), 3) := by decide +kernel
theorem dX8_referenceField_44 : decode cX8_referenceField 44 = .ok (.iconst 1, 1) := by decide +kernel
theorem dX8_referenceField_45 : decode cX8_referenceField 45 = .ok (.ireturn, 1) := by decide +kernel
set_option maxRecDepth 20000 in
theorem ggX8_canSplit_X8_findDraft : GoodIn wsX8_canSplit wsX8_findDraft := goodIn_r _ [13, 14, 15, 26, 27, 28, 29, 30, 31, 32, 33, 34, 35, 36, 37, 38, 39, 40, 41, 42, 43, 44, 45, 46, 47, 48, 49, 50, 51, 52, 53, 54, 55, 56, 57, 58, 59, 60, 61, 62, 63, 64, 65, 66, 67, 68, 69] rfl (by decide +kernel)
set_option maxRecDepth 20000 in
theorem gX8_canSplit_X8_findDraft : GoodIn wsX8_canSplit (wsV RX8 210 RX8 yX8_findDraft wsX8_findDraft) := goodIn_app (goodIn_of _ (by decide +kernel)) ggX8_canSplit_X8_findDraft
set_option maxRecDepth 20000 in
theorem ggX8_canSplit_X8_hasNumbersAlone : GoodIn wsX8_canSplit wsX8_hasNumbersAlone := goodIn_r _ [19, 1, 20, 26, 27, 28, 29, 30, 31, 32, 33, 34, 35, 36, 37, 38, 39, 40, 41, 42, 43, 44, 45, 46, 47, 48, 49, 50, 51, 52, 53, 54, 55, 56, 57, 58, 59, 60, 61, 62, 63, 64, 65, 66, 67, 68, 69] rfl (by decide +kernel)
set_option maxRecDepth 20000 in
theorem gX8_canSplit_X8_hasNumbersAlone : GoodIn wsX8_canSplit (wsV RX8 227 RX8 yX8_hasNumbersAlone wsX8_hasNumbersAlone) := goodIn_app (goodIn_of _ (by decide +kernel)) ggX8_canSplit_X8_hasNumbersAlone
set_option maxRecDepth 20000 in
theorem ggX8_canSplit_X8_records : GoodIn wsX8_canSplit wsX8_records := goodIn_r _ [24, 25, 26, 27, 28, 29, 30, 31, 32, 33, 34, 35, 36, 37, 38, 39, 40, 41, 42, 43, 44, 45, 46, 47, 48, 49, 50, 51, 52, 53, 54, 55, 56, 57, 58, 59, 60, 61, 62, 63, 64, 65, 66, 67, 68, 69] rfl (by decide +kernel)
set_option maxRecDepth 20000 in
theorem gX8_canSplit_X8_records : GoodIn wsX8_canSplit (wsV RX8 135 RX8 yX8_records wsX8_records) := goodIn_app (goodIn_of _ (by decide +kernel)) ggX8_canSplit_X8_records
theorem dX8_canSplit_0 : decode cX8_canSplit 0 = .ok (.iload_n 2, 1) := by decide +kernel
theorem dX8_canSplit_1 : decode cX8_canSplit 1 = .ok (.istore_n 3, 1) := by decide +kernel
theorem dX8_canSplit_2 : decode cX8_canSplit 2 = .ok (.iconst 0, 1) := by decide +kernel
theorem dX8_canSplit_3 : decode cX8_canSplit 3 = .ok (.istore 4, 2) := by decide +kernel
theorem dX8_canSplit_5 : decode cX8_canSplit 5 = .ok (.iload 4, 2) := by decide +kernel
theorem dX8_canSplit_7 : decode cX8_canSplit 7 = .ok (.aload_n 0, 1) := by decide +kernel
theorem dX8_canSplit_8 : decode cX8_canSplit 8 = .ok (.getfield 17, 3) := by decide +kernel
theorem dX8_canSplit_11 : decode cX8_canSplit 11 = .ok (.iload_n 1, 1) := by decide +kernel
theorem dX8_canSplit_12 : decode cX8_canSplit 12 = .ok (.iaload, 1) := by decide +kernel
theorem dX8_canSplit_13 : decode cX8_canSplit 13 = .ok (.if_icmp .ge 139, 3) := by decide +kernel
theorem dX8_canSplit_16 : decode cX8_canSplit 16 = .ok (.aload_n 0, 1) := by decide +kernel
theorem dX8_canSplit_17 : decode cX8_canSplit 17 = .ok (.aload_n 0, 1) := by decide +kernel
theorem dX8_canSplit_18 : decode cX8_canSplit 18 = .ok (.getfield 20, 3) := by decide +kernel
theorem dX8_canSplit_21 : decode cX8_canSplit 21 = .ok (.bipush 6, 2) := by decide +kernel
theorem dX8_canSplit_23 : decode cX8_canSplit 23 = .ok (.iload_n 1, 1) := by decide +kernel
theorem dX8_canSplit_24 : decode cX8_canSplit 24 = .ok (.imul, 1) := by decide +kernel
theorem dX8_canSplit_25 : decode cX8_canSplit 25 = .ok (.iload 4, 2) := by decide +kernel
theorem dX8_canSplit_27 : decode cX8_canSplit 27 = .ok (.iadd, 1) := by decide +kernel
theorem dX8_canSplit_28 : decode cX8_canSplit 28 = .ok (.iaload, 1) := by decide +kernel
theorem dX8_canSplit_29 : decode cX8_canSplit 29 = .ok (.invokevirtual 210, 3) := by decide +kernel
theorem dX8_canSplit_32 : decode cX8_canSplit 32 = .ok (.istore 5, 2) := by decide +kernel
theorem dX8_canSplit_34 : decode cX8_canSplit 34 = .ok (.iload 5, 2) := by decide +kernel
theorem dX8_canSplit_36 : decode cX8_canSplit 36 = .ok (.ifCond .lt 37, 3) := by decide +kernel
theorem dX8_canSplit_39 : decode cX8_canSplit 39 = .ok (.iload_n 3, 1) := by decide +kernel
theorem dX8_canSplit_40 : decode cX8_canSplit 40 = .ok (.aload_n 0, 1) := by decide +kernel
theorem dX8_canSplit_41 : decode cX8_canSplit 41 = .ok (.getfield 20, 3) := by decide +kernel
theorem dX8_canSplit_44 : decode cX8_canSplit 44 = .ok (.bipush 6, 2) := by decide +kernel
theorem dX8_canSplit_46 : decode cX8_canSplit 46 = .ok (.iload_n 1, 1) := by decide +kernel
theorem dX8_canSplit_47 : decode cX8_canSplit 47 = .ok (.imul, 1) := by decide +kernel
theorem dX8_canSplit_48 : decode cX8_canSplit 48 = .ok (.iload 4, 2) := by decide +kernel
theorem dX8_canSplit_50 : decode cX8_canSplit 50 = .ok (.iadd, 1) := by decide +kernel
theorem dX8_canSplit_51 : decode cX8_canSplit 51 = .ok (.iaload, 1) := by decide +kernel
theorem dX8_canSplit_52 : decode cX8_canSplit 52 = .ok (.ishr, 1) := by decide +kernel
theorem dX8_canSplit_53 : decode cX8_canSplit 53 = .ok (.iconst 1, 1) := by decide +kernel
theorem dX8_canSplit_54 : decode cX8_canSplit 54 = .ok (.iand, 1) := by decide +kernel
theorem dX8_canSplit_55 : decode cX8_canSplit 55 = .ok (.iconst 1, 1) := by decide +kernel
theorem dX8_canSplit_56 : decode cX8_canSplit 56 = .ok (.if_icmp .ne 17, 3) := by decide +kernel
theorem dX8_canSplit_59 : decode cX8_canSplit 59 = .ok (.aload_n 0, 1) := by decide +kernel
theorem dX8_canSplit_60 : decode cX8_canSplit 60 = .ok (.getfield 84, 3) := by decide +kernel
theorem dX8_canSplit_63 : decode cX8_canSplit 63 = .ok (.iload 5, 2) := by decide +kernel
theorem dX8_canSplit_65 : decode cX8_canSplit 65 = .ok (.iaload, 1) := by decide +kernel
theorem dX8_canSplit_66 : decode cX8_canSplit 66 = .ok (.ifCond .ne 7, 3) := by decide +kernel
theorem dX8_canSplit_69 : decode cX8_canSplit 69 = .ok (.iconst 1, 1) := by decide +kernel
theorem dX8_canSplit_70 : decode cX8_canSplit 70 = .ok (.goto 4, 3) := by decide +kernel
theorem dX8_canSplit_73 : decode cX8_canSplit 73 = .ok (.iconst 0, 1) := by decide +kernel
theorem dX8_canSplit_74 : decode cX8_canSplit 74 = .ok (.istore 6, 2) := by decide +kernel
theorem dX8_canSplit_76 : decode cX8_canSplit 76 = .ok (.iload 6, 2) := by decide +kernel
theorem dX8_canSplit_78 : decode cX8_canSplit 78 = .ok (.ifCond .eq 47, 3) := by decide +kernel
theorem dX8_canSplit_81 : decode cX8_canSplit 81 = .ok (.aload_n 0, 1) := by decide +kernel
theorem dX8_canSplit_82 : decode cX8_canSplit 82 = .ok (.getfield 87, 3) := by decide +kernel
theorem dX8_canSplit_85 : decode cX8_canSplit 85 = .ok (.iload 5, 2) := by decide +kernel
theorem dX8_canSplit_87 : decode cX8_canSplit 87 = .ok (.iaload, 1) := by decide +kernel
theorem dX8_canSplit_88 : decode cX8_canSplit 88 = .ok (.aload_n 0, 1) := by decide +kernel
theorem dX8_canSplit_89 : decode cX8_canSplit 89 = .ok (.getfield 26, 3) := by decide +kernel
theorem dX8_canSplit_92 : decode cX8_canSplit 92 = .ok (.bipush 6, 2) := by decide +kernel
theorem dX8_canSplit_94 : decode cX8_canSplit 94 = .ok (.iload_n 1, 1) := by decide +kernel
theorem dX8_canSplit_95 : decode cX8_canSplit 95 = .ok (.imul, 1) := by decide +kernel
theorem dX8_canSplit_96 : decode cX8_canSplit 96 = .ok (.iload 4, 2) := by decide +kernel
theorem dX8_canSplit_98 : decode cX8_canSplit 98 = .ok (.iadd, 1) := by decide +kernel
theorem dX8_canSplit_99 : decode cX8_canSplit 99 = .ok (.iaload, 1) := by decide +kernel
theorem dX8_canSplit_100 : decode cX8_canSplit 100 = .ok (.if_icmp .lt 25, 3) := by decide +kernel
theorem dX8_canSplit_103 : decode cX8_canSplit 103 = .ok (.aload_n 0, 1) := by decide +kernel
theorem dX8_canSplit_104 : decode cX8_canSplit 104 = .ok (.getfield 90, 3) := by decide +kernel
theorem dX8_canSplit_107 : decode cX8_canSplit 107 = .ok (.iload 5, 2) := by decide +kernel
theorem dX8_canSplit_109 : decode cX8_canSplit 109 = .ok (.iaload, 1) := by decide +kernel
theorem dX8_canSplit_110 : decode cX8_canSplit 110 = .ok (.aload_n 0, 1) := by decide +kernel
theorem dX8_canSplit_111 : decode cX8_canSplit 111 = .ok (.getfield 29, 3) := by decide +kernel
theorem dX8_canSplit_114 : decode cX8_canSplit 114 = .ok (.bipush 6, 2) := by decide +kernel
theorem dX8_canSplit_116 : decode cX8_canSplit 116 = .ok (.iload_n 1, 1) := by decide +kernel
theorem dX8_canSplit_117 : decode cX8_canSplit 117 = .ok (.imul, 1) := by decide +kernel
theorem dX8_canSplit_118 : decode cX8_canSplit 118 = .ok (.iload 4, 2) := by decide +kernel
theorem dX8_canSplit_120 : decode cX8_canSplit 120 = .ok (.iadd, 1) := by decide +kernel
theorem dX8_canSplit_121 : decode cX8_canSplit 121 = .ok (.iaload, 1) := by decide +kernel
theorem dX8_canSplit_122 : decode cX8_canSplit 122 = .ok (.if_icmp .le 5, 3) := by decide +kernel
theorem dX8_canSplit_125 : decode cX8_canSplit 125 = .ok (.iconst 0, 1) := by decide +kernel
theorem dX8_canSplit_126 : decode cX8_canSplit 126 = .ok (.ireturn, 1) := by decide +kernel
theorem dX8_canSplit_127 : decode cX8_canSplit 127 = .ok (.iload_n 3, 1) := by decide +kernel
theorem dX8_canSplit_128 : decode cX8_canSplit 128 = .ok (.iconst 1, 1) := by decide +kernel
theorem dX8_canSplit_129 : decode cX8_canSplit 129 = .ok (.aload_n 0, 1) := by decide +kernel
theorem dX8_canSplit_130 : decode cX8_canSplit 130 = .ok (.getfield 20, 3) := by decide +kernel
theorem dX8_canSplit_133 : decode cX8_canSplit 133 = .ok (.bipush 6, 2) := by decide +kernel
theorem dX8_canSplit_135 : decode cX8_canSplit 135 = .ok (.iload_n 1, 1) := by decide +kernel
theorem dX8_canSplit_136 : decode cX8_canSplit 136 = .ok (.imul, 1) := by decide +kernel
theorem dX8_canSplit_137 : decode cX8_canSplit 137 = .ok (.iload 4, 2) := by decide +kernel
theorem dX8_canSplit_139 : decode cX8_canSplit 139 = .ok (.iadd, 1) := by decide +kernel
theorem dX8_canSplit_140 : decode cX8_canSplit 140 = .ok (.iaload, 1) := by decide +kernel
theorem dX8_canSplit_141 : decode cX8_canSplit 141 = .ok (.ishl, 1) := by decide +kernel
theorem dX8_canSplit_142 : decode cX8_canSplit 142 = .ok (.iconst (-1), 1) := by decide +kernel
theorem dX8_canSplit_143 : decode cX8_canSplit 143 = .ok (.ixor, 1) := by decide +kernel
theorem dX8_canSplit_144 : decode cX8_canSplit 144 = .ok (.iand, 1) := by decide +kernel
theorem dX8_canSplit_145 : decode cX8_canSplit 145 = .ok (.istore_n 3, 1) := by decide +kernel
theorem dX8_canSplit_146 : decode cX8_canSplit 146 = .ok (.iinc 4 1, 3) := by decide +kernel
theorem dX8_canSplit_149 : decode cX8_canSplit 149 = .ok (.goto (-144), 3) := by decide +kernel
theorem dX8_canSplit_152 : decode cX8_canSplit 152 = .ok (.iload_n 3, 1) := by decide +kernel
theorem dX8_canSplit_153 : decode cX8_canSplit 153 = .ok (.ifCond .ne 42, 3) := by decide +kernel
theorem dX8_canSplit_156 : decode cX8_canSplit 156 = .ok (.iload_n 1, 1) := by decide +kernel
theorem dX8_canSplit_157 : decode cX8_canSplit 157 = .ok (.aload_n 0, 1) := by decide +kernel
theorem dX8_canSplit_158 : decode cX8_canSplit 158 = .ok (.getfield 196, 3) := by decide +kernel
theorem dX8_canSplit_161 : decode cX8_canSplit 161 = .ok (.if_icmp .eq 34, 3) := by decide +kernel
theorem dX8_canSplit_164 : decode cX8_canSplit 164 = .ok (.aload_n 0, 1) := by decide +kernel
theorem dX8_canSplit_165 : decode cX8_canSplit 165 = .ok (.iload_n 1, 1) := by decide +kernel
theorem dX8_canSplit_166 : decode cX8_canSplit 166 = .ok (.invokevirtual 227, 3) := by decide +kernel
theorem dX8_canSplit_169 : decode cX8_canSplit 169 = .ok (.ifCond .eq 26, 3) := by decide +kernel
theorem dX8_canSplit_172 : decode cX8_canSplit 172 = .ok (.aload_n 0, 1) := by decide +kernel
theorem dX8_canSplit_173 : decode cX8_canSplit 173 = .ok (.iconst (-1), 1) := by decide +kernel
theorem dX8_canSplit_174 : decode cX8_canSplit 174 = .ok (.invokevirtual 135, 3) := by decide +kernel
theorem dX8_canSplit_177 : decode cX8_canSplit 177 = .ok (.aload_n 0, 1) := by decide +kernel
theorem dX8_canSplit_178 : decode cX8_canSplit 178 = .ok (.aload_n 0, 1) := by decide +kernel
theorem dX8_canSplit_179 : decode cX8_canSplit 179 = .ok (.getfield 196, 3) := by decide +kernel
theorem dX8_canSplit_182 : decode cX8_canSplit 182 = .ok (.invokevirtual 135, 3) := by decide +kernel
theorem dX8_canSplit_185 : decode cX8_canSplit 185 = .ok (.iadd, 1) := by decide +kernel
theorem dX8_canSplit_186 : decode cX8_canSplit 186 = .ok (.bipush 24, 2) := by decide +kernel
theorem dX8_canSplit_188 : decode cX8_canSplit 188 = .ok (.if_icmp .gt 7, 3) := by decide +kernel
theorem dX8_canSplit_191 : decode cX8_canSplit 191 = .ok (.iconst 1, 1) := by decide +kernel
theorem dX8_canSplit_192 : decode cX8_canSplit 192 = .ok (.goto 4, 3) := by decide +kernel
theorem dX8_canSplit_195 : decode cX8_canSplit 195 = .ok (.iconst 0, 1) := by decide +kernel
theorem dX8_canSplit_196 : decode cX8_canSplit 196 = .ok (.ireturn, 1) := by decide +kernel
set_option maxRecDepth 20000 in
theorem ggX8_splitField_X8_canSplit : GoodIn wsX8_splitField wsX8_canSplit := goodIn_r _ [17, 6, 9, 18, 19, 20, 21, 22, 3, 23, 24, 25, 16, 26, 12, 27, 28, 29, 30, 31, 32, 33, 34, 35, 36, 2, 50, 51, 52, 53, 54, 55, 56, 57, 58, 59, 60, 61, 62, 63, 64, 65, 66, 67, 68, 69, 70, 71, 72, 73, 74, 75, 76, 77, 78, 79, 80, 81, 82, 83, 84, 85, 86, 87, 88, 89, 90, 91, 92, 93] rfl (by decide +kernel)
set_option maxRecDepth 20000 in
theorem gX8_splitField_X8_canSplit : GoodIn wsX8_splitField (wsV RX8 230 RX8 yX8_canSplit wsX8_canSplit) := goodIn_app (goodIn_of _ (by decide +kernel)) ggX8_splitField_X8_canSplit
set_option maxRecDepth 20000 in
theorem ggX8_splitField_X8_free : GoodIn wsX8_splitField wsX8_free := goodIn_r _ [40, 2, 50, 51, 52, 53, 54, 55, 56, 57, 58, 59, 60, 61, 62, 63, 64, 65, 66, 67, 68, 69, 70, 71, 72, 73, 74, 75, 76, 77, 78, 79, 80, 81, 82, 83, 84, 85, 86, 87, 88, 89, 90, 91, 92, 93] rfl (by decide +kernel)
set_option maxRecDepth 20000 in
theorem gX8_splitField_X8_free : GoodIn wsX8_splitField (wsV RX8 124 RX8 yX8_free wsX8_free) := goodIn_app (goodIn_of _ (by decide +kernel)) ggX8_splitField_X8_free
set_option maxRecDepth 20000 in
theorem ggX8_splitField_X8_findDraft : GoodIn wsX8_splitField wsX8_findDraft := goodIn_r _ [26, 12, 27, 50, 51, 52, 53, 54, 55, 56, 57, 58, 59, 60, 61, 62, 63, 64, 65, 66, 67, 68, 69, 70, 71, 72, 73, 74, 75, 76, 77, 78, 79, 80, 81, 82, 83, 84, 85, 86, 87, 88, 89, 90, 91, 92, 93] rfl (by decide +kernel)
set_option maxRecDepth 20000 in
theorem gX8_splitField_X8_findDraft : GoodIn wsX8_splitField (wsV RX8 210 RX8 yX8_findDraft wsX8_findDraft) := goodIn_app (goodIn_of _ (by decide +kernel)) ggX8_splitField_X8_findDraft
set_option maxRecDepth 20000 in
theorem ggX8_splitField_X8_takeField : GoodIn wsX8_splitField wsX8_takeField := goodIn_r _ [44, 12, 27, 18, 19, 21, 45, 8, 50, 51, 52, 53, 54, 55, 56, 57, 58, 59, 60, 61, 62, 63, 64, 65, 66, 67, 68, 69, 70, 71, 72, 73, 74, 75, 76, 77, 78, 79, 80, 81, 82, 83, 84, 85, 86, 87, 88, 89, 90, 91, 92, 93] rfl (by decide +kernel)
set_option maxRecDepth 20000 in
theorem gX8_splitField_X8_takeField : GoodIn wsX8_splitField (wsV RX8 213 RX8 yX8_takeField wsX8_takeField) := goodIn_app (goodIn_of _ (by decide +kernel)) ggX8_splitField_X8_takeField
set_option maxRecDepth 20000 in
theorem ggX8_splitField_X8_append : GoodIn wsX8_splitField wsX8_append := goodIn_r _ [49, 12, 27, 18, 19, 21, 45, 23, 24, 25, 16, 26, 50, 51, 52, 53, 54, 55, 56, 57, 58, 59, 60, 61, 62, 63, 64, 65, 66, 67, 68, 69, 70, 71, 72, 73, 74, 75, 76, 77, 78, 79, 80, 81, 82, 83, 84, 85, 86, 87, 88, 89, 90, 91, 92, 93] rfl (by decide +kernel)
set_option maxRecDepth 20000 in
theorem gX8_splitField_X8_append : GoodIn wsX8_splitField (wsV RX8 220 RX8 yX8_append wsX8_append) := goodIn_app (goodIn_of _ (by decide +kernel)) ggX8_splitField_X8_append
theorem dX8_splitField_0 : decode cX8_splitField 0 = .ok (.aload_n 0, 1) := by decide +kernel
theorem dX8_splitField_1 : decode cX8_splitField 1 = .ok (.iload_n 2, 1) := by decide +kernel
theorem dX8_splitField_2 : decode cX8_splitField 2 = .ok (.iload_n 3, 1) := by decide +kernel
