theorem dX8_dropField_1 : decode cX8_dropField 1 = .ok (.iload_n 1, 1) := by decide +kernel
theorem dX8_dropField_2 : decode cX8_dropField 2 = .ok (.invokevirtual 210, 3) := by decide +kernel
theorem dX8_dropField_5 : decode cX8_dropField 5 = .ok (.istore_n 2, 1) := by decide +kernel
theorem dX8_dropField_6 : decode cX8_dropField 6 = .ok (.iload_n 2, 1) := by decide +kernel
theorem dX8_dropField_7 : decode cX8_dropField 7 = .ok (.ifCond .lt 13, 3) := by decide +kernel
theorem dX8_dropField_10 : decode cX8_dropField 10 = .ok (.aload_n 0, 1) := by decide +kernel
theorem dX8_dropField_11 : decode cX8_dropField 11 = .ok (.getfield 84, 3) := by decide +kernel
theorem dX8_dropField_14 : decode cX8_dropField 14 = .ok (.iload_n 2, 1) := by decide +kernel
theorem dX8_dropField_15 : decode cX8_dropField 15 = .ok (.iaload, 1) := by decide +kernel
theorem dX8_dropField_16 : decode cX8_dropField 16 = .ok (.iconst 2, 1) := by decide +kernel
theorem dX8_dropField_17 : decode cX8_dropField 17 = .ok (.if_icmp .ne 5, 3) := by decide +kernel
theorem dX8_dropField_20 : decode cX8_dropField 20 = .ok (.iconst 0, 1) := by decide +kernel
theorem dX8_dropField_21 : decode cX8_dropField 21 = .ok (.ireturn, 1) := by decide +kernel
theorem dX8_dropField_22 : decode cX8_dropField 22 = .ok (.aload_n 0, 1) := by decide +kernel
theorem dX8_dropField_23 : decode cX8_dropField 23 = .ok (.iload_n 2, 1) := by decide +kernel
theorem dX8_dropField_24 : decode cX8_dropField 24 = .ok (.invokevirtual 213, 3) := by decide +kernel
theorem dX8_dropField_27 : decode cX8_dropField 27 = .ok (.iconst 1, 1) := by decide +kernel
theorem dX8_dropField_28 : decode cX8_dropField 28 = .ok (.ireturn, 1) := by decide +kernel
set_option maxRecDepth 20000 in
theorem ggX8_nameField_X8_findDraft : GoodIn wsX8_nameField wsX8_findDraft := goodIn_r _ [6, 7, 1, 8, 9, 10, 11, 12, 13, 14, 15, 16, 17, 18, 19, 20, 21, 22, 23, 24, 25, 26, 27, 28, 29, 30, 31, 32, 33, 34, 35, 36, 37, 38, 39, 40, 41, 42, 43, 44, 45, 46, 47, 48, 49, 50, 51] (by decide +kernel) (by decide +kernel)
set_option maxRecDepth 20000 in
theorem gX8_nameField_X8_findDraft : GoodIn wsX8_nameField (wsV RX8 210 RX8 yX8_findDraft wsX8_findDraft) := goodIn_app (goodIn_of _ (by decide +kernel)) ggX8_nameField_X8_findDraft
theorem dX8_nameField_0 : decode cX8_nameField 0 = .ok (.aload_n 0, 1) := by decide +kernel
theorem dX8_nameField_1 : decode cX8_nameField 1 = .ok (.iload_n 1, 1) := by decide +kernel
theorem dX8_nameField_2 : decode cX8_nameField 2 = .ok (.invokevirtual 210, 3) := by decide +kernel
theorem dX8_nameField_5 : decode cX8_nameField 5 = .ok (.istore_n 3, 1) := by decide +kernel
theorem dX8_nameField_6 : decode cX8_nameField 6 = .ok (.iload_n 3, 1) := by decide +kernel
theorem dX8_nameField_7 : decode cX8_nameField 7 = .ok (.ifCond .lt 11, 3) := by decide +kernel
theorem dX8_nameField_10 : decode cX8_nameField 10 = .ok (.aload_n 0, 1) := by decide +kernel
theorem dX8_nameField_11 : decode cX8_nameField 11 = .ok (.iload_n 2, 1) := by decide +kernel
theorem dX8_nameField_12 : decode cX8_nameField 12 = .ok (.invokevirtual 210, 3) := by decide +kernel
theorem dX8_nameField_15 : decode cX8_nameField 15 = .ok (.ifCond .lt 5, 3) := by decide +kernel
theorem dX8_nameField_18 : decode cX8_nameField 18 = .ok (.iconst 0, 1) := by decide +kernel
theorem dX8_nameField_19 : decode cX8_nameField 19 = .ok (.ireturn, 1) := by decide +kernel
theorem dX8_nameField_20 : decode cX8_nameField 20 = .ok (.aload_n 0, 1) := by decide +kernel
theorem dX8_nameField_21 : decode cX8_nameField 21 = .ok (.getfield 81, 3) := by decide +kernel
theorem dX8_nameField_24 : decode cX8_nameField 24 = .ok (.iload_n 3, 1) := by decide +kernel
theorem dX8_nameField_25 : decode cX8_nameField 25 = .ok (.iload_n 2, 1) := by decide +kernel
theorem dX8_nameField_26 : decode cX8_nameField 26 = .ok (.iastore, 1) := by decide +kernel
theorem dX8_nameField_27 : decode cX8_nameField 27 = .ok (.iconst 1, 1) := by decide +kernel
theorem dX8_nameField_28 : decode cX8_nameField 28 = .ok (.ireturn, 1) := by decide +kernel
set_option maxRecDepth 20000 in
theorem ggX8_numberField_X8_fits : GoodIn wsX8_numberField wsX8_fits := goodIn_r _ [9, 10, 11, 12, 13, 14, 15, 16, 17, 8, 18, 2, 19, 20, 21, 22, 23, 24, 25, 26, 27, 28, 29, 30, 31, 32, 33, 34, 35, 36, 37, 38, 39, 40, 41, 42, 61, 62, 63, 64, 65, 66, 67, 68, 69, 70, 71, 72, 73, 74, 75, 76, 77, 78, 79, 80, 81, 82, 83, 84, 85, 86, 87, 88, 89, 90, 91, 92, 93, 94, 95, 96, 97, 98, 99, 100, 101, 102, 103, 104] (by decide +kernel) (by decide +kernel)
set_option maxRecDepth 20000 in
theorem gX8_numberField_X8_fits : GoodIn wsX8_numberField (wsV RX8 216 RX8 yX8_fits wsX8_fits) := goodIn_app (goodIn_of _ (by decide +kernel)) ggX8_numberField_X8_fits
set_option maxRecDepth 20000 in
theorem ggX8_numberField_X8_append : GoodIn wsX8_numberField wsX8_append := goodIn_r _ [46, 4, 47, 48, 49, 50, 51, 52, 53, 54, 8, 55, 61, 62, 63, 64, 65, 66, 67, 68, 69, 70, 71, 72, 73, 74, 75, 76, 77, 78, 79, 80, 81, 82, 83, 84, 85, 86, 87, 88, 89, 90, 91, 92, 93, 94, 95, 96, 97, 98, 99, 100, 101, 102, 103, 104] (by decide +kernel) (by decide +kernel)
set_option maxRecDepth 20000 in
theorem gX8_numberField_X8_append : GoodIn wsX8_numberField (wsV RX8 220 RX8 yX8_append wsX8_append) := goodIn_app (goodIn_of _ (by decide +kernel)) ggX8_numberField_X8_append
set_option maxRecDepth 20000 in
theorem ggX8_numberField_X8_value : GoodIn wsX8_numberField wsX8_value := goodIn_r _ [59, 10, 11, 12, 13, 60, 2, 24, 25, 26, 8, 27, 28, 29, 40, 41, 42, 61, 62, 63, 64, 65, 66, 67, 68, 69, 70, 71, 72, 73, 74, 75, 76, 77, 78, 79, 80, 81, 82, 83, 84, 85, 86, 87, 88, 89, 90, 91, 92, 93, 94, 95, 96, 97, 98, 99, 100, 101, 102, 103, 104] (by decide +kernel) (by decide +kernel)
set_option maxRecDepth 20000 in
theorem gX8_numberField_X8_value : GoodIn wsX8_numberField (wsV RX8 224 RX8 yX8_value wsX8_value) := goodIn_app (goodIn_of _ (by decide +kernel)) ggX8_numberField_X8_value
theorem dX8_numberField_0 : decode cX8_numberField 0 = .ok (.aload_n 0, 1) := by decide +kernel
theorem dX8_numberField_1 : decode cX8_numberField 1 = .ok (.iload_n 1, 1) := by decide +kernel
theorem dX8_numberField_2 : decode cX8_numberField 2 = .ok (.iload_n 3, 1) := by decide +kernel
theorem dX8_numberField_3 : decode cX8_numberField 3 = .ok (.iload 4, 2) := by decide +kernel
theorem dX8_numberField_5 : decode cX8_numberField 5 = .ok (.invokevirtual 216, 3) := by decide +kernel
theorem dX8_numberField_8 : decode cX8_numberField 8 = .ok (.ifCond .eq 15, 3) := by decide +kernel
theorem dX8_numberField_11 : decode cX8_numberField 11 = .ok (.aload_n 0, 1) := by decide +kernel
theorem dX8_numberField_12 : decode cX8_numberField 12 = .ok (.iload_n 2, 1) := by decide +kernel
theorem dX8_numberField_13 : decode cX8_numberField 13 = .ok (.iconst 0, 1) := by decide +kernel
theorem dX8_numberField_14 : decode cX8_numberField 14 = .ok (.iload_n 3, 1) := by decide +kernel
theorem dX8_numberField_15 : decode cX8_numberField 15 = .ok (.iload 4, 2) := by decide +kernel
theorem dX8_numberField_17 : decode cX8_numberField 17 = .ok (.invokevirtual 220, 3) := by decide +kernel
theorem dX8_numberField_20 : decode cX8_numberField 20 = .ok (.ifCond .ne 5, 3) := by decide +kernel
theorem dX8_numberField_23 : decode cX8_numberField 23 = .ok (.iconst 0, 1) := by decide +kernel
theorem dX8_numberField_24 : decode cX8_numberField 24 = .ok (.ireturn, 1) := by decide +kernel
theorem dX8_numberField_25 : decode cX8_numberField 25 = .ok (.iconst 0, 1) := by decide +kernel
theorem dX8_numberField_26 : decode cX8_numberField 26 = .ok (.istore 5, 2) := by decide +kernel
theorem dX8_numberField_28 : decode cX8_numberField 28 = .ok (.iload 5, 2) := by decide +kernel
theorem dX8_numberField_30 : decode cX8_numberField 30 = .ok (.bipush 24, 2) := by decide +kernel
theorem dX8_numberField_32 : decode cX8_numberField 32 = .ok (.if_icmp .ge 47, 3) := by decide +kernel
theorem dX8_numberField_35 : decode cX8_numberField 35 = .ok (.aload_n 0, 1) := by decide +kernel
theorem dX8_numberField_36 : decode cX8_numberField 36 = .ok (.getfield 47, 3) := by decide +kernel
theorem dX8_numberField_39 : decode cX8_numberField 39 = .ok (.iload 5, 2) := by decide +kernel
theorem dX8_numberField_41 : decode cX8_numberField 41 = .ok (.iaload, 1) := by decide +kernel
theorem dX8_numberField_42 : decode cX8_numberField 42 = .ok (.aload_n 0, 1) := by decide +kernel
theorem dX8_numberField_43 : decode cX8_numberField 43 = .ok (.getfield 196, 3) := by decide +kernel
theorem dX8_numberField_46 : decode cX8_numberField 46 = .ok (.if_icmp .ne 27, 3) := by decide +kernel
theorem dX8_numberField_49 : decode cX8_numberField 49 = .ok (.aload_n 0, 1) := by decide +kernel
theorem dX8_numberField_50 : decode cX8_numberField 50 = .ok (.getfield 96, 3) := by decide +kernel
theorem dX8_numberField_53 : decode cX8_numberField 53 = .ok (.bipush 6, 2) := by decide +kernel
theorem dX8_numberField_55 : decode cX8_numberField 55 = .ok (.iload 5, 2) := by decide +kernel
theorem dX8_numberField_57 : decode cX8_numberField 57 = .ok (.imul, 1) := by decide +kernel
theorem dX8_numberField_58 : decode cX8_numberField 58 = .ok (.aload_n 0, 1) := by decide +kernel
theorem dX8_numberField_59 : decode cX8_numberField 59 = .ok (.getfield 207, 3) := by decide +kernel
theorem dX8_numberField_62 : decode cX8_numberField 62 = .ok (.iadd, 1) := by decide +kernel
theorem dX8_numberField_63 : decode cX8_numberField 63 = .ok (.iconst 1, 1) := by decide +kernel
theorem dX8_numberField_64 : decode cX8_numberField 64 = .ok (.isub, 1) := by decide +kernel
theorem dX8_numberField_65 : decode cX8_numberField 65 = .ok (.aload_n 0, 1) := by decide +kernel
theorem dX8_numberField_66 : decode cX8_numberField 66 = .ok (.iload_n 1, 1) := by decide +kernel
theorem dX8_numberField_67 : decode cX8_numberField 67 = .ok (.iload 5, 2) := by decide +kernel
theorem dX8_numberField_69 : decode cX8_numberField 69 = .ok (.invokevirtual 224, 3) := by decide +kernel
theorem dX8_numberField_72 : decode cX8_numberField 72 = .ok (.iastore, 1) := by decide +kernel
theorem dX8_numberField_73 : decode cX8_numberField 73 = .ok (.iinc 5 1, 3) := by decide +kernel
theorem dX8_numberField_76 : decode cX8_numberField 76 = .ok (.goto (-48), 3) := by decide +kernel
theorem dX8_numberField_79 : decode cX8_numberField 79 = .ok (.iconst 1, 1) := by decide +kernel
theorem dX8_numberField_80 : decode cX8_numberField 80 = .ok (.ireturn, 1) := by decide +kernel
set_option maxRecDepth 20000 in
theorem ggX8_rangeField_X8_findDraft : GoodIn wsX8_rangeField wsX8_findDraft := goodIn_r _ [11, 12, 13, 14, 15, 16, 17, 18, 19, 20, 21, 22, 23, 24, 25, 26, 27, 28, 29, 30, 31, 32, 33, 34, 35, 36, 37, 38, 39, 40, 41, 42, 43, 44, 45, 46, 47, 48, 49, 50, 51, 52, 53, 54, 55, 56, 57] (by decide +kernel) (by decide +kernel)
set_option maxRecDepth 20000 in
theorem gX8_rangeField_X8_findDraft : GoodIn wsX8_rangeField (wsV RX8 210 RX8 yX8_findDraft wsX8_findDraft) := goodIn_app (goodIn_of _ (by decide +kernel)) ggX8_rangeField_X8_findDraft
theorem dX8_rangeField_0 : decode cX8_rangeField 0 = .ok (.aload_n 0, 1) := by decide +kernel
theorem dX8_rangeField_1 : decode cX8_rangeField 1 = .ok (.iload_n 1, 1) := by decide +kernel
theorem dX8_rangeField_2 : decode cX8_rangeField 2 = .ok (.invokevirtual 210, 3) := by decide +kernel
theorem dX8_rangeField_5 : decode cX8_rangeField 5 = .ok (.istore 5, 2) := by decide +kernel
theorem dX8_rangeField_7 : decode cX8_rangeField 7 = .ok (.iload 5, 2) := by decide +kernel
theorem dX8_rangeField_9 : decode cX8_rangeField 9 = .ok (.ifCond .lt 40, 3) := by decide +kernel
theorem dX8_rangeField_12 : decode cX8_rangeField 12 = .ok (.aload_n 0, 1) := by decide +kernel
theorem dX8_rangeField_13 : decode cX8_rangeField 13 = .ok (.getfield 84, 3) := by decide +kernel
theorem dX8_rangeField_16 : decode cX8_rangeField 16 = .ok (.iload 5, 2) := by decide +kernel
theorem dX8_rangeField_18 : decode cX8_rangeField 18 = .ok (.iaload, 1) := by decide +kernel
theorem dX8_rangeField_19 : decode cX8_rangeField 19 = .ok (.ifCond .ne 30, 3) := by decide +kernel
theorem dX8_rangeField_22 : decode cX8_rangeField 22 = .ok (.iload 4, 2) := by decide +kernel
theorem dX8_rangeField_24 : decode cX8_rangeField 24 = .ok (.ifCond .ne 27, 3) := by decide +kernel
theorem dX8_rangeField_27 : decode cX8_rangeField 27 = .ok (.aload_n 0, 1) := by decide +kernel
theorem dX8_rangeField_28 : decode cX8_rangeField 28 = .ok (.getfield 87, 3) := by decide +kernel
theorem dX8_rangeField_31 : decode cX8_rangeField 31 = .ok (.iload 5, 2) := by decide +kernel
theorem dX8_rangeField_33 : decode cX8_rangeField 33 = .ok (.iaload, 1) := by decide +kernel
theorem dX8_rangeField_34 : decode cX8_rangeField 34 = .ok (.iload_n 2, 1) := by decide +kernel
theorem dX8_rangeField_35 : decode cX8_rangeField 35 = .ok (.if_icmp .lt 14, 3) := by decide +kernel
theorem dX8_rangeField_38 : decode cX8_rangeField 38 = .ok (.aload_n 0, 1) := by decide +kernel
theorem dX8_rangeField_39 : decode cX8_rangeField 39 = .ok (.getfield 90, 3) := by decide +kernel
theorem dX8_rangeField_42 : decode cX8_rangeField 42 = .ok (.iload 5, 2) := by decide +kernel
theorem dX8_rangeField_44 : decode cX8_rangeField 44 = .ok (.iaload, 1) := by decide +kernel
theorem dX8_rangeField_45 : decode cX8_rangeField 45 = .ok (.iload_n 3, 1) := by decide +kernel
theorem dX8_rangeField_46 : decode cX8_rangeField 46 = .ok (.if_icmp .le 5, 3) := by decide +kernel
theorem dX8_rangeField_49 : decode cX8_rangeField 49 = .ok (.iconst 0, 1) := by decide +kernel
theorem dX8_rangeField_50 : decode cX8_rangeField 50 = .ok (.ireturn, 1) := by decide +kernel
theorem dX8_rangeField_51 : decode cX8_rangeField 51 = .ok (.aload_n 0, 1) := by decide +kernel
theorem dX8_rangeField_52 : decode cX8_rangeField 52 = .ok (.getfield 87, 3) := by decide +kernel
theorem dX8_rangeField_55 : decode cX8_rangeField 55 = .ok (.iload 5, 2) := by decide +kernel
theorem dX8_rangeField_57 : decode cX8_rangeField 57 = .ok (.iload_n 2, 1) := by decide +kernel
theorem dX8_rangeField_58 : decode cX8_rangeField 58 = .ok (.iastore, 1) := by decide +kernel
theorem dX8_rangeField_59 : decode cX8_rangeField 59 = .ok (.aload_n 0, 1) := by decide +kernel
theorem dX8_rangeField_60 : decode cX8_rangeField 60 = .ok (.getfield 90, 3) := by decide +kernel
theorem dX8_rangeField_63 : decode cX8_rangeField 63 = .ok (.iload 5, 2) := by decide +kernel
theorem dX8_rangeField_65 : decode cX8_rangeField 65 = .ok (.iload_n 3, 1) := by decide +kernel
theorem dX8_rangeField_66 : decode cX8_rangeField 66 = .ok (.iastore, 1) := by decide +kernel
theorem dX8_rangeField_67 : decode cX8_rangeField 67 = .ok (.iconst 0, 1) := by decide +kernel
theorem dX8_rangeField_68 : decode cX8_rangeField 68 = .ok (.istore 6, 2) := by decide +kernel
theorem dX8_rangeField_70 : decode cX8_rangeField 70 = .ok (.iload 6, 2) := by decide +kernel
theorem dX8_rangeField_72 : decode cX8_rangeField 72 = .ok (.bipush 24, 2) := by decide +kernel
theorem dX8_rangeField_74 : decode cX8_rangeField 74 = .ok (.if_icmp .ge 78, 3) := by decide +kernel
theorem dX8_rangeField_77 : decode cX8_rangeField 77 = .ok (.aload_n 0, 1) := by decide +kernel
theorem dX8_rangeField_78 : decode cX8_rangeField 78 = .ok (.getfield 96, 3) := by decide +kernel
theorem dX8_rangeField_81 : decode cX8_rangeField 81 = .ok (.bipush 6, 2) := by decide +kernel
theorem dX8_rangeField_83 : decode cX8_rangeField 83 = .ok (.iload 6, 2) := by decide +kernel
theorem dX8_rangeField_85 : decode cX8_rangeField 85 = .ok (.imul, 1) := by decide +kernel
theorem dX8_rangeField_86 : decode cX8_rangeField 86 = .ok (.iload 5, 2) := by decide +kernel
theorem dX8_rangeField_88 : decode cX8_rangeField 88 = .ok (.iadd, 1) := by decide +kernel
theorem dX8_rangeField_89 : decode cX8_rangeField 89 = .ok (.iaload, 1) := by decide +kernel
theorem dX8_rangeField_90 : decode cX8_rangeField 90 = .ok (.istore 7, 2) := by decide +kernel
theorem dX8_rangeField_92 : decode cX8_rangeField 92 = .ok (.aload_n 0, 1) := by decide +kernel
theorem dX8_rangeField_93 : decode cX8_rangeField 93 = .ok (.getfield 96, 3) := by decide +kernel
theorem dX8_rangeField_96 : decode cX8_rangeField 96 = .ok (.bipush 6, 2) := by decide +kernel
theorem dX8_rangeField_98 : decode cX8_rangeField 98 = .ok (.iload 6, 2) := by decide +kernel
theorem dX8_rangeField_100 : decode cX8_rangeField 100 = .ok (.imul, 1) := by decide +kernel
theorem dX8_rangeField_101 : decode cX8_rangeField 101 = .ok (.iload 5, 2) := by decide +kernel
theorem dX8_rangeField_103 : decode cX8_rangeField 103 = .ok (.iadd, 1) := by decide +kernel
theorem dX8_rangeField_104 : decode cX8_rangeField 104 = .ok (.aload_n 0, 1) := by decide +kernel
theorem dX8_rangeField_105 : decode cX8_rangeField 105 = .ok (.getfield 47, 3) := by decide +kernel
theorem dX8_rangeField_108 : decode cX8_rangeField 108 = .ok (.iload 6, 2) := by decide +kernel
theorem dX8_rangeField_110 : decode cX8_rangeField 110 = .ok (.iaload, 1) := by decide +kernel
theorem dX8_rangeField_111 : decode cX8_rangeField 111 = .ok (.aload_n 0, 1) := by decide +kernel
theorem dX8_rangeField_112 : decode cX8_rangeField 112 = .ok (.getfield 196, 3) := by decide +kernel
theorem dX8_rangeField_115 : decode cX8_rangeField 115 = .ok (.if_icmp .eq 8, 3) := by decide +kernel
theorem dX8_rangeField_118 : decode cX8_rangeField 118 = .ok (.iload 7, 2) := by decide +kernel
theorem dX8_rangeField_120 : decode cX8_rangeField 120 = .ok (.goto 25, 3) := by decide +kernel
theorem dX8_rangeField_123 : decode cX8_rangeField 123 = .ok (.iload 7, 2) := by decide +kernel
theorem dX8_rangeField_125 : decode cX8_rangeField 125 = .ok (.iload_n 2, 1) := by decide +kernel
theorem dX8_rangeField_126 : decode cX8_rangeField 126 = .ok (.if_icmp .ge 7, 3) := by decide +kernel
theorem dX8_rangeField_129 : decode cX8_rangeField 129 = .ok (.iload_n 2, 1) := by decide +kernel
theorem dX8_rangeField_130 : decode cX8_rangeField 130 = .ok (.goto 15, 3) := by decide +kernel
theorem dX8_rangeField_133 : decode cX8_rangeField 133 = .ok (.iload 7, 2) := by decide +kernel
theorem dX8_rangeField_135 : decode cX8_rangeField 135 = .ok (.iload_n 3, 1) := by decide +kernel
theorem dX8_rangeField_136 : decode cX8_rangeField 136 = .ok (.if_icmp .le 7, 3) := by decide +kernel
theorem dX8_rangeField_139 : decode cX8_rangeField 139 = .ok (.iload_n 3, 1) := by decide +kernel
theorem dX8_rangeField_140 : decode cX8_rangeField 140 = .ok (.goto 5, 3) := by decide +kernel
theorem dX8_rangeField_143 : decode cX8_rangeField 143 = .ok (.iload 7, 2) := by decide +kernel
theorem dX8_rangeField_145 : decode cX8_rangeField 145 = .ok (.iastore, 1) := by decide +kernel
theorem dX8_rangeField_146 : decode cX8_rangeField 146 = .ok (.iinc 6 1, 3) := by decide +kernel
theorem dX8_rangeField_149 : decode cX8_rangeField 149 = .ok (.goto (-79), 3) := by decide +kernel
theorem dX8_rangeField_152 : decode cX8_rangeField 152 = .ok (.iconst 1, 1) := by decide +kernel
theorem dX8_rangeField_153 : decode cX8_rangeField 153 = .ok (.ireturn, 1) := by decide +kernel
set_option maxRecDepth 20000 in
theorem ggX8_referenceField_X8_append : GoodIn wsX8_referenceField wsX8_append := goodIn_r _ [7, 2, 8, 9, 10, 11, 12, 13, 14, 15, 6, 16, 17, 18, 19, 20, 21, 22, 23, 24, 25, 26, 27, 28, 29, 30, 31, 32, 33, 34, 35, 36, 37, 38, 39, 40, 41, 42, 43, 44, 45, 46, 47, 48, 49, 50, 51, 52, 53, 54, 55, 56, 57, 58, 59, 60] (by decide +kernel) (by decide +kernel)
set_option maxRecDepth 20000 in
theorem gX8_referenceField_X8_append : GoodIn wsX8_referenceField (wsV RX8 220 RX8 yX8_append wsX8_append) := goodIn_app (goodIn_of _ (by decide +kernel)) ggX8_referenceField_X8_append
theorem dX8_referenceField_0 : decode cX8_referenceField 0 = .ok (.aload_n 0, 1) := by decide +kernel
theorem dX8_referenceField_1 : decode cX8_referenceField 1 = .ok (.iload_n 1, 1) := by decide +kernel
theorem dX8_referenceField_2 : decode cX8_referenceField 2 = .ok (.iconst 1, 1) := by decide +kernel
theorem dX8_referenceField_3 : decode cX8_referenceField 3 = .ok (.iload_n 2, 1) := by decide +kernel
theorem dX8_referenceField_4 : decode cX8_referenceField 4 = .ok (.iload_n 2, 1) := by decide +kernel
theorem dX8_referenceField_5 : decode cX8_referenceField 5 = .ok (.invokevirtual 220, 3) := by decide +kernel
theorem dX8_referenceField_8 : decode cX8_referenceField 8 = .ok (.ifCond .ne 5, 3) := by decide +kernel
theorem dX8_referenceField_11 : decode cX8_referenceField 11 = .ok (.iconst 0, 1) := by decide +kernel
theorem dX8_referenceField_12 : decode cX8_referenceField 12 = .ok (.ireturn, 1) := by decide +kernel
theorem dX8_referenceField_13 : decode cX8_referenceField 13 = .ok (.iconst 0, 1) := by decide +kernel
theorem dX8_referenceField_14 : decode cX8_referenceField 14 = .ok (.istore_n 3, 1) := by decide +kernel
theorem dX8_referenceField_15 : decode cX8_referenceField 15 = .ok (.iload_n 3, 1) := by decide +kernel
theorem dX8_referenceField_16 : decode cX8_referenceField 16 = .ok (.bipush 24, 2) := by decide +kernel
theorem dX8_referenceField_18 : decode cX8_referenceField 18 = .ok (.if_icmp .ge 26, 3) := by decide +kernel
theorem dX8_referenceField_21 : decode cX8_referenceField 21 = .ok (.aload_n 0, 1) := by decide +kernel
theorem dX8_referenceField_22 : decode cX8_referenceField 22 = .ok (.getfield 96, 3) := by decide +kernel
theorem dX8_referenceField_25 : decode cX8_referenceField 25 = .ok (.bipush 6, 2) := by decide +kernel
theorem dX8_referenceField_27 : decode cX8_referenceField 27 = .ok (.iload_n 3, 1) := by decide +kernel
theorem dX8_referenceField_28 : decode cX8_referenceField 28 = .ok (.imul, 1) := by decide +kernel
theorem dX8_referenceField_29 : decode cX8_referenceField 29 = .ok (.aload_n 0, 1) := by decide +kernel
theorem dX8_referenceField_30 : decode cX8_referenceField 30 = .ok (.getfield 207, 3) := by decide +kernel
theorem dX8_referenceField_33 : decode cX8_referenceField 33 = .ok (.iadd, 1) := by decide +kernel
theorem dX8_referenceField_34 : decode cX8_referenceField 34 = .ok (.iconst 1, 1) := by decide +kernel
theorem dX8_referenceField_35 : decode cX8_referenceField 35 = .ok (.isub, 1) := by decide +kernel
theorem dX8_referenceField_36 : decode cX8_referenceField 36 = .ok (.iconst (-1), 1) := by decide +kernel
theorem dX8_referenceField_37 : decode cX8_referenceField 37 = .ok (.iastore, 1) := by decide +kernel
theorem dX8_referenceField_38 : decode cX8_referenceField 38 = .ok (.iinc 3 1, 3) := by decide +kernel
theorem dX8_referenceField_41 : decode cX8_referenceField 41 = .ok (.goto (-26), 3) := by decide +kernel
theorem dX8_referenceField_44 : decode cX8_referenceField 44 = .ok (.iconst 1, 1) := by decide +kernel
theorem dX8_referenceField_45 : decode cX8_referenceField 45 = .ok (.ireturn, 1) := by decide +kernel
set_option maxRecDepth 20000 in
theorem ggX8_canSplit_X8_findDraft : GoodIn wsX8_canSplit wsX8_findDraft := goodIn_r _ [13, 14, 15, 26, 27, 28, 29, 30, 31, 32, 33, 34, 35, 36, 37, 38, 39, 40, 41, 42, 43, 44, 45, 46, 47, 48, 49, 50, 51, 52, 53, 54, 55, 56, 57, 58, 59, 60, 61, 62, 63, 64, 65, 66, 67, 68, 69] (by decide +kernel) (by decide +kernel)
set_option maxRecDepth 20000 in
theorem gX8_canSplit_X8_findDraft : GoodIn wsX8_canSplit (wsV RX8 210 RX8 yX8_findDraft wsX8_findDraft) := goodIn_app (goodIn_of _ (by decide +kernel)) ggX8_canSplit_X8_findDraft
set_option maxRecDepth 20000 in
theorem ggX8_canSplit_X8_hasNumbersAlone : GoodIn wsX8_canSplit wsX8_hasNumbersAlone := goodIn_r _ [19, 1, 20, 26, 27, 28, 29, 30, 31, 32, 33, 34, 35, 36, 37, 38, 39, 40, 41, 42, 43, 44, 45, 46, 47, 48, 49, 50, 51, 52, 53, 54, 55, 56, 57, 58, 59, 60, 61, 62, 63, 64, 65, 66, 67, 68, 69] (by decide +kernel) (by decide +kernel)
set_option maxRecDepth 20000 in
theorem gX8_canSplit_X8_hasNumbersAlone : GoodIn wsX8_canSplit (wsV RX8 227 RX8 yX8_hasNumbersAlone wsX8_hasNumbersAlone) := goodIn_app (goodIn_of _ (by decide +kernel)) ggX8_canSplit_X8_hasNumbersAlone
set_option maxRecDepth 20000 in
theorem ggX8_canSplit_X8_records : GoodIn wsX8_canSplit wsX8_records := goodIn_r _ [24, 25, 26, 27, 28, 29, 30, 31, 32, 33, 34, 35, 36, 37, 38, 39, 40, 41, 42, 43, 44, 45, 46, 47, 48, 49, 50, 51, 52, 53, 54, 55, 56, 57, 58, 59, 60, 61, 62, 63, 64, 65, 66, 67, 68, 69] (by decide +kernel) (by decide +kernel)
set_option maxRecDepth 20000 in
theorem gX8_canSplit_X8_records : GoodIn wsX8_canSplit (wsV RX8 135 RX8 yX8_records wsX8_records) := goodIn_app (goodIn_of _ (by decide +kernel)) ggX8_canSplit_X8_records
theorem dX8_canSplit_0 : decode cX8_canSplit 0 = .ok (.iload_n 2, 1) := by decide +kernel
theorem dX8_canSplit_1 : decode cX8_canSplit 1 = .ok (.istore_n 3, 1) := by decide +kernel
theorem dX8_canSplit_2 : decode cX8_canSplit 2 = .ok (.iconst 0, 1) := by decide +kernel
theorem dX8_canSplit_3 : decode cX8_canSplit 3 = .ok (.istore 4, 2) := by decide +kernel
theorem dX8_canSplit_5 : decode cX8_canSplit 5 = .ok (.iload 4, 2) := by decide +kernel
theorem dX8_canSplit_7 : decode cX8_canSplit 7 = .ok (.aload_n 0, 1) := by decide +kernel
theorem dX8_canSplit_8 : decode cX8_canSplit 8 = .ok (.getfield 17, 3) := by decide +kernel
theorem dX8_canSplit_11 : decode cX8_canSplit 11 = .ok (.iload_n 1, 1) := by decide +kernel
theorem dX8_canSplit_12 : decode cX8_canSplit 12 = .ok (.iaload, 1) := by decide +kernel
theorem dX8_canSplit_13 : decode cX8_canSplit 13 = .ok (.if_icmp .ge 139, 3) := by decide +kernel
theorem dX8_canSplit_16 : decode cX8_canSplit 16 = .ok (.aload_n 0, 1) := by decide +kernel
theorem dX8_canSplit_17 : decode cX8_canSplit 17 = .ok (.aload_n 0, 1) := by decide +kernel
theorem dX8_canSplit_18 : decode cX8_canSplit 18 = .ok (.getfield 20, 3) := by decide +kernel
theorem dX8_canSplit_21 : decode cX8_canSplit 21 = .ok (.bipush 6, 2) := by decide +kernel
theorem dX8_canSplit_23 : decode cX8_canSplit 23 = .ok (.iload_n 1, 1) := by decide +kernel
theorem dX8_canSplit_24 : decode cX8_canSplit 24 = .ok (.imul, 1) := by decide +kernel
theorem dX8_canSplit_25 : decode cX8_canSplit 25 = .ok (.iload 4, 2) := by decide +kernel
theorem dX8_canSplit_27 : decode cX8_canSplit 27 = .ok (.iadd, 1) := by decide +kernel
theorem dX8_canSplit_28 : decode cX8_canSplit 28 = .ok (.iaload, 1) := by decide +kernel
theorem dX8_canSplit_29 : decode cX8_canSplit 29 = .ok (.invokevirtual 210, 3) := by decide +kernel
theorem dX8_canSplit_32 : decode cX8_canSplit 32 = .ok (.istore 5, 2) := by decide +kernel
theorem dX8_canSplit_34 : decode cX8_canSplit 34 = .ok (.iload 5, 2) := by decide +kernel
theorem dX8_canSplit_36 : decode cX8_canSplit 36 = .ok (.ifCond .lt 37, 3) := by decide +kernel
theorem dX8_canSplit_39 : decode cX8_canSplit 39 = .ok (.iload_n 3, 1) := by decide +kernel
theorem dX8_canSplit_40 : decode cX8_canSplit 40 = .ok (.aload_n 0, 1) := by decide +kernel
theorem dX8_canSplit_41 : decode cX8_canSplit 41 = .ok (.getfield 20, 3) := by decide +kernel
theorem dX8_canSplit_44 : decode cX8_canSplit 44 = .ok (.bipush 6, 2) := by decide +kernel
theorem dX8_canSplit_46 : decode cX8_canSplit 46 = .ok (.iload_n 1, 1) := by decide +kernel
theorem dX8_canSplit_47 : decode cX8_canSplit 47 = .ok (.imul, 1) := by decide +kernel
theorem dX8_canSplit_48 : decode cX8_canSplit 48 = .ok (.iload 4, 2) := by decide +kernel
theorem dX8_canSplit_50 : decode cX8_canSplit 50 = .ok (.iadd, 1) := by decide +kernel
theorem dX8_canSplit_51 : decode cX8_canSplit 51 = .ok (.iaload, 1) := by decide +kernel
theorem dX8_canSplit_52 : decode cX8_canSplit 52 = .ok (.ishr, 1) := by decide +kernel
theorem dX8_canSplit_53 : decode cX8_canSplit 53 = .ok (.iconst 1, 1) := by decide +kernel
theorem dX8_canSplit_54 : decode cX8_canSplit 54 = .ok (.iand, 1) := by decide +kernel
theorem dX8_canSplit_55 : decode cX8_canSplit 55 = .ok (.iconst 1, 1) := by decide +kernel
theorem dX8_canSplit_56 : decode cX8_canSplit 56 = .ok (.if_icmp .ne 17, 3) := by decide +kernel
theorem dX8_canSplit_59 : decode cX8_canSplit 59 = .ok (.aload_n 0, 1) := by decide +kernel
theorem dX8_canSplit_60 : decode cX8_canSplit 60 = .ok (.getfield 84, 3) := by decide +kernel
theorem dX8_canSplit_63 : decode cX8_canSplit 63 = .ok (.iload 5, 2) := by decide +kernel
theorem dX8_canSplit_65 : decode cX8_canSplit 65 = .ok (.iaload, 1) := by decide +kernel
theorem dX8_canSplit_66 : decode cX8_canSplit 66 = .ok (.ifCond .ne 7, 3) := by decide +kernel
theorem dX8_canSplit_69 : decode cX8_canSplit 69 = .ok (.iconst 1, 1) := by decide +kernel
theorem dX8_canSplit_70 : decode cX8_canSplit 70 = .ok (.goto 4, 3) := by decide +kernel
theorem dX8_canSplit_73 : decode cX8_canSplit 73 = .ok (.iconst 0, 1) := by decide +kernel
theorem dX8_canSplit_74 : decode cX8_canSplit 74 = .ok (.istore 6, 2) := by decide +kernel
theorem dX8_canSplit_76 : decode cX8_canSplit 76 = .ok (.iload 6, 2) := by decide +kernel
theorem dX8_canSplit_78 : decode cX8_canSplit 78 = .ok (.ifCond .eq 47, 3) := by decide +kernel
theorem dX8_canSplit_81 : decode cX8_canSplit 81 = .ok (.aload_n 0, 1) := by decide +kernel
theorem dX8_canSplit_82 : decode cX8_canSplit 82 = .ok (.getfield 87, 3) := by decide +kernel
theorem dX8_canSplit_85 : decode cX8_canSplit 85 = .ok (.iload 5, 2) := by decide +kernel
theorem dX8_canSplit_87 : decode cX8_canSplit 87 = .ok (.iaload, 1) := by decide +kernel
theorem dX8_canSplit_88 : decode cX8_canSplit 88 = .ok (.aload_n 0, 1) := by decide +kernel
theorem dX8_canSplit_89 : decode cX8_canSplit 89 = .ok (.getfield 26, 3) := by decide +kernel
theorem dX8_canSplit_92 : decode cX8_canSplit 92 = .ok (.bipush 6, 2) := by decide +kernel
theorem dX8_canSplit_94 : decode cX8_canSplit 94 = .ok (.iload_n 1, 1) := by decide +kernel
theorem dX8_canSplit_95 : decode cX8_canSplit 95 = .ok (.imul, 1) := by decide +kernel
theorem dX8_canSplit_96 : decode cX8_canSplit 96 = .ok (.iload 4, 2) := by decide +kernel
theorem dX8_canSplit_98 : decode cX8_canSplit 98 = .ok (.iadd, 1) := by decide +kernel
theorem dX8_canSplit_99 : decode cX8_canSplit 99 = .ok (.iaload, 1) := by decide +kernel
theorem dX8_canSplit_100 : decode cX8_canSplit 100 = .ok (.if_icmp .lt 25, 3) := by decide +kernel
theorem dX8_canSplit_103 : decode cX8_canSplit 103 = .ok (.aload_n 0, 1) := by decide +kernel
theorem dX8_canSplit_104 : decode cX8_canSplit 104 = .ok (.getfield 90, 3) := by decide +kernel
theorem dX8_canSplit_107 : decode cX8_canSplit 107 = .ok (.iload 5, 2) := by decide +kernel
theorem dX8_canSplit_109 : decode cX8_canSplit 109 = .ok (.iaload, 1) := by decide +kernel
theorem dX8_canSplit_110 : decode cX8_canSplit 110 = .ok (.aload_n 0, 1) := by decide +kernel
theorem dX8_canSplit_111 : decode cX8_canSplit 111 = .ok (.getfield 29, 3) := by decide +kernel
theorem dX8_canSplit_114 : decode cX8_canSplit 114 = .ok (.bipush 6, 2) := by decide +kernel
theorem dX8_canSplit_116 : decode cX8_canSplit 116 = .ok (.iload_n 1, 1) := by decide +kernel
theorem dX8_canSplit_117 : decode cX8_canSplit 117 = .ok (.imul, 1) := by decide +kernel
theorem dX8_canSplit_118 : decode cX8_canSplit 118 = .ok (.iload 4, 2) := by decide +kernel
theorem dX8_canSplit_120 : decode cX8_canSplit 120 = .ok (.iadd, 1) := by decide +kernel
theorem dX8_canSplit_121 : decode cX8_canSplit 121 = .ok (.iaload, 1) := by decide +kernel
theorem dX8_canSplit_122 : decode cX8_canSplit 122 = .ok (.if_icmp .le 5, 3) := by decide +kernel
theorem dX8_canSplit_125 : decode cX8_canSplit 125 = .ok (.iconst 0, 1) := by decide +kernel
theorem dX8_canSplit_126 : decode cX8_canSplit 126 = .ok (.ireturn, 1) := by decide +kernel
theorem dX8_canSplit_127 : decode cX8_canSplit 127 = .ok (.iload_n 3, 1) := by decide +kernel
theorem dX8_canSplit_128 : decode cX8_canSplit 128 = .ok (.iconst 1, 1) := by decide +kernel
theorem dX8_canSplit_129 : decode cX8_canSplit 129 = .ok (.aload_n 0, 1) := by decide +kernel
theorem dX8_canSplit_130 : decode cX8_canSplit 130 = .ok (.getfield 20, 3) := by decide +kernel
theorem dX8_canSplit_133 : decode cX8_canSplit 133 = .ok (.bipush 6, 2) := by decide +kernel
theorem dX8_canSplit_135 : decode cX8_canSplit 135 = .ok (.iload_n 1, 1) := by decide +kernel
theorem dX8_canSplit_136 : decode cX8_canSplit 136 = .ok (.imul, 1) := by decide +kernel
theorem dX8_canSplit_137 : decode cX8_canSplit 137 = .ok (.iload 4, 2) := by decide +kernel
theorem dX8_canSplit_139 : decode cX8_canSplit 139 = .ok (.iadd, 1) := by decide +kernel
theorem dX8_canSplit_140 : decode cX8_canSplit 140 = .ok (.iaload, 1) := by decide +kernel
theorem dX8_canSplit_141 : decode cX8_canSplit 141 = .ok (.ishl, 1) := by decide +kernel
theorem dX8_canSplit_142 : decode cX8_canSplit 142 = .ok (.iconst (-1), 1) := by decide +kernel
theorem dX8_canSplit_143 : decode cX8_canSplit 143 = .ok (.ixor, 1) := by decide +kernel
theorem dX8_canSplit_144 : decode cX8_canSplit 144 = .ok (.iand, 1) := by decide +kernel
theorem dX8_canSplit_145 : decode cX8_canSplit 145 = .ok (.istore_n 3, 1) := by decide +kernel
theorem dX8_canSplit_146 : decode cX8_canSplit 146 = .ok (.iinc 4 1, 3) := by decide +kernel
theorem dX8_canSplit_149 : decode cX8_canSplit 149 = .ok (.goto (-144), 3) := by decide +kernel
theorem dX8_canSplit_152 : decode cX8_canSplit 152 = .ok (.iload_n 3, 1) := by decide +kernel
theorem dX8_canSplit_153 : decode cX8_canSplit 153 = .ok (.ifCond .ne 42, 3) := by decide +kernel
theorem dX8_canSplit_156 : decode cX8_canSplit 156 = .ok (.iload_n 1, 1) := by decide +kernel
theorem dX8_canSplit_157 : decode cX8_canSplit 157 = .ok (.aload_n 0, 1) := by decide +kernel
theorem dX8_canSplit_158 : decode cX8_canSplit 158 = .ok (.getfield 196, 3) := by decide +kernel
theorem dX8_canSplit_161 : decode cX8_canSplit 161 = .ok (.if_icmp .eq 34, 3) := by decide +kernel
theorem dX8_canSplit_164 : decode cX8_canSplit 164 = .ok (.aload_n 0, 1) := by decide +kernel
theorem dX8_canSplit_165 : decode cX8_canSplit 165 = .ok (.iload_n 1, 1) := by decide +kernel
theorem dX8_canSplit_166 : decode cX8_canSplit 166 = .ok (.invokevirtual 227, 3) := by decide +kernel
theorem dX8_canSplit_169 : decode cX8_canSplit 169 = .ok (.ifCond .eq 26, 3) := by decide +kernel
theorem dX8_canSplit_172 : decode cX8_canSplit 172 = .ok (.aload_n 0, 1) := by decide +kernel
theorem dX8_canSplit_173 : decode cX8_canSplit 173 = .ok (.iconst (-1), 1) := by decide +kernel
theorem dX8_canSplit_174 : decode cX8_canSplit 174 = .ok (.invokevirtual 135, 3) := by decide +kernel
theorem dX8_canSplit_177 : decode cX8_canSplit 177 = .ok (.aload_n 0, 1) := by decide +kernel
theorem dX8_canSplit_178 : decode cX8_canSplit 178 = .ok (.aload_n 0, 1) := by decide +kernel
theorem dX8_canSplit_179 : decode cX8_canSplit 179 = .ok (.getfield 196, 3) := by decide +kernel
theorem dX8_canSplit_182 : decode cX8_canSplit 182 = .ok (.invokevirtual 135, 3) := by decide +kernel
theorem dX8_canSplit_185 : decode cX8_canSplit 185 = .ok (.iadd, 1) := by decide +kernel
theorem dX8_canSplit_186 : decode cX8_canSplit 186 = .ok (.bipush 24, 2) := by decide +kernel
theorem dX8_canSplit_188 : decode cX8_canSplit 188 = .ok (.if_icmp .gt 7, 3) := by decide +kernel
theorem dX8_canSplit_191 : decode cX8_canSplit 191 = .ok (.iconst 1, 1) := by decide +kernel
theorem dX8_canSplit_192 : decode cX8_canSplit 192 = .ok (.goto 4, 3) := by decide +kernel
theorem dX8_canSplit_195 : decode cX8_canSplit 195 = .ok (.iconst 0, 1) := by decide +kernel
theorem dX8_canSplit_196 : decode cX8_canSplit 196 = .ok (.ireturn, 1) := by decide +kernel
set_option maxRecDepth 20000 in
theorem ggX8_splitField_X8_canSplit : GoodIn wsX8_splitField wsX8_canSplit := goodIn_r _ [17, 6, 9, 18, 19, 20, 21, 22, 3, 23, 24, 25, 16, 26, 12, 27, 28, 29, 30, 31, 32, 33, 34, 35, 36, 2, 50, 51, 52, 53, 54, 55, 56, 57, 58, 59, 60, 61, 62, 63, 64, 65, 66, 67, 68, 69, 70, 71, 72, 73, 74, 75, 76, 77, 78, 79, 80, 81, 82, 83, 84, 85, 86, 87, 88, 89, 90, 91, 92, 93] (by decide +kernel) (by decide +kernel)
set_option maxRecDepth 20000 in
theorem gX8_splitField_X8_canSplit : GoodIn wsX8_splitField (wsV RX8 230 RX8 yX8_canSplit wsX8_canSplit) := goodIn_app (goodIn_of _ (by decide +kernel)) ggX8_splitField_X8_canSplit
set_option maxRecDepth 20000 in
theorem ggX8_splitField_X8_free : GoodIn wsX8_splitField wsX8_free := goodIn_r _ [40, 2, 50, 51, 52, 53, 54, 55, 56, 57, 58, 59, 60, 61, 62, 63, 64, 65, 66, 67, 68, 69, 70, 71, 72, 73, 74, 75, 76, 77, 78, 79, 80, 81, 82, 83, 84, 85, 86, 87, 88, 89, 90, 91, 92, 93] (by decide +kernel) (by decide +kernel)
set_option maxRecDepth 20000 in
theorem gX8_splitField_X8_free : GoodIn wsX8_splitField (wsV RX8 124 RX8 yX8_free wsX8_free) := goodIn_app (goodIn_of _ (by decide +kernel)) ggX8_splitField_X8_free
set_option maxRecDepth 20000 in
theorem ggX8_splitField_X8_findDraft : GoodIn wsX8_splitField wsX8_findDraft := goodIn_r _ [26, 12, 27, 50, 51, 52, 53, 54, 55, 56, 57, 58, 59, 60, 61, 62, 63, 64, 65, 66, 67, 68, 69, 70, 71, 72, 73, 74, 75, 76, 77, 78, 79, 80, 81, 82, 83, 84, 85, 86, 87, 88, 89, 90, 91, 92, 93] (by decide +kernel) (by decide +kernel)
set_option maxRecDepth 20000 in
theorem gX8_splitField_X8_findDraft : GoodIn wsX8_splitField (wsV RX8 210 RX8 yX8_findDraft wsX8_findDraft) := goodIn_app (goodIn_of _ (by decide +kernel)) ggX8_splitField_X8_findDraft
set_option maxRecDepth 20000 in
theorem ggX8_splitField_X8_takeField : GoodIn wsX8_splitField wsX8_takeField := goodIn_r _ [44, 12, 27, 18, 19, 21, 45, 8, 50, 51, 52, 53, 54, 55, 56, 57, 58, 59, 60, 61, 62, 63, 64, 65, 66, 67, 68, 69, 70, 71, 72, 73, 74, 75, 76, 77, 78, 79, 80, 81, 82, 83, 84, 85, 86, 87, 88, 89, 90, 91, 92, 93] (by decide +kernel) (by decide +kernel)
set_option maxRecDepth 20000 in
theorem gX8_splitField_X8_takeField : GoodIn wsX8_splitField (wsV RX8 213 RX8 yX8_takeField wsX8_takeField) := goodIn_app (goodIn_of _ (by decide +kernel)) ggX8_splitField_X8_takeField
set_option maxRecDepth 20000 in
theorem ggX8_splitField_X8_append : GoodIn wsX8_splitField wsX8_append := goodIn_r _ [49, 12, 27, 18, 19, 21, 45, 23, 24, 25, 16, 26, 50, 51, 52, 53, 54, 55, 56, 57, 58, 59, 60, 61, 62, 63, 64, 65, 66, 67, 68, 69, 70, 71, 72, 73, 74, 75, 76, 77, 78, 79, 80, 81, 82, 83, 84, 85, 86, 87, 88, 89, 90, 91, 92, 93] (by decide +kernel) (by decide +kernel)
set_option maxRecDepth 20000 in
theorem gX8_splitField_X8_append : GoodIn wsX8_splitField (wsV RX8 220 RX8 yX8_append wsX8_append) := goodIn_app (goodIn_of _ (by decide +kernel)) ggX8_splitField_X8_append
theorem dX8_splitField_0 : decode cX8_splitField 0 = .ok (.aload_n 0, 1) := by decide +kernel
theorem dX8_splitField_1 : decode cX8_splitField 1 = .ok (.iload_n 2, 1) := by decide +kernel
theorem dX8_splitField_2 : decode cX8_splitField 2 = .ok (.iload_n 3, 1) := by decide +kernel
theorem dX8_splitField_3 : decode cX8_splitField 3 = .ok (.invokevirtual 230, 3) := by decide +kernel
theorem dX8_splitField_6 : decode cX8_splitField 6 = .ok (.ifCond .ne 5, 3) := by decide +kernel
theorem dX8_splitField_9 : decode cX8_splitField 9 = .ok (.iconst 0, 1) := by decide +kernel
theorem dX8_splitField_10 : decode cX8_splitField 10 = .ok (.ireturn, 1) := by decide +kernel
theorem dX8_splitField_11 : decode cX8_splitField 11 = .ok (.iconst 0, 1) := by decide +kernel
theorem dX8_splitField_12 : decode cX8_splitField 12 = .ok (.istore 4, 2) := by decide +kernel
theorem dX8_splitField_14 : decode cX8_splitField 14 = .ok (.iload 4, 2) := by decide +kernel
theorem dX8_splitField_16 : decode cX8_splitField 16 = .ok (.bipush 24, 2) := by decide +kernel
theorem dX8_splitField_18 : decode cX8_splitField 18 = .ok (.if_icmp .ge 17, 3) := by decide +kernel
theorem dX8_splitField_21 : decode cX8_splitField 21 = .ok (.aload_n 0, 1) := by decide +kernel
theorem dX8_splitField_22 : decode cX8_splitField 22 = .ok (.getfield 115, 3) := by decide +kernel
theorem dX8_splitField_25 : decode cX8_splitField 25 = .ok (.iload 4, 2) := by decide +kernel
theorem dX8_splitField_27 : decode cX8_splitField 27 = .ok (.iconst (-1), 1) := by decide +kernel
theorem dX8_splitField_28 : decode cX8_splitField 28 = .ok (.iastore, 1) := by decide +kernel
theorem dX8_splitField_29 : decode cX8_splitField 29 = .ok (.iinc 4 1, 3) := by decide +kernel
theorem dX8_splitField_32 : decode cX8_splitField 32 = .ok (.goto (-18), 3) := by decide +kernel
theorem dX8_splitField_35 : decode cX8_splitField 35 = .ok (.iconst 0, 1) := by decide +kernel
theorem dX8_splitField_36 : decode cX8_splitField 36 = .ok (.istore 4, 2) := by decide +kernel
theorem dX8_splitField_38 : decode cX8_splitField 38 = .ok (.iload 4, 2) := by decide +kernel
theorem dX8_splitField_40 : decode cX8_splitField 40 = .ok (.bipush 24, 2) := by decide +kernel
theorem dX8_splitField_42 : decode cX8_splitField 42 = .ok (.if_icmp .ge 119, 3) := by decide +kernel
theorem dX8_splitField_45 : decode cX8_splitField 45 = .ok (.aload_n 0, 1) := by decide +kernel
theorem dX8_splitField_46 : decode cX8_splitField 46 = .ok (.getfield 47, 3) := by decide +kernel
theorem dX8_splitField_49 : decode cX8_splitField 49 = .ok (.iload 4, 2) := by decide +kernel
theorem dX8_splitField_51 : decode cX8_splitField 51 = .ok (.iaload, 1) := by decide +kernel
theorem dX8_splitField_52 : decode cX8_splitField 52 = .ok (.aload_n 0, 1) := by decide +kernel
theorem dX8_splitField_53 : decode cX8_splitField 53 = .ok (.getfield 196, 3) := by decide +kernel
theorem dX8_splitField_56 : decode cX8_splitField 56 = .ok (.if_icmp .ne 99, 3) := by decide +kernel
theorem dX8_splitField_59 : decode cX8_splitField 59 = .ok (.aload_n 0, 1) := by decide +kernel
theorem dX8_splitField_60 : decode cX8_splitField 60 = .ok (.invokevirtual 124, 3) := by decide +kernel
theorem dX8_splitField_63 : decode cX8_splitField 63 = .ok (.istore 5, 2) := by decide +kernel
theorem dX8_splitField_65 : decode cX8_splitField 65 = .ok (.aload_n 0, 1) := by decide +kernel
theorem dX8_splitField_66 : decode cX8_splitField 66 = .ok (.getfield 47, 3) := by decide +kernel
theorem dX8_splitField_69 : decode cX8_splitField 69 = .ok (.iload 5, 2) := by decide +kernel
theorem dX8_splitField_71 : decode cX8_splitField 71 = .ok (.iload_n 2, 1) := by decide +kernel
theorem dX8_splitField_72 : decode cX8_splitField 72 = .ok (.iastore, 1) := by decide +kernel
theorem dX8_splitField_73 : decode cX8_splitField 73 = .ok (.aload_n 0, 1) := by decide +kernel
theorem dX8_splitField_74 : decode cX8_splitField 74 = .ok (.getfield 50, 3) := by decide +kernel
theorem dX8_splitField_77 : decode cX8_splitField 77 = .ok (.iload 5, 2) := by decide +kernel
theorem dX8_splitField_79 : decode cX8_splitField 79 = .ok (.aload_n 0, 1) := by decide +kernel
theorem dX8_splitField_80 : decode cX8_splitField 80 = .ok (.getfield 7, 3) := by decide +kernel
theorem dX8_splitField_83 : decode cX8_splitField 83 = .ok (.iload_n 2, 1) := by decide +kernel
theorem dX8_splitField_84 : decode cX8_splitField 84 = .ok (.iaload, 1) := by decide +kernel
theorem dX8_splitField_85 : decode cX8_splitField 85 = .ok (.iastore, 1) := by decide +kernel
theorem dX8_splitField_86 : decode cX8_splitField 86 = .ok (.iconst 0, 1) := by decide +kernel
theorem dX8_splitField_87 : decode cX8_splitField 87 = .ok (.istore 6, 2) := by decide +kernel
theorem dX8_splitField_89 : decode cX8_splitField 89 = .ok (.iload 6, 2) := by decide +kernel
theorem dX8_splitField_91 : decode cX8_splitField 91 = .ok (.aload_n 0, 1) := by decide +kernel
theorem dX8_splitField_92 : decode cX8_splitField 92 = .ok (.getfield 17, 3) := by decide +kernel
theorem dX8_splitField_95 : decode cX8_splitField 95 = .ok (.iload_n 2, 1) := by decide +kernel
theorem dX8_splitField_96 : decode cX8_splitField 96 = .ok (.iaload, 1) := by decide +kernel
theorem dX8_splitField_97 : decode cX8_splitField 97 = .ok (.if_icmp .ge 49, 3) := by decide +kernel
theorem dX8_splitField_100 : decode cX8_splitField 100 = .ok (.aload_n 0, 1) := by decide +kernel
theorem dX8_splitField_101 : decode cX8_splitField 101 = .ok (.getfield 53, 3) := by decide +kernel
theorem dX8_splitField_104 : decode cX8_splitField 104 = .ok (.bipush 6, 2) := by decide +kernel
theorem dX8_splitField_106 : decode cX8_splitField 106 = .ok (.iload 5, 2) := by decide +kernel
theorem dX8_splitField_108 : decode cX8_splitField 108 = .ok (.imul, 1) := by decide +kernel
theorem dX8_splitField_109 : decode cX8_splitField 109 = .ok (.iload 6, 2) := by decide +kernel
theorem dX8_splitField_111 : decode cX8_splitField 111 = .ok (.iadd, 1) := by decide +kernel
theorem dX8_splitField_112 : decode cX8_splitField 112 = .ok (.aload_n 0, 1) := by decide +kernel
theorem dX8_splitField_113 : decode cX8_splitField 113 = .ok (.getfield 96, 3) := by decide +kernel
theorem dX8_splitField_116 : decode cX8_splitField 116 = .ok (.bipush 6, 2) := by decide +kernel
theorem dX8_splitField_118 : decode cX8_splitField 118 = .ok (.iload 4, 2) := by decide +kernel
theorem dX8_splitField_120 : decode cX8_splitField 120 = .ok (.imul, 1) := by decide +kernel
theorem dX8_splitField_121 : decode cX8_splitField 121 = .ok (.aload_n 0, 1) := by decide +kernel
theorem dX8_splitField_122 : decode cX8_splitField 122 = .ok (.aload_n 0, 1) := by decide +kernel
theorem dX8_splitField_123 : decode cX8_splitField 123 = .ok (.getfield 20, 3) := by decide +kernel
theorem dX8_splitField_126 : decode cX8_splitField 126 = .ok (.bipush 6, 2) := by decide +kernel
theorem dX8_splitField_128 : decode cX8_splitField 128 = .ok (.iload_n 2, 1) := by decide +kernel
theorem dX8_splitField_129 : decode cX8_splitField 129 = .ok (.imul, 1) := by decide +kernel
theorem dX8_splitField_130 : decode cX8_splitField 130 = .ok (.iload 6, 2) := by decide +kernel
theorem dX8_splitField_132 : decode cX8_splitField 132 = .ok (.iadd, 1) := by decide +kernel
theorem dX8_splitField_133 : decode cX8_splitField 133 = .ok (.iaload, 1) := by decide +kernel
theorem dX8_splitField_134 : decode cX8_splitField 134 = .ok (.invokevirtual 210, 3) := by decide +kernel
theorem dX8_splitField_137 : decode cX8_splitField 137 = .ok (.iadd, 1) := by decide +kernel
theorem dX8_splitField_138 : decode cX8_splitField 138 = .ok (.iaload, 1) := by decide +kernel
theorem dX8_splitField_139 : decode cX8_splitField 139 = .ok (.iastore, 1) := by decide +kernel
theorem dX8_splitField_140 : decode cX8_splitField 140 = .ok (.iinc 6 1, 3) := by decide +kernel
theorem dX8_splitField_143 : decode cX8_splitField 143 = .ok (.goto (-54), 3) := by decide +kernel
theorem dX8_splitField_146 : decode cX8_splitField 146 = .ok (.aload_n 0, 1) := by decide +kernel
theorem dX8_splitField_147 : decode cX8_splitField 147 = .ok (.getfield 115, 3) := by decide +kernel
theorem dX8_splitField_150 : decode cX8_splitField 150 = .ok (.iload 4, 2) := by decide +kernel
theorem dX8_splitField_152 : decode cX8_splitField 152 = .ok (.iload 5, 2) := by decide +kernel
theorem dX8_splitField_154 : decode cX8_splitField 154 = .ok (.iastore, 1) := by decide +kernel
theorem dX8_splitField_155 : decode cX8_splitField 155 = .ok (.iinc 4 1, 3) := by decide +kernel
theorem dX8_splitField_158 : decode cX8_splitField 158 = .ok (.goto (-120), 3) := by decide +kernel
theorem dX8_splitField_161 : decode cX8_splitField 161 = .ok (.iconst 0, 1) := by decide +kernel
theorem dX8_splitField_162 : decode cX8_splitField 162 = .ok (.istore 4, 2) := by decide +kernel
theorem dX8_splitField_164 : decode cX8_splitField 164 = .ok (.iload 4, 2) := by decide +kernel
theorem dX8_splitField_166 : decode cX8_splitField 166 = .ok (.aload_n 0, 1) := by decide +kernel
theorem dX8_splitField_167 : decode cX8_splitField 167 = .ok (.getfield 17, 3) := by decide +kernel
theorem dX8_splitField_170 : decode cX8_splitField 170 = .ok (.iload_n 2, 1) := by decide +kernel
theorem dX8_splitField_171 : decode cX8_splitField 171 = .ok (.iaload, 1) := by decide +kernel
theorem dX8_splitField_172 : decode cX8_splitField 172 = .ok (.if_icmp .ge 29, 3) := by decide +kernel
theorem dX8_splitField_175 : decode cX8_splitField 175 = .ok (.aload_n 0, 1) := by decide +kernel
theorem dX8_splitField_176 : decode cX8_splitField 176 = .ok (.aload_n 0, 1) := by decide +kernel
theorem dX8_splitField_177 : decode cX8_splitField 177 = .ok (.aload_n 0, 1) := by decide +kernel
theorem dX8_splitField_178 : decode cX8_splitField 178 = .ok (.getfield 20, 3) := by decide +kernel
theorem dX8_splitField_181 : decode cX8_splitField 181 = .ok (.bipush 6, 2) := by decide +kernel
theorem dX8_splitField_183 : decode cX8_splitField 183 = .ok (.iload_n 2, 1) := by decide +kernel
theorem dX8_splitField_184 : decode cX8_splitField 184 = .ok (.imul, 1) := by decide +kernel
theorem dX8_splitField_185 : decode cX8_splitField 185 = .ok (.iload 4, 2) := by decide +kernel
theorem dX8_splitField_187 : decode cX8_splitField 187 = .ok (.iadd, 1) := by decide +kernel
theorem dX8_splitField_188 : decode cX8_splitField 188 = .ok (.iaload, 1) := by decide +kernel
theorem dX8_splitField_189 : decode cX8_splitField 189 = .ok (.invokevirtual 210, 3) := by decide +kernel
theorem dX8_splitField_192 : decode cX8_splitField 192 = .ok (.invokevirtual 213, 3) := by decide +kernel
theorem dX8_splitField_195 : decode cX8_splitField 195 = .ok (.iinc 4 1, 3) := by decide +kernel
theorem dX8_splitField_198 : decode cX8_splitField 198 = .ok (.goto (-34), 3) := by decide +kernel
theorem dX8_splitField_201 : decode cX8_splitField 201 = .ok (.aload_n 0, 1) := by decide +kernel
theorem dX8_splitField_202 : decode cX8_splitField 202 = .ok (.iconst 1, 1) := by decide +kernel
theorem dX8_splitField_203 : decode cX8_splitField 203 = .ok (.putfield 234, 3) := by decide +kernel
theorem dX8_splitField_206 : decode cX8_splitField 206 = .ok (.aload_n 0, 1) := by decide +kernel
theorem dX8_splitField_207 : decode cX8_splitField 207 = .ok (.dup, 1) := by decide +kernel
theorem dX8_splitField_208 : decode cX8_splitField 208 = .ok (.getfield 238, 3) := by decide +kernel
theorem dX8_splitField_211 : decode cX8_splitField 211 = .ok (.iconst 1, 1) := by decide +kernel
theorem dX8_splitField_212 : decode cX8_splitField 212 = .ok (.iload_n 2, 1) := by decide +kernel
theorem dX8_splitField_213 : decode cX8_splitField 213 = .ok (.ishl, 1) := by decide +kernel
theorem dX8_splitField_214 : decode cX8_splitField 214 = .ok (.ior, 1) := by decide +kernel
theorem dX8_splitField_215 : decode cX8_splitField 215 = .ok (.putfield 238, 3) := by decide +kernel
theorem dX8_splitField_218 : decode cX8_splitField 218 = .ok (.aload_n 0, 1) := by decide +kernel
theorem dX8_splitField_219 : decode cX8_splitField 219 = .ok (.iload_n 1, 1) := by decide +kernel
theorem dX8_splitField_220 : decode cX8_splitField 220 = .ok (.iconst 2, 1) := by decide +kernel
theorem dX8_splitField_221 : decode cX8_splitField 221 = .ok (.iload_n 2, 1) := by decide +kernel
theorem dX8_splitField_222 : decode cX8_splitField 222 = .ok (.iload_n 2, 1) := by decide +kernel
theorem dX8_splitField_223 : decode cX8_splitField 223 = .ok (.invokevirtual 220, 3) := by decide +kernel
theorem dX8_splitField_226 : decode cX8_splitField 226 = .ok (.ifCond .ne 5, 3) := by decide +kernel
theorem dX8_splitField_229 : decode cX8_splitField 229 = .ok (.iconst 0, 1) := by decide +kernel
theorem dX8_splitField_230 : decode cX8_splitField 230 = .ok (.ireturn, 1) := by decide +kernel
theorem dX8_splitField_231 : decode cX8_splitField 231 = .ok (.iconst 0, 1) := by decide +kernel
theorem dX8_splitField_232 : decode cX8_splitField 232 = .ok (.istore 4, 2) := by decide +kernel
theorem dX8_splitField_234 : decode cX8_splitField 234 = .ok (.iload 4, 2) := by decide +kernel
theorem dX8_splitField_236 : decode cX8_splitField 236 = .ok (.bipush 24, 2) := by decide +kernel
theorem dX8_splitField_238 : decode cX8_splitField 238 = .ok (.if_icmp .ge 33, 3) := by decide +kernel
theorem dX8_splitField_241 : decode cX8_splitField 241 = .ok (.aload_n 0, 1) := by decide +kernel
theorem dX8_splitField_242 : decode cX8_splitField 242 = .ok (.getfield 96, 3) := by decide +kernel
theorem dX8_splitField_245 : decode cX8_splitField 245 = .ok (.bipush 6, 2) := by decide +kernel
theorem dX8_splitField_247 : decode cX8_splitField 247 = .ok (.iload 4, 2) := by decide +kernel
theorem dX8_splitField_249 : decode cX8_splitField 249 = .ok (.imul, 1) := by decide +kernel
theorem dX8_splitField_250 : decode cX8_splitField 250 = .ok (.aload_n 0, 1) := by decide +kernel
theorem dX8_splitField_251 : decode cX8_splitField 251 = .ok (.getfield 207, 3) := by decide +kernel
theorem dX8_splitField_254 : decode cX8_splitField 254 = .ok (.iadd, 1) := by decide +kernel
theorem dX8_splitField_255 : decode cX8_splitField 255 = .ok (.iconst 1, 1) := by decide +kernel
theorem dX8_splitField_256 : decode cX8_splitField 256 = .ok (.isub, 1) := by decide +kernel
theorem dX8_splitField_257 : decode cX8_splitField 257 = .ok (.aload_n 0, 1) := by decide +kernel
theorem dX8_splitField_258 : decode cX8_splitField 258 = .ok (.getfield 115, 3) := by decide +kernel
theorem dX8_splitField_261 : decode cX8_splitField 261 = .ok (.iload 4, 2) := by decide +kernel
theorem dX8_splitField_263 : decode cX8_splitField 263 = .ok (.iaload, 1) := by decide +kernel
theorem dX8_splitField_264 : decode cX8_splitField 264 = .ok (.iastore, 1) := by decide +kernel
theorem dX8_splitField_265 : decode cX8_splitField 265 = .ok (.iinc 4 1, 3) := by decide +kernel
theorem dX8_splitField_268 : decode cX8_splitField 268 = .ok (.goto (-34), 3) := by decide +kernel
theorem dX8_splitField_271 : decode cX8_splitField 271 = .ok (.iconst 1, 1) := by decide +kernel
theorem dX8_splitField_272 : decode cX8_splitField 272 = .ok (.ireturn, 1) := by decide +kernel
theorem dX8_isHeld_0 : decode cX8_isHeld 0 = .ok (.iconst 0, 1) := by decide +kernel
theorem dX8_isHeld_1 : decode cX8_isHeld 1 = .ok (.istore_n 2, 1) := by decide +kernel
theorem dX8_isHeld_2 : decode cX8_isHeld 2 = .ok (.iconst 0, 1) := by decide +kernel
theorem dX8_isHeld_3 : decode cX8_isHeld 3 = .ok (.istore_n 3, 1) := by decide +kernel
theorem dX8_isHeld_4 : decode cX8_isHeld 4 = .ok (.iload_n 3, 1) := by decide +kernel
theorem dX8_isHeld_5 : decode cX8_isHeld 5 = .ok (.bipush 24, 2) := by decide +kernel
theorem dX8_isHeld_7 : decode cX8_isHeld 7 = .ok (.if_icmp .ge 79, 3) := by decide +kernel
theorem dX8_isHeld_10 : decode cX8_isHeld 10 = .ok (.iconst 0, 1) := by decide +kernel
theorem dX8_isHeld_11 : decode cX8_isHeld 11 = .ok (.istore 4, 2) := by decide +kernel
theorem dX8_isHeld_13 : decode cX8_isHeld 13 = .ok (.iload 4, 2) := by decide +kernel
theorem dX8_isHeld_15 : decode cX8_isHeld 15 = .ok (.bipush 8, 2) := by decide +kernel
theorem dX8_isHeld_17 : decode cX8_isHeld 17 = .ok (.if_icmp .ge 63, 3) := by decide +kernel
theorem dX8_isHeld_20 : decode cX8_isHeld 20 = .ok (.aload_n 0, 1) := by decide +kernel
theorem dX8_isHeld_21 : decode cX8_isHeld 21 = .ok (.getfield 47, 3) := by decide +kernel
theorem dX8_isHeld_24 : decode cX8_isHeld 24 = .ok (.iload_n 3, 1) := by decide +kernel
theorem dX8_isHeld_25 : decode cX8_isHeld 25 = .ok (.iaload, 1) := by decide +kernel
theorem dX8_isHeld_26 : decode cX8_isHeld 26 = .ok (.aload_n 0, 1) := by decide +kernel
theorem dX8_isHeld_27 : decode cX8_isHeld 27 = .ok (.getfield 196, 3) := by decide +kernel
theorem dX8_isHeld_30 : decode cX8_isHeld 30 = .ok (.if_icmp .ne 50, 3) := by decide +kernel
theorem dX8_isHeld_33 : decode cX8_isHeld 33 = .ok (.iload_n 2, 1) := by decide +kernel
theorem dX8_isHeld_34 : decode cX8_isHeld 34 = .ok (.ifCond .ne 34, 3) := by decide +kernel
theorem dX8_isHeld_37 : decode cX8_isHeld 37 = .ok (.aload_n 0, 1) := by decide +kernel
theorem dX8_isHeld_38 : decode cX8_isHeld 38 = .ok (.getfield 62, 3) := by decide +kernel
theorem dX8_isHeld_41 : decode cX8_isHeld 41 = .ok (.iload 4, 2) := by decide +kernel
theorem dX8_isHeld_43 : decode cX8_isHeld 43 = .ok (.iaload, 1) := by decide +kernel
theorem dX8_isHeld_44 : decode cX8_isHeld 44 = .ok (.ifCond .lt 28, 3) := by decide +kernel
theorem dX8_isHeld_47 : decode cX8_isHeld 47 = .ok (.aload_n 0, 1) := by decide +kernel
theorem dX8_isHeld_48 : decode cX8_isHeld 48 = .ok (.getfield 62, 3) := by decide +kernel
theorem dX8_isHeld_51 : decode cX8_isHeld 51 = .ok (.iload 4, 2) := by decide +kernel
theorem dX8_isHeld_53 : decode cX8_isHeld 53 = .ok (.iaload, 1) := by decide +kernel
theorem dX8_isHeld_54 : decode cX8_isHeld 54 = .ok (.aload_n 0, 1) := by decide +kernel
theorem dX8_isHeld_55 : decode cX8_isHeld 55 = .ok (.getfield 96, 3) := by decide +kernel
theorem dX8_isHeld_58 : decode cX8_isHeld 58 = .ok (.bipush 6, 2) := by decide +kernel
theorem dX8_isHeld_60 : decode cX8_isHeld 60 = .ok (.iload_n 3, 1) := by decide +kernel
theorem dX8_isHeld_61 : decode cX8_isHeld 61 = .ok (.imul, 1) := by decide +kernel
theorem dX8_isHeld_62 : decode cX8_isHeld 62 = .ok (.iload_n 1, 1) := by decide +kernel
theorem dX8_isHeld_63 : decode cX8_isHeld 63 = .ok (.iadd, 1) := by decide +kernel
theorem dX8_isHeld_64 : decode cX8_isHeld 64 = .ok (.iaload, 1) := by decide +kernel
theorem dX8_isHeld_65 : decode cX8_isHeld 65 = .ok (.if_icmp .ne 7, 3) := by decide +kernel
theorem dX8_isHeld_68 : decode cX8_isHeld 68 = .ok (.iconst 1, 1) := by decide +kernel
theorem dX8_isHeld_69 : decode cX8_isHeld 69 = .ok (.goto 4, 3) := by decide +kernel
theorem dX8_isHeld_72 : decode cX8_isHeld 72 = .ok (.iconst 0, 1) := by decide +kernel
theorem dX8_isHeld_73 : decode cX8_isHeld 73 = .ok (.istore_n 2, 1) := by decide +kernel
theorem dX8_isHeld_74 : decode cX8_isHeld 74 = .ok (.iinc 4 1, 3) := by decide +kernel
theorem dX8_isHeld_77 : decode cX8_isHeld 77 = .ok (.goto (-64), 3) := by decide +kernel
theorem dX8_isHeld_80 : decode cX8_isHeld 80 = .ok (.iinc 3 1, 3) := by decide +kernel
theorem dX8_isHeld_83 : decode cX8_isHeld 83 = .ok (.goto (-79), 3) := by decide +kernel
theorem dX8_isHeld_86 : decode cX8_isHeld 86 = .ok (.iload_n 2, 1) := by decide +kernel
theorem dX8_isHeld_87 : decode cX8_isHeld 87 = .ok (.ireturn, 1) := by decide +kernel
set_option maxRecDepth 20000 in
theorem ggX8_joinField_X8_findDraft : GoodIn wsX8_joinField wsX8_findDraft := goodIn_r _ [20, 12, 21, 41, 42, 43, 44, 45, 46, 47, 48, 49, 50, 51, 52, 53, 54, 55, 56, 57, 58, 59, 60, 61, 62, 63, 64, 65, 66, 67, 68, 69, 70, 71, 72, 73, 74, 75, 76, 77, 78, 79, 80, 81, 82, 83, 84] (by decide +kernel) (by decide +kernel)
set_option maxRecDepth 20000 in
theorem gX8_joinField_X8_findDraft : GoodIn wsX8_joinField (wsV RX8 210 RX8 yX8_findDraft wsX8_findDraft) := goodIn_app (goodIn_of _ (by decide +kernel)) ggX8_joinField_X8_findDraft
set_option maxRecDepth 20000 in
theorem ggX8_joinField_X8_hasNumbersAlone : GoodIn wsX8_joinField wsX8_hasNumbersAlone := goodIn_r _ [25, 6, 26, 41, 42, 43, 44, 45, 46, 47, 48, 49, 50, 51, 52, 53, 54, 55, 56, 57, 58, 59, 60, 61, 62, 63, 64, 65, 66, 67, 68, 69, 70, 71, 72, 73, 74, 75, 76, 77, 78, 79, 80, 81, 82, 83, 84] (by decide +kernel) (by decide +kernel)
set_option maxRecDepth 20000 in
theorem gX8_joinField_X8_hasNumbersAlone : GoodIn wsX8_joinField (wsV RX8 227 RX8 yX8_hasNumbersAlone wsX8_hasNumbersAlone) := goodIn_app (goodIn_of _ (by decide +kernel)) ggX8_joinField_X8_hasNumbersAlone
set_option maxRecDepth 20000 in
theorem ggX8_joinField_X8_isHeld : GoodIn wsX8_joinField wsX8_isHeld := goodIn_r _ [30, 10, 11, 31, 5, 41, 42, 43, 44, 45, 46, 47, 48, 49, 50, 51, 52, 53, 54, 55, 56, 57, 58, 59, 60, 61, 62, 63, 64, 65, 66, 67, 68, 69, 70, 71, 72, 73, 74, 75, 76, 77, 78, 79, 80, 81, 82, 83, 84] (by decide +kernel) (by decide +kernel)
set_option maxRecDepth 20000 in
theorem gX8_joinField_X8_isHeld : GoodIn wsX8_joinField (wsV RX8 241 RX8 yX8_isHeld wsX8_isHeld) := goodIn_app (goodIn_of _ (by decide +kernel)) ggX8_joinField_X8_isHeld
set_option maxRecDepth 20000 in
theorem ggX8_joinField_X8_takeField : GoodIn wsX8_joinField wsX8_takeField := goodIn_r _ [35, 12, 21, 1, 3, 36, 2, 5, 41, 42, 43, 44, 45, 46, 47, 48, 49, 50, 51, 52, 53, 54, 55, 56, 57, 58, 59, 60, 61, 62, 63, 64, 65, 66, 67, 68, 69, 70, 71, 72, 73, 74, 75, 76, 77, 78, 79, 80, 81, 82, 83, 84] (by decide +kernel) (by decide +kernel)
set_option maxRecDepth 20000 in
theorem gX8_joinField_X8_takeField : GoodIn wsX8_joinField (wsV RX8 213 RX8 yX8_takeField wsX8_takeField) := goodIn_app (goodIn_of _ (by decide +kernel)) ggX8_joinField_X8_takeField
set_option maxRecDepth 20000 in
theorem ggX8_joinField_X8_append : GoodIn wsX8_joinField wsX8_append := goodIn_r _ [40, 12, 21, 1, 3, 36, 2, 16, 17, 18, 19, 20, 41, 42, 43, 44, 45, 46, 47, 48, 49, 50, 51, 52, 53, 54, 55, 56, 57, 58, 59, 60, 61, 62, 63, 64, 65, 66, 67, 68, 69, 70, 71, 72, 73, 74, 75, 76, 77, 78, 79, 80, 81, 82, 83, 84] (by decide +kernel) (by decide +kernel)
set_option maxRecDepth 20000 in
theorem gX8_joinField_X8_append : GoodIn wsX8_joinField (wsV RX8 220 RX8 yX8_append wsX8_append) := goodIn_app (goodIn_of _ (by decide +kernel)) ggX8_joinField_X8_append
theorem dX8_joinField_0 : decode cX8_joinField 0 = .ok (.aload_n 0, 1) := by decide +kernel
theorem dX8_joinField_1 : decode cX8_joinField 1 = .ok (.iload_n 1, 1) := by decide +kernel
theorem dX8_joinField_2 : decode cX8_joinField 2 = .ok (.invokevirtual 210, 3) := by decide +kernel
theorem dX8_joinField_5 : decode cX8_joinField 5 = .ok (.istore_n 2, 1) := by decide +kernel
theorem dX8_joinField_6 : decode cX8_joinField 6 = .ok (.iload_n 2, 1) := by decide +kernel
theorem dX8_joinField_7 : decode cX8_joinField 7 = .ok (.ifCond .lt 43, 3) := by decide +kernel
theorem dX8_joinField_10 : decode cX8_joinField 10 = .ok (.aload_n 0, 1) := by decide +kernel
theorem dX8_joinField_11 : decode cX8_joinField 11 = .ok (.getfield 84, 3) := by decide +kernel
theorem dX8_joinField_14 : decode cX8_joinField 14 = .ok (.iload_n 2, 1) := by decide +kernel
theorem dX8_joinField_15 : decode cX8_joinField 15 = .ok (.iaload, 1) := by decide +kernel
theorem dX8_joinField_16 : decode cX8_joinField 16 = .ok (.iconst 2, 1) := by decide +kernel
theorem dX8_joinField_17 : decode cX8_joinField 17 = .ok (.if_icmp .ne 33, 3) := by decide +kernel
theorem dX8_joinField_20 : decode cX8_joinField 20 = .ok (.aload_n 0, 1) := by decide +kernel
theorem dX8_joinField_21 : decode cX8_joinField 21 = .ok (.getfield 93, 3) := by decide +kernel
theorem dX8_joinField_24 : decode cX8_joinField 24 = .ok (.iload_n 2, 1) := by decide +kernel
theorem dX8_joinField_25 : decode cX8_joinField 25 = .ok (.iaload, 1) := by decide +kernel
theorem dX8_joinField_26 : decode cX8_joinField 26 = .ok (.ifCond .lt 24, 3) := by decide +kernel
theorem dX8_joinField_29 : decode cX8_joinField 29 = .ok (.aload_n 0, 1) := by decide +kernel
theorem dX8_joinField_30 : decode cX8_joinField 30 = .ok (.aload_n 0, 1) := by decide +kernel
theorem dX8_joinField_31 : decode cX8_joinField 31 = .ok (.getfield 87, 3) := by decide +kernel
theorem dX8_joinField_34 : decode cX8_joinField 34 = .ok (.iload_n 2, 1) := by decide +kernel
theorem dX8_joinField_35 : decode cX8_joinField 35 = .ok (.iaload, 1) := by decide +kernel
theorem dX8_joinField_36 : decode cX8_joinField 36 = .ok (.invokevirtual 227, 3) := by decide +kernel
theorem dX8_joinField_39 : decode cX8_joinField 39 = .ok (.ifCond .eq 11, 3) := by decide +kernel
theorem dX8_joinField_42 : decode cX8_joinField 42 = .ok (.aload_n 0, 1) := by decide +kernel
theorem dX8_joinField_43 : decode cX8_joinField 43 = .ok (.iload_n 2, 1) := by decide +kernel
theorem dX8_joinField_44 : decode cX8_joinField 44 = .ok (.invokevirtual 241, 3) := by decide +kernel
theorem dX8_joinField_47 : decode cX8_joinField 47 = .ok (.ifCond .eq 5, 3) := by decide +kernel
theorem dX8_joinField_50 : decode cX8_joinField 50 = .ok (.iconst 0, 1) := by decide +kernel
theorem dX8_joinField_51 : decode cX8_joinField 51 = .ok (.ireturn, 1) := by decide +kernel
theorem dX8_joinField_52 : decode cX8_joinField 52 = .ok (.aload_n 0, 1) := by decide +kernel
theorem dX8_joinField_53 : decode cX8_joinField 53 = .ok (.getfield 87, 3) := by decide +kernel
theorem dX8_joinField_56 : decode cX8_joinField 56 = .ok (.iload_n 2, 1) := by decide +kernel
theorem dX8_joinField_57 : decode cX8_joinField 57 = .ok (.iaload, 1) := by decide +kernel
theorem dX8_joinField_58 : decode cX8_joinField 58 = .ok (.istore_n 3, 1) := by decide +kernel
theorem dX8_joinField_59 : decode cX8_joinField 59 = .ok (.iconst 0, 1) := by decide +kernel
theorem dX8_joinField_60 : decode cX8_joinField 60 = .ok (.istore 4, 2) := by decide +kernel
theorem dX8_joinField_62 : decode cX8_joinField 62 = .ok (.iload 4, 2) := by decide +kernel
theorem dX8_joinField_64 : decode cX8_joinField 64 = .ok (.bipush 24, 2) := by decide +kernel
theorem dX8_joinField_66 : decode cX8_joinField 66 = .ok (.if_icmp .ge 28, 3) := by decide +kernel
theorem dX8_joinField_69 : decode cX8_joinField 69 = .ok (.aload_n 0, 1) := by decide +kernel
theorem dX8_joinField_70 : decode cX8_joinField 70 = .ok (.getfield 115, 3) := by decide +kernel
theorem dX8_joinField_73 : decode cX8_joinField 73 = .ok (.iload 4, 2) := by decide +kernel
theorem dX8_joinField_75 : decode cX8_joinField 75 = .ok (.aload_n 0, 1) := by decide +kernel
theorem dX8_joinField_76 : decode cX8_joinField 76 = .ok (.getfield 96, 3) := by decide +kernel
theorem dX8_joinField_79 : decode cX8_joinField 79 = .ok (.bipush 6, 2) := by decide +kernel
theorem dX8_joinField_81 : decode cX8_joinField 81 = .ok (.iload 4, 2) := by decide +kernel
theorem dX8_joinField_83 : decode cX8_joinField 83 = .ok (.imul, 1) := by decide +kernel
theorem dX8_joinField_84 : decode cX8_joinField 84 = .ok (.iload_n 2, 1) := by decide +kernel
theorem dX8_joinField_85 : decode cX8_joinField 85 = .ok (.iadd, 1) := by decide +kernel
theorem dX8_joinField_86 : decode cX8_joinField 86 = .ok (.iaload, 1) := by decide +kernel
theorem dX8_joinField_87 : decode cX8_joinField 87 = .ok (.iastore, 1) := by decide +kernel
theorem dX8_joinField_88 : decode cX8_joinField 88 = .ok (.iinc 4 1, 3) := by decide +kernel
theorem dX8_joinField_91 : decode cX8_joinField 91 = .ok (.goto (-29), 3) := by decide +kernel
theorem dX8_joinField_94 : decode cX8_joinField 94 = .ok (.aload_n 0, 1) := by decide +kernel
theorem dX8_joinField_95 : decode cX8_joinField 95 = .ok (.iload_n 2, 1) := by decide +kernel
theorem dX8_joinField_96 : decode cX8_joinField 96 = .ok (.invokevirtual 213, 3) := by decide +kernel
theorem dX8_joinField_99 : decode cX8_joinField 99 = .ok (.iconst 0, 1) := by decide +kernel
theorem dX8_joinField_100 : decode cX8_joinField 100 = .ok (.istore 4, 2) := by decide +kernel
theorem dX8_joinField_102 : decode cX8_joinField 102 = .ok (.iload 4, 2) := by decide +kernel
theorem dX8_joinField_104 : decode cX8_joinField 104 = .ok (.aload_n 0, 1) := by decide +kernel
theorem dX8_joinField_105 : decode cX8_joinField 105 = .ok (.getfield 17, 3) := by decide +kernel
theorem dX8_joinField_108 : decode cX8_joinField 108 = .ok (.iload_n 3, 1) := by decide +kernel
theorem dX8_joinField_109 : decode cX8_joinField 109 = .ok (.iaload, 1) := by decide +kernel
theorem dX8_joinField_110 : decode cX8_joinField 110 = .ok (.if_icmp .ge 120, 3) := by decide +kernel
theorem dX8_joinField_113 : decode cX8_joinField 113 = .ok (.aload_n 0, 1) := by decide +kernel
theorem dX8_joinField_114 : decode cX8_joinField 114 = .ok (.aload_n 0, 1) := by decide +kernel
theorem dX8_joinField_115 : decode cX8_joinField 115 = .ok (.getfield 20, 3) := by decide +kernel
theorem dX8_joinField_118 : decode cX8_joinField 118 = .ok (.bipush 6, 2) := by decide +kernel
theorem dX8_joinField_120 : decode cX8_joinField 120 = .ok (.iload_n 3, 1) := by decide +kernel
theorem dX8_joinField_121 : decode cX8_joinField 121 = .ok (.imul, 1) := by decide +kernel
theorem dX8_joinField_122 : decode cX8_joinField 122 = .ok (.iload 4, 2) := by decide +kernel
theorem dX8_joinField_124 : decode cX8_joinField 124 = .ok (.iadd, 1) := by decide +kernel
theorem dX8_joinField_125 : decode cX8_joinField 125 = .ok (.iaload, 1) := by decide +kernel
theorem dX8_joinField_126 : decode cX8_joinField 126 = .ok (.iconst 0, 1) := by decide +kernel
theorem dX8_joinField_127 : decode cX8_joinField 127 = .ok (.aload_n 0, 1) := by decide +kernel
theorem dX8_joinField_128 : decode cX8_joinField 128 = .ok (.getfield 26, 3) := by decide +kernel
theorem dX8_joinField_131 : decode cX8_joinField 131 = .ok (.bipush 6, 2) := by decide +kernel
theorem dX8_joinField_133 : decode cX8_joinField 133 = .ok (.iload_n 3, 1) := by decide +kernel
theorem dX8_joinField_134 : decode cX8_joinField 134 = .ok (.imul, 1) := by decide +kernel
theorem dX8_joinField_135 : decode cX8_joinField 135 = .ok (.iload 4, 2) := by decide +kernel
theorem dX8_joinField_137 : decode cX8_joinField 137 = .ok (.iadd, 1) := by decide +kernel
theorem dX8_joinField_138 : decode cX8_joinField 138 = .ok (.iaload, 1) := by decide +kernel
theorem dX8_joinField_139 : decode cX8_joinField 139 = .ok (.aload_n 0, 1) := by decide +kernel
theorem dX8_joinField_140 : decode cX8_joinField 140 = .ok (.getfield 29, 3) := by decide +kernel
theorem dX8_joinField_143 : decode cX8_joinField 143 = .ok (.bipush 6, 2) := by decide +kernel
theorem dX8_joinField_145 : decode cX8_joinField 145 = .ok (.iload_n 3, 1) := by decide +kernel
theorem dX8_joinField_146 : decode cX8_joinField 146 = .ok (.imul, 1) := by decide +kernel
theorem dX8_joinField_147 : decode cX8_joinField 147 = .ok (.iload 4, 2) := by decide +kernel
theorem dX8_joinField_149 : decode cX8_joinField 149 = .ok (.iadd, 1) := by decide +kernel
theorem dX8_joinField_150 : decode cX8_joinField 150 = .ok (.iaload, 1) := by decide +kernel
theorem dX8_joinField_151 : decode cX8_joinField 151 = .ok (.invokevirtual 220, 3) := by decide +kernel
theorem dX8_joinField_154 : decode cX8_joinField 154 = .ok (.ifCond .ne 5, 3) := by decide +kernel
theorem dX8_joinField_157 : decode cX8_joinField 157 = .ok (.iconst 0, 1) := by decide +kernel
theorem dX8_joinField_158 : decode cX8_joinField 158 = .ok (.ireturn, 1) := by decide +kernel
theorem dX8_joinField_159 : decode cX8_joinField 159 = .ok (.iconst 0, 1) := by decide +kernel
theorem dX8_joinField_160 : decode cX8_joinField 160 = .ok (.istore 5, 2) := by decide +kernel
theorem dX8_joinField_162 : decode cX8_joinField 162 = .ok (.iload 5, 2) := by decide +kernel
theorem dX8_joinField_164 : decode cX8_joinField 164 = .ok (.bipush 24, 2) := by decide +kernel
theorem dX8_joinField_166 : decode cX8_joinField 166 = .ok (.if_icmp .ge 58, 3) := by decide +kernel
theorem dX8_joinField_169 : decode cX8_joinField 169 = .ok (.aload_n 0, 1) := by decide +kernel
theorem dX8_joinField_170 : decode cX8_joinField 170 = .ok (.getfield 47, 3) := by decide +kernel
theorem dX8_joinField_173 : decode cX8_joinField 173 = .ok (.iload 5, 2) := by decide +kernel
theorem dX8_joinField_175 : decode cX8_joinField 175 = .ok (.iaload, 1) := by decide +kernel
theorem dX8_joinField_176 : decode cX8_joinField 176 = .ok (.aload_n 0, 1) := by decide +kernel
theorem dX8_joinField_177 : decode cX8_joinField 177 = .ok (.getfield 196, 3) := by decide +kernel
theorem dX8_joinField_180 : decode cX8_joinField 180 = .ok (.if_icmp .ne 38, 3) := by decide +kernel
theorem dX8_joinField_183 : decode cX8_joinField 183 = .ok (.aload_n 0, 1) := by decide +kernel
theorem dX8_joinField_184 : decode cX8_joinField 184 = .ok (.getfield 96, 3) := by decide +kernel
theorem dX8_joinField_187 : decode cX8_joinField 187 = .ok (.bipush 6, 2) := by decide +kernel
theorem dX8_joinField_189 : decode cX8_joinField 189 = .ok (.iload 5, 2) := by decide +kernel
theorem dX8_joinField_191 : decode cX8_joinField 191 = .ok (.imul, 1) := by decide +kernel
theorem dX8_joinField_192 : decode cX8_joinField 192 = .ok (.aload_n 0, 1) := by decide +kernel
theorem dX8_joinField_193 : decode cX8_joinField 193 = .ok (.getfield 207, 3) := by decide +kernel
theorem dX8_joinField_196 : decode cX8_joinField 196 = .ok (.iadd, 1) := by decide +kernel
theorem dX8_joinField_197 : decode cX8_joinField 197 = .ok (.iconst 1, 1) := by decide +kernel
theorem dX8_joinField_198 : decode cX8_joinField 198 = .ok (.isub, 1) := by decide +kernel
theorem dX8_joinField_199 : decode cX8_joinField 199 = .ok (.aload_n 0, 1) := by decide +kernel
theorem dX8_joinField_200 : decode cX8_joinField 200 = .ok (.getfield 53, 3) := by decide +kernel
theorem dX8_joinField_203 : decode cX8_joinField 203 = .ok (.bipush 6, 2) := by decide +kernel
theorem dX8_joinField_205 : decode cX8_joinField 205 = .ok (.aload_n 0, 1) := by decide +kernel
theorem dX8_joinField_206 : decode cX8_joinField 206 = .ok (.getfield 115, 3) := by decide +kernel
theorem dX8_joinField_209 : decode cX8_joinField 209 = .ok (.iload 5, 2) := by decide +kernel
theorem dX8_joinField_211 : decode cX8_joinField 211 = .ok (.iaload, 1) := by decide +kernel
theorem dX8_joinField_212 : decode cX8_joinField 212 = .ok (.imul, 1) := by decide +kernel
theorem dX8_joinField_213 : decode cX8_joinField 213 = .ok (.iload 4, 2) := by decide +kernel
theorem dX8_joinField_215 : decode cX8_joinField 215 = .ok (.iadd, 1) := by decide +kernel
theorem dX8_joinField_216 : decode cX8_joinField 216 = .ok (.iaload, 1) := by decide +kernel
theorem dX8_joinField_217 : decode cX8_joinField 217 = .ok (.iastore, 1) := by decide +kernel
theorem dX8_joinField_218 : decode cX8_joinField 218 = .ok (.iinc 5 1, 3) := by decide +kernel
theorem dX8_joinField_221 : decode cX8_joinField 221 = .ok (.goto (-59), 3) := by decide +kernel
theorem dX8_joinField_224 : decode cX8_joinField 224 = .ok (.iinc 4 1, 3) := by decide +kernel
theorem dX8_joinField_227 : decode cX8_joinField 227 = .ok (.goto (-125), 3) := by decide +kernel
theorem dX8_joinField_230 : decode cX8_joinField 230 = .ok (.iconst 0, 1) := by decide +kernel
theorem dX8_joinField_231 : decode cX8_joinField 231 = .ok (.istore 4, 2) := by decide +kernel
theorem dX8_joinField_233 : decode cX8_joinField 233 = .ok (.iload 4, 2) := by decide +kernel
theorem dX8_joinField_235 : decode cX8_joinField 235 = .ok (.bipush 24, 2) := by decide +kernel
theorem dX8_joinField_237 : decode cX8_joinField 237 = .ok (.if_icmp .ge 36, 3) := by decide +kernel
theorem dX8_joinField_240 : decode cX8_joinField 240 = .ok (.aload_n 0, 1) := by decide +kernel
theorem dX8_joinField_241 : decode cX8_joinField 241 = .ok (.getfield 47, 3) := by decide +kernel
theorem dX8_joinField_244 : decode cX8_joinField 244 = .ok (.iload 4, 2) := by decide +kernel
theorem dX8_joinField_246 : decode cX8_joinField 246 = .ok (.iaload, 1) := by decide +kernel
theorem dX8_joinField_247 : decode cX8_joinField 247 = .ok (.aload_n 0, 1) := by decide +kernel
theorem dX8_joinField_248 : decode cX8_joinField 248 = .ok (.getfield 196, 3) := by decide +kernel
theorem dX8_joinField_251 : decode cX8_joinField 251 = .ok (.if_icmp .ne 16, 3) := by decide +kernel
theorem dX8_joinField_254 : decode cX8_joinField 254 = .ok (.aload_n 0, 1) := by decide +kernel
theorem dX8_joinField_255 : decode cX8_joinField 255 = .ok (.getfield 47, 3) := by decide +kernel
theorem dX8_joinField_258 : decode cX8_joinField 258 = .ok (.aload_n 0, 1) := by decide +kernel
theorem dX8_joinField_259 : decode cX8_joinField 259 = .ok (.getfield 115, 3) := by decide +kernel
theorem dX8_joinField_262 : decode cX8_joinField 262 = .ok (.iload 4, 2) := by decide +kernel
theorem dX8_joinField_264 : decode cX8_joinField 264 = .ok (.iaload, 1) := by decide +kernel
theorem dX8_joinField_265 : decode cX8_joinField 265 = .ok (.iconst (-1), 1) := by decide +kernel
theorem dX8_joinField_266 : decode cX8_joinField 266 = .ok (.iastore, 1) := by decide +kernel
theorem dX8_joinField_267 : decode cX8_joinField 267 = .ok (.iinc 4 1, 3) := by decide +kernel
theorem dX8_joinField_270 : decode cX8_joinField 270 = .ok (.goto (-37), 3) := by decide +kernel
theorem dX8_joinField_273 : decode cX8_joinField 273 = .ok (.aload_n 0, 1) := by decide +kernel
theorem dX8_joinField_274 : decode cX8_joinField 274 = .ok (.iconst 1, 1) := by decide +kernel
theorem dX8_joinField_275 : decode cX8_joinField 275 = .ok (.putfield 234, 3) := by decide +kernel
theorem dX8_joinField_278 : decode cX8_joinField 278 = .ok (.aload_n 0, 1) := by decide +kernel
theorem dX8_joinField_279 : decode cX8_joinField 279 = .ok (.dup, 1) := by decide +kernel
theorem dX8_joinField_280 : decode cX8_joinField 280 = .ok (.getfield 238, 3) := by decide +kernel
theorem dX8_joinField_283 : decode cX8_joinField 283 = .ok (.iconst 1, 1) := by decide +kernel
theorem dX8_joinField_284 : decode cX8_joinField 284 = .ok (.iload_n 3, 1) := by decide +kernel
theorem dX8_joinField_285 : decode cX8_joinField 285 = .ok (.ishl, 1) := by decide +kernel
theorem dX8_joinField_286 : decode cX8_joinField 286 = .ok (.ior, 1) := by decide +kernel
theorem dX8_joinField_287 : decode cX8_joinField 287 = .ok (.putfield 238, 3) := by decide +kernel
theorem dX8_joinField_290 : decode cX8_joinField 290 = .ok (.iconst 1, 1) := by decide +kernel
theorem dX8_joinField_291 : decode cX8_joinField 291 = .ok (.ireturn, 1) := by decide +kernel
set_option maxRecDepth 20000 in
theorem ggX8_act_X8_dropField : GoodIn wsX8_act wsX8_dropField := goodIn_r _ [6, 7, 8, 9, 10, 5, 11, 12, 13, 14, 15, 16, 17, 18, 19, 20, 21, 120, 121, 122, 123, 124, 125, 126, 127, 128, 129, 130, 131, 132, 133, 134, 135, 136, 137, 138, 139, 140, 141, 142, 143, 144, 145, 146, 147, 148, 149, 150, 151, 152, 153, 154, 155, 156, 157, 158, 159, 160, 161, 162, 163] (by decide +kernel) (by decide +kernel)
set_option maxRecDepth 20000 in
theorem gX8_act_X8_dropField : GoodIn wsX8_act (wsV RX8 244 RX8 yX8_dropField wsX8_dropField) := goodIn_app (goodIn_of _ (by decide +kernel)) ggX8_act_X8_dropField
set_option maxRecDepth 20000 in
theorem ggX8_act_X8_nameField : GoodIn wsX8_act wsX8_nameField := goodIn_r _ [25, 13, 8, 9, 10, 5, 11, 12, 120, 121, 122, 123, 124, 125, 126, 127, 128, 129, 130, 131, 132, 133, 134, 135, 136, 137, 138, 139, 140, 141, 142, 143, 144, 145, 146, 147, 148, 149, 150, 151, 152, 153, 154, 155, 156, 157, 158, 159, 160, 161, 162, 163] (by decide +kernel) (by decide +kernel)
set_option maxRecDepth 20000 in
theorem gX8_act_X8_nameField : GoodIn wsX8_act (wsV RX8 247 RX8 yX8_nameField wsX8_nameField) := goodIn_app (goodIn_of _ (by decide +kernel)) ggX8_act_X8_nameField
set_option maxRecDepth 20000 in
theorem ggX8_act_X8_numberField : GoodIn wsX8_act wsX8_numberField := goodIn_r _ [29, 30, 31, 21, 12, 32, 33, 34, 5, 35, 36, 37, 38, 39, 40, 41, 42, 43, 44, 45, 46, 47, 48, 49, 50, 51, 52, 53, 54, 55, 56, 57, 58, 59, 60, 61, 62, 63, 64, 65, 66, 67, 68, 69, 70, 71, 72, 13, 7, 18, 19, 20, 8, 9, 10, 11, 73, 74, 75, 76, 77, 120, 121, 122, 123, 124, 125, 126, 127, 128, 129, 130, 131, 132, 133, 134, 135, 136, 137, 138, 139, 140, 141, 142, 143, 144, 145, 146, 147, 148, 149, 150, 151, 152, 153, 154, 155, 156, 157, 158, 159, 160, 161, 162, 163] (by decide +kernel) (by decide +kernel)
set_option maxRecDepth 20000 in
theorem gX8_act_X8_numberField : GoodIn wsX8_act (wsV RX8 250 RX8 yX8_numberField wsX8_numberField) := goodIn_app (goodIn_of _ (by decide +kernel)) ggX8_act_X8_numberField
set_option maxRecDepth 20000 in
theorem ggX8_act_X8_rangeField : GoodIn wsX8_act wsX8_rangeField := goodIn_r _ [81, 7, 18, 19, 21, 30, 31, 8, 9, 10, 5, 11, 12, 13, 120, 121, 122, 123, 124, 125, 126, 127, 128, 129, 130, 131, 132, 133, 134, 135, 136, 137, 138, 139, 140, 141, 142, 143, 144, 145, 146, 147, 148, 149, 150, 151, 152, 153, 154, 155, 156, 157, 158, 159, 160, 161, 162, 163] (by decide +kernel) (by decide +kernel)
set_option maxRecDepth 20000 in
theorem gX8_act_X8_rangeField : GoodIn wsX8_act (wsV RX8 253 RX8 yX8_rangeField wsX8_rangeField) := goodIn_app (goodIn_of _ (by decide +kernel)) ggX8_act_X8_rangeField
set_option maxRecDepth 20000 in
theorem ggX8_act_X8_referenceField : GoodIn wsX8_act wsX8_referenceField := goodIn_r _ [85, 21, 12, 69, 70, 71, 5, 72, 13, 7, 18, 19, 20, 8, 9, 10, 11, 120, 121, 122, 123, 124, 125, 126, 127, 128, 129, 130, 131, 132, 133, 134, 135, 136, 137, 138, 139, 140, 141, 142, 143, 144, 145, 146, 147, 148, 149, 150, 151, 152, 153, 154, 155, 156, 157, 158, 159, 160, 161, 162, 163] (by decide +kernel) (by decide +kernel)
set_option maxRecDepth 20000 in
theorem gX8_act_X8_referenceField : GoodIn wsX8_act (wsV RX8 257 RX8 yX8_referenceField wsX8_referenceField) := goodIn_app (goodIn_of _ (by decide +kernel)) ggX8_act_X8_referenceField
set_option maxRecDepth 20000 in
theorem ggX8_act_X8_splitField : GoodIn wsX8_act wsX8_splitField := goodIn_r _ [89, 90, 30, 31, 91, 92, 54, 77, 21, 55, 93, 94, 12, 95, 96, 97, 5, 98, 7, 18, 46, 19, 47, 8, 9, 10, 11, 13, 99, 100, 101, 102, 45, 103, 104, 105, 106, 107, 108, 109, 110, 14, 15, 16, 17, 20, 69, 70, 71, 72, 120, 121, 122, 123, 124, 125, 126, 127, 128, 129, 130, 131, 132, 133, 134, 135, 136, 137, 138, 139, 140, 141, 142, 143, 144, 145, 146, 147, 148, 149, 150, 151, 152, 153, 154, 155, 156, 157, 158, 159, 160, 161, 162, 163] (by decide +kernel) (by decide +kernel)
set_option maxRecDepth 20000 in
theorem gX8_act_X8_splitField : GoodIn wsX8_act (wsV RX8 260 RX8 yX8_splitField wsX8_splitField) := goodIn_app (goodIn_of _ (by decide +kernel)) ggX8_act_X8_splitField
set_option maxRecDepth 20000 in
theorem ggX8_act_X8_joinField : GoodIn wsX8_act wsX8_joinField := goodIn_r _ [114, 7, 20, 18, 90, 21, 54, 55, 46, 47, 30, 31, 12, 77, 93, 94, 8, 9, 10, 5, 11, 13, 99, 100, 101, 102, 45, 115, 116, 117, 118, 119, 14, 15, 16, 17, 19, 69, 70, 71, 72, 120, 121, 122, 123, 124, 125, 126, 127, 128, 129, 130, 131, 132, 133, 134, 135, 136, 137, 138, 139, 140, 141, 142, 143, 144, 145, 146, 147, 148, 149, 150, 151, 152, 153, 154, 155, 156, 157, 158, 159, 160, 161, 162, 163] (by decide +kernel) (by decide +kernel)
set_option maxRecDepth 20000 in
theorem gX8_act_X8_joinField : GoodIn wsX8_act (wsV RX8 263 RX8 yX8_joinField wsX8_joinField) := goodIn_app (goodIn_of _ (by decide +kernel)) ggX8_act_X8_joinField
theorem dX8_act_0 : decode cX8_act 0 = .ok (.aload_n 0, 1) := by decide +kernel
theorem dX8_act_1 : decode cX8_act 1 = .ok (.getfield 68, 3) := by decide +kernel
theorem dX8_act_4 : decode cX8_act 4 = .ok (.iconst 5, 1) := by decide +kernel
theorem dX8_act_5 : decode cX8_act 5 = .ok (.iload_n 1, 1) := by decide +kernel
theorem dX8_act_6 : decode cX8_act 6 = .ok (.imul, 1) := by decide +kernel
theorem dX8_act_7 : decode cX8_act 7 = .ok (.iconst 1, 1) := by decide +kernel
theorem dX8_act_8 : decode cX8_act 8 = .ok (.iadd, 1) := by decide +kernel
theorem dX8_act_9 : decode cX8_act 9 = .ok (.iaload, 1) := by decide +kernel
theorem dX8_act_10 : decode cX8_act 10 = .ok (.istore_n 2, 1) := by decide +kernel
theorem dX8_act_11 : decode cX8_act 11 = .ok (.aload_n 0, 1) := by decide +kernel
theorem dX8_act_12 : decode cX8_act 12 = .ok (.getfield 68, 3) := by decide +kernel
theorem dX8_act_15 : decode cX8_act 15 = .ok (.iconst 5, 1) := by decide +kernel
theorem dX8_act_16 : decode cX8_act 16 = .ok (.iload_n 1, 1) := by decide +kernel
theorem dX8_act_17 : decode cX8_act 17 = .ok (.imul, 1) := by decide +kernel
theorem dX8_act_18 : decode cX8_act 18 = .ok (.iconst 2, 1) := by decide +kernel
theorem dX8_act_19 : decode cX8_act 19 = .ok (.iadd, 1) := by decide +kernel
theorem dX8_act_20 : decode cX8_act 20 = .ok (.iaload, 1) := by decide +kernel
theorem dX8_act_21 : decode cX8_act 21 = .ok (.istore_n 3, 1) := by decide +kernel
theorem dX8_act_22 : decode cX8_act 22 = .ok (.aload_n 0, 1) := by decide +kernel
theorem dX8_act_23 : decode cX8_act 23 = .ok (.getfield 68, 3) := by decide +kernel
theorem dX8_act_26 : decode cX8_act 26 = .ok (.iconst 5, 1) := by decide +kernel
theorem dX8_act_27 : decode cX8_act 27 = .ok (.iload_n 1, 1) := by decide +kernel
theorem dX8_act_28 : decode cX8_act 28 = .ok (.imul, 1) := by decide +kernel
theorem dX8_act_29 : decode cX8_act 29 = .ok (.iconst 3, 1) := by decide +kernel
theorem dX8_act_30 : decode cX8_act 30 = .ok (.iadd, 1) := by decide +kernel
theorem dX8_act_31 : decode cX8_act 31 = .ok (.iaload, 1) := by decide +kernel
theorem dX8_act_32 : decode cX8_act 32 = .ok (.istore 4, 2) := by decide +kernel
theorem dX8_act_34 : decode cX8_act 34 = .ok (.aload_n 0, 1) := by decide +kernel
theorem dX8_act_35 : decode cX8_act 35 = .ok (.getfield 68, 3) := by decide +kernel
theorem dX8_act_38 : decode cX8_act 38 = .ok (.iconst 5, 1) := by decide +kernel
theorem dX8_act_39 : decode cX8_act 39 = .ok (.iload_n 1, 1) := by decide +kernel
theorem dX8_act_40 : decode cX8_act 40 = .ok (.imul, 1) := by decide +kernel
theorem dX8_act_41 : decode cX8_act 41 = .ok (.iaload, 1) := by decide +kernel
theorem dX8_act_42 : decode cX8_act 42 = .ok (.tableswitch 105 0 5 #[38, 44, 51, 61, 89, 96], 38) := by decide +kernel
theorem dX8_act_80 : decode cX8_act 80 = .ok (.aload_n 0, 1) := by decide +kernel
theorem dX8_act_81 : decode cX8_act 81 = .ok (.iload_n 2, 1) := by decide +kernel
theorem dX8_act_82 : decode cX8_act 82 = .ok (.invokevirtual 244, 3) := by decide +kernel
theorem dX8_act_85 : decode cX8_act 85 = .ok (.ireturn, 1) := by decide +kernel
theorem dX8_act_86 : decode cX8_act 86 = .ok (.aload_n 0, 1) := by decide +kernel
theorem dX8_act_87 : decode cX8_act 87 = .ok (.iload_n 2, 1) := by decide +kernel
theorem dX8_act_88 : decode cX8_act 88 = .ok (.iload_n 3, 1) := by decide +kernel
theorem dX8_act_89 : decode cX8_act 89 = .ok (.invokevirtual 247, 3) := by decide +kernel
theorem dX8_act_92 : decode cX8_act 92 = .ok (.ireturn, 1) := by decide +kernel
theorem dX8_act_93 : decode cX8_act 93 = .ok (.aload_n 0, 1) := by decide +kernel
theorem dX8_act_94 : decode cX8_act 94 = .ok (.iload_n 1, 1) := by decide +kernel
theorem dX8_act_95 : decode cX8_act 95 = .ok (.iload_n 2, 1) := by decide +kernel
theorem dX8_act_96 : decode cX8_act 96 = .ok (.iload_n 3, 1) := by decide +kernel
theorem dX8_act_97 : decode cX8_act 97 = .ok (.iload 4, 2) := by decide +kernel
theorem dX8_act_99 : decode cX8_act 99 = .ok (.invokevirtual 250, 3) := by decide +kernel
theorem dX8_act_102 : decode cX8_act 102 = .ok (.ireturn, 1) := by decide +kernel
theorem dX8_act_103 : decode cX8_act 103 = .ok (.aload_n 0, 1) := by decide +kernel
theorem dX8_act_104 : decode cX8_act 104 = .ok (.iload_n 2, 1) := by decide +kernel
theorem dX8_act_105 : decode cX8_act 105 = .ok (.iload_n 3, 1) := by decide +kernel
theorem dX8_act_106 : decode cX8_act 106 = .ok (.iload 4, 2) := by decide +kernel
theorem dX8_act_108 : decode cX8_act 108 = .ok (.aload_n 0, 1) := by decide +kernel
theorem dX8_act_109 : decode cX8_act 109 = .ok (.getfield 68, 3) := by decide +kernel
theorem dX8_act_112 : decode cX8_act 112 = .ok (.iconst 5, 1) := by decide +kernel
theorem dX8_act_113 : decode cX8_act 113 = .ok (.iload_n 1, 1) := by decide +kernel
theorem dX8_act_114 : decode cX8_act 114 = .ok (.imul, 1) := by decide +kernel
theorem dX8_act_115 : decode cX8_act 115 = .ok (.iconst 4, 1) := by decide +kernel
theorem dX8_act_116 : decode cX8_act 116 = .ok (.iadd, 1) := by decide +kernel
theorem dX8_act_117 : decode cX8_act 117 = .ok (.iaload, 1) := by decide +kernel
theorem dX8_act_118 : decode cX8_act 118 = .ok (.iconst 1, 1) := by decide +kernel
theorem dX8_act_119 : decode cX8_act 119 = .ok (.if_icmp .ne 7, 3) := by decide +kernel
theorem dX8_act_122 : decode cX8_act 122 = .ok (.iconst 1, 1) := by decide +kernel
theorem dX8_act_123 : decode cX8_act 123 = .ok (.goto 4, 3) := by decide +kernel
theorem dX8_act_126 : decode cX8_act 126 = .ok (.iconst 0, 1) := by decide +kernel
theorem dX8_act_127 : decode cX8_act 127 = .ok (.invokevirtual 253, 3) := by decide +kernel
theorem dX8_act_130 : decode cX8_act 130 = .ok (.ireturn, 1) := by decide +kernel
theorem dX8_act_131 : decode cX8_act 131 = .ok (.aload_n 0, 1) := by decide +kernel
theorem dX8_act_132 : decode cX8_act 132 = .ok (.iload_n 2, 1) := by decide +kernel
theorem dX8_act_133 : decode cX8_act 133 = .ok (.iload_n 3, 1) := by decide +kernel
theorem dX8_act_134 : decode cX8_act 134 = .ok (.invokevirtual 257, 3) := by decide +kernel
theorem dX8_act_137 : decode cX8_act 137 = .ok (.ireturn, 1) := by decide +kernel
theorem dX8_act_138 : decode cX8_act 138 = .ok (.aload_n 0, 1) := by decide +kernel
theorem dX8_act_139 : decode cX8_act 139 = .ok (.iload_n 2, 1) := by decide +kernel
theorem dX8_act_140 : decode cX8_act 140 = .ok (.iload_n 3, 1) := by decide +kernel
theorem dX8_act_141 : decode cX8_act 141 = .ok (.iload 4, 2) := by decide +kernel
theorem dX8_act_143 : decode cX8_act 143 = .ok (.invokevirtual 260, 3) := by decide +kernel
theorem dX8_act_146 : decode cX8_act 146 = .ok (.ireturn, 1) := by decide +kernel
theorem dX8_act_147 : decode cX8_act 147 = .ok (.aload_n 0, 1) := by decide +kernel
theorem dX8_act_148 : decode cX8_act 148 = .ok (.iload_n 2, 1) := by decide +kernel
theorem dX8_act_149 : decode cX8_act 149 = .ok (.invokevirtual 263, 3) := by decide +kernel
theorem dX8_act_152 : decode cX8_act 152 = .ok (.ireturn, 1) := by decide +kernel
theorem dX8_begin_0 : decode cX8_begin 0 = .ok (.aload_n 0, 1) := by decide +kernel
theorem dX8_begin_1 : decode cX8_begin 1 = .ok (.iload_n 1, 1) := by decide +kernel
theorem dX8_begin_2 : decode cX8_begin 2 = .ok (.putfield 196, 3) := by decide +kernel
theorem dX8_begin_5 : decode cX8_begin 5 = .ok (.aload_n 0, 1) := by decide +kernel
theorem dX8_begin_6 : decode cX8_begin 6 = .ok (.aload_n 0, 1) := by decide +kernel
theorem dX8_begin_7 : decode cX8_begin 7 = .ok (.getfield 17, 3) := by decide +kernel
theorem dX8_begin_10 : decode cX8_begin 10 = .ok (.iload_n 1, 1) := by decide +kernel
theorem dX8_begin_11 : decode cX8_begin 11 = .ok (.iaload, 1) := by decide +kernel
theorem dX8_begin_12 : decode cX8_begin 12 = .ok (.putfield 207, 3) := by decide +kernel
theorem dX8_begin_15 : decode cX8_begin 15 = .ok (.aload_n 0, 1) := by decide +kernel
theorem dX8_begin_16 : decode cX8_begin 16 = .ok (.iconst 0, 1) := by decide +kernel
theorem dX8_begin_17 : decode cX8_begin 17 = .ok (.putfield 234, 3) := by decide +kernel
theorem dX8_begin_20 : decode cX8_begin 20 = .ok (.aload_n 0, 1) := by decide +kernel
theorem dX8_begin_21 : decode cX8_begin 21 = .ok (.iconst 0, 1) := by decide +kernel
theorem dX8_begin_22 : decode cX8_begin 22 = .ok (.putfield 238, 3) := by decide +kernel
theorem dX8_begin_25 : decode cX8_begin 25 = .ok (.iconst 0, 1) := by decide +kernel
theorem dX8_begin_26 : decode cX8_begin 26 = .ok (.istore_n 2, 1) := by decide +kernel
theorem dX8_begin_27 : decode cX8_begin 27 = .ok (.iload_n 2, 1) := by decide +kernel
theorem dX8_begin_28 : decode cX8_begin 28 = .ok (.aload_n 0, 1) := by decide +kernel
theorem dX8_begin_29 : decode cX8_begin 29 = .ok (.getfield 207, 3) := by decide +kernel
theorem dX8_begin_32 : decode cX8_begin 32 = .ok (.if_icmp .ge 84, 3) := by decide +kernel
theorem dX8_begin_35 : decode cX8_begin 35 = .ok (.aload_n 0, 1) := by decide +kernel
theorem dX8_begin_36 : decode cX8_begin 36 = .ok (.getfield 81, 3) := by decide +kernel
theorem dX8_begin_39 : decode cX8_begin 39 = .ok (.iload_n 2, 1) := by decide +kernel
theorem dX8_begin_40 : decode cX8_begin 40 = .ok (.aload_n 0, 1) := by decide +kernel
theorem dX8_begin_41 : decode cX8_begin 41 = .ok (.getfield 20, 3) := by decide +kernel
theorem dX8_begin_44 : decode cX8_begin 44 = .ok (.bipush 6, 2) := by decide +kernel
theorem dX8_begin_46 : decode cX8_begin 46 = .ok (.iload_n 1, 1) := by decide +kernel
theorem dX8_begin_47 : decode cX8_begin 47 = .ok (.imul, 1) := by decide +kernel
theorem dX8_begin_48 : decode cX8_begin 48 = .ok (.iload_n 2, 1) := by decide +kernel
theorem dX8_begin_49 : decode cX8_begin 49 = .ok (.iadd, 1) := by decide +kernel
theorem dX8_begin_50 : decode cX8_begin 50 = .ok (.iaload, 1) := by decide +kernel
theorem dX8_begin_51 : decode cX8_begin 51 = .ok (.iastore, 1) := by decide +kernel
theorem dX8_begin_52 : decode cX8_begin 52 = .ok (.aload_n 0, 1) := by decide +kernel
theorem dX8_begin_53 : decode cX8_begin 53 = .ok (.getfield 84, 3) := by decide +kernel
theorem dX8_begin_56 : decode cX8_begin 56 = .ok (.iload_n 2, 1) := by decide +kernel
theorem dX8_begin_57 : decode cX8_begin 57 = .ok (.aload_n 0, 1) := by decide +kernel
theorem dX8_begin_58 : decode cX8_begin 58 = .ok (.getfield 23, 3) := by decide +kernel
theorem dX8_begin_61 : decode cX8_begin 61 = .ok (.bipush 6, 2) := by decide +kernel
theorem dX8_begin_63 : decode cX8_begin 63 = .ok (.iload_n 1, 1) := by decide +kernel
theorem dX8_begin_64 : decode cX8_begin 64 = .ok (.imul, 1) := by decide +kernel
theorem dX8_begin_65 : decode cX8_begin 65 = .ok (.iload_n 2, 1) := by decide +kernel
theorem dX8_begin_66 : decode cX8_begin 66 = .ok (.iadd, 1) := by decide +kernel
theorem dX8_begin_67 : decode cX8_begin 67 = .ok (.iaload, 1) := by decide +kernel
theorem dX8_begin_68 : decode cX8_begin 68 = .ok (.iastore, 1) := by decide +kernel
theorem dX8_begin_69 : decode cX8_begin 69 = .ok (.aload_n 0, 1) := by decide +kernel
theorem dX8_begin_70 : decode cX8_begin 70 = .ok (.getfield 87, 3) := by decide +kernel
theorem dX8_begin_73 : decode cX8_begin 73 = .ok (.iload_n 2, 1) := by decide +kernel
theorem dX8_begin_74 : decode cX8_begin 74 = .ok (.aload_n 0, 1) := by decide +kernel
theorem dX8_begin_75 : decode cX8_begin 75 = .ok (.getfield 26, 3) := by decide +kernel
theorem dX8_begin_78 : decode cX8_begin 78 = .ok (.bipush 6, 2) := by decide +kernel
theorem dX8_begin_80 : decode cX8_begin 80 = .ok (.iload_n 1, 1) := by decide +kernel
theorem dX8_begin_81 : decode cX8_begin 81 = .ok (.imul, 1) := by decide +kernel
theorem dX8_begin_82 : decode cX8_begin 82 = .ok (.iload_n 2, 1) := by decide +kernel
theorem dX8_begin_83 : decode cX8_begin 83 = .ok (.iadd, 1) := by decide +kernel
theorem dX8_begin_84 : decode cX8_begin 84 = .ok (.iaload, 1) := by decide +kernel
theorem dX8_begin_85 : decode cX8_begin 85 = .ok (.iastore, 1) := by decide +kernel
theorem dX8_begin_86 : decode cX8_begin 86 = .ok (.aload_n 0, 1) := by decide +kernel
theorem dX8_begin_87 : decode cX8_begin 87 = .ok (.getfield 90, 3) := by decide +kernel
theorem dX8_begin_90 : decode cX8_begin 90 = .ok (.iload_n 2, 1) := by decide +kernel
theorem dX8_begin_91 : decode cX8_begin 91 = .ok (.aload_n 0, 1) := by decide +kernel
theorem dX8_begin_92 : decode cX8_begin 92 = .ok (.getfield 29, 3) := by decide +kernel
theorem dX8_begin_95 : decode cX8_begin 95 = .ok (.bipush 6, 2) := by decide +kernel
theorem dX8_begin_97 : decode cX8_begin 97 = .ok (.iload_n 1, 1) := by decide +kernel
theorem dX8_begin_98 : decode cX8_begin 98 = .ok (.imul, 1) := by decide +kernel
theorem dX8_begin_99 : decode cX8_begin 99 = .ok (.iload_n 2, 1) := by decide +kernel
theorem dX8_begin_100 : decode cX8_begin 100 = .ok (.iadd, 1) := by decide +kernel
theorem dX8_begin_101 : decode cX8_begin 101 = .ok (.iaload, 1) := by decide +kernel
theorem dX8_begin_102 : decode cX8_begin 102 = .ok (.iastore, 1) := by decide +kernel
theorem dX8_begin_103 : decode cX8_begin 103 = .ok (.aload_n 0, 1) := by decide +kernel
theorem dX8_begin_104 : decode cX8_begin 104 = .ok (.getfield 93, 3) := by decide +kernel
theorem dX8_begin_107 : decode cX8_begin 107 = .ok (.iload_n 2, 1) := by decide +kernel
theorem dX8_begin_108 : decode cX8_begin 108 = .ok (.iload_n 2, 1) := by decide +kernel
theorem dX8_begin_109 : decode cX8_begin 109 = .ok (.iastore, 1) := by decide +kernel
theorem dX8_begin_110 : decode cX8_begin 110 = .ok (.iinc 2 1, 3) := by decide +kernel
theorem dX8_begin_113 : decode cX8_begin 113 = .ok (.goto (-86), 3) := by decide +kernel
theorem dX8_begin_116 : decode cX8_begin 116 = .ok (.iconst 0, 1) := by decide +kernel
theorem dX8_begin_117 : decode cX8_begin 117 = .ok (.istore_n 2, 1) := by decide +kernel
theorem dX8_begin_118 : decode cX8_begin 118 = .ok (.iload_n 2, 1) := by decide +kernel
theorem dX8_begin_119 : decode cX8_begin 119 = .ok (.sipush 144, 3) := by decide +kernel
theorem dX8_begin_122 : decode cX8_begin 122 = .ok (.if_icmp .ge 33, 3) := by decide +kernel
theorem dX8_begin_125 : decode cX8_begin 125 = .ok (.aload_n 0, 1) := by decide +kernel
theorem dX8_begin_126 : decode cX8_begin 126 = .ok (.getfield 96, 3) := by decide +kernel
theorem dX8_begin_129 : decode cX8_begin 129 = .ok (.iload_n 2, 1) := by decide +kernel
theorem dX8_begin_130 : decode cX8_begin 130 = .ok (.aload_n 0, 1) := by decide +kernel
theorem dX8_begin_131 : decode cX8_begin 131 = .ok (.getfield 53, 3) := by decide +kernel
theorem dX8_begin_134 : decode cX8_begin 134 = .ok (.iload_n 2, 1) := by decide +kernel
theorem dX8_begin_135 : decode cX8_begin 135 = .ok (.iaload, 1) := by decide +kernel
theorem dX8_begin_136 : decode cX8_begin 136 = .ok (.iastore, 1) := by decide +kernel
theorem dX8_begin_137 : decode cX8_begin 137 = .ok (.aload_n 0, 1) := by decide +kernel
theorem dX8_begin_138 : decode cX8_begin 138 = .ok (.getfield 105, 3) := by decide +kernel
theorem dX8_begin_141 : decode cX8_begin 141 = .ok (.iload_n 2, 1) := by decide +kernel
theorem dX8_begin_142 : decode cX8_begin 142 = .ok (.aload_n 0, 1) := by decide +kernel
theorem dX8_begin_143 : decode cX8_begin 143 = .ok (.getfield 53, 3) := by decide +kernel
theorem dX8_begin_146 : decode cX8_begin 146 = .ok (.iload_n 2, 1) := by decide +kernel
theorem dX8_begin_147 : decode cX8_begin 147 = .ok (.iaload, 1) := by decide +kernel
theorem dX8_begin_148 : decode cX8_begin 148 = .ok (.iastore, 1) := by decide +kernel
theorem dX8_begin_149 : decode cX8_begin 149 = .ok (.iinc 2 1, 3) := by decide +kernel
theorem dX8_begin_152 : decode cX8_begin 152 = .ok (.goto (-34), 3) := by decide +kernel
theorem dX8_begin_155 : decode cX8_begin 155 = .ok (.iconst 0, 1) := by decide +kernel
theorem dX8_begin_156 : decode cX8_begin 156 = .ok (.istore_n 2, 1) := by decide +kernel
theorem dX8_begin_157 : decode cX8_begin 157 = .ok (.iload_n 2, 1) := by decide +kernel
theorem dX8_begin_158 : decode cX8_begin 158 = .ok (.bipush 24, 2) := by decide +kernel
theorem dX8_begin_160 : decode cX8_begin 160 = .ok (.if_icmp .ge 33, 3) := by decide +kernel
theorem dX8_begin_163 : decode cX8_begin 163 = .ok (.aload_n 0, 1) := by decide +kernel
theorem dX8_begin_164 : decode cX8_begin 164 = .ok (.getfield 99, 3) := by decide +kernel
theorem dX8_begin_167 : decode cX8_begin 167 = .ok (.iload_n 2, 1) := by decide +kernel
theorem dX8_begin_168 : decode cX8_begin 168 = .ok (.aload_n 0, 1) := by decide +kernel
theorem dX8_begin_169 : decode cX8_begin 169 = .ok (.getfield 47, 3) := by decide +kernel
theorem dX8_begin_172 : decode cX8_begin 172 = .ok (.iload_n 2, 1) := by decide +kernel
theorem dX8_begin_173 : decode cX8_begin 173 = .ok (.iaload, 1) := by decide +kernel
theorem dX8_begin_174 : decode cX8_begin 174 = .ok (.iastore, 1) := by decide +kernel
theorem dX8_begin_175 : decode cX8_begin 175 = .ok (.aload_n 0, 1) := by decide +kernel
theorem dX8_begin_176 : decode cX8_begin 176 = .ok (.getfield 102, 3) := by decide +kernel
theorem dX8_begin_179 : decode cX8_begin 179 = .ok (.iload_n 2, 1) := by decide +kernel
theorem dX8_begin_180 : decode cX8_begin 180 = .ok (.aload_n 0, 1) := by decide +kernel
theorem dX8_begin_181 : decode cX8_begin 181 = .ok (.getfield 50, 3) := by decide +kernel
theorem dX8_begin_184 : decode cX8_begin 184 = .ok (.iload_n 2, 1) := by decide +kernel
theorem dX8_begin_185 : decode cX8_begin 185 = .ok (.iaload, 1) := by decide +kernel
theorem dX8_begin_186 : decode cX8_begin 186 = .ok (.iastore, 1) := by decide +kernel
theorem dX8_begin_187 : decode cX8_begin 187 = .ok (.iinc 2 1, 3) := by decide +kernel
theorem dX8_begin_190 : decode cX8_begin 190 = .ok (.goto (-33), 3) := by decide +kernel
theorem dX8_begin_193 : decode cX8_begin 193 = .ok (.return_, 1) := by decide +kernel
theorem dX8_restore_0 : decode cX8_restore 0 = .ok (.iconst 0, 1) := by decide +kernel
theorem dX8_restore_1 : decode cX8_restore 1 = .ok (.istore_n 1, 1) := by decide +kernel
theorem dX8_restore_2 : decode cX8_restore 2 = .ok (.iload_n 1, 1) := by decide +kernel
theorem dX8_restore_3 : decode cX8_restore 3 = .ok (.sipush 144, 3) := by decide +kernel
theorem dX8_restore_6 : decode cX8_restore 6 = .ok (.if_icmp .ge 21, 3) := by decide +kernel
theorem dX8_restore_9 : decode cX8_restore 9 = .ok (.aload_n 0, 1) := by decide +kernel
theorem dX8_restore_10 : decode cX8_restore 10 = .ok (.getfield 53, 3) := by decide +kernel
theorem dX8_restore_13 : decode cX8_restore 13 = .ok (.iload_n 1, 1) := by decide +kernel
theorem dX8_restore_14 : decode cX8_restore 14 = .ok (.aload_n 0, 1) := by decide +kernel
theorem dX8_restore_15 : decode cX8_restore 15 = .ok (.getfield 105, 3) := by decide +kernel
theorem dX8_restore_18 : decode cX8_restore 18 = .ok (.iload_n 1, 1) := by decide +kernel
theorem dX8_restore_19 : decode cX8_restore 19 = .ok (.iaload, 1) := by decide +kernel
theorem dX8_restore_20 : decode cX8_restore 20 = .ok (.iastore, 1) := by decide +kernel
theorem dX8_restore_21 : decode cX8_restore 21 = .ok (.iinc 1 1, 3) := by decide +kernel
theorem dX8_restore_24 : decode cX8_restore 24 = .ok (.goto (-22), 3) := by decide +kernel
theorem dX8_restore_27 : decode cX8_restore 27 = .ok (.iconst 0, 1) := by decide +kernel
theorem dX8_restore_28 : decode cX8_restore 28 = .ok (.istore_n 1, 1) := by decide +kernel
theorem dX8_restore_29 : decode cX8_restore 29 = .ok (.iload_n 1, 1) := by decide +kernel
theorem dX8_restore_30 : decode cX8_restore 30 = .ok (.bipush 24, 2) := by decide +kernel
theorem dX8_restore_32 : decode cX8_restore 32 = .ok (.if_icmp .ge 33, 3) := by decide +kernel
theorem dX8_restore_35 : decode cX8_restore 35 = .ok (.aload_n 0, 1) := by decide +kernel
theorem dX8_restore_36 : decode cX8_restore 36 = .ok (.getfield 47, 3) := by decide +kernel
theorem dX8_restore_39 : decode cX8_restore 39 = .ok (.iload_n 1, 1) := by decide +kernel
theorem dX8_restore_40 : decode cX8_restore 40 = .ok (.aload_n 0, 1) := by decide +kernel
theorem dX8_restore_41 : decode cX8_restore 41 = .ok (.getfield 99, 3) := by decide +kernel
theorem dX8_restore_44 : decode cX8_restore 44 = .ok (.iload_n 1, 1) := by decide +kernel
theorem dX8_restore_45 : decode cX8_restore 45 = .ok (.iaload, 1) := by decide +kernel
theorem dX8_restore_46 : decode cX8_restore 46 = .ok (.iastore, 1) := by decide +kernel
theorem dX8_restore_47 : decode cX8_restore 47 = .ok (.aload_n 0, 1) := by decide +kernel
theorem dX8_restore_48 : decode cX8_restore 48 = .ok (.getfield 50, 3) := by decide +kernel
theorem dX8_restore_51 : decode cX8_restore 51 = .ok (.iload_n 1, 1) := by decide +kernel
theorem dX8_restore_52 : decode cX8_restore 52 = .ok (.aload_n 0, 1) := by decide +kernel
theorem dX8_restore_53 : decode cX8_restore 53 = .ok (.getfield 102, 3) := by decide +kernel
theorem dX8_restore_56 : decode cX8_restore 56 = .ok (.iload_n 1, 1) := by decide +kernel
theorem dX8_restore_57 : decode cX8_restore 57 = .ok (.iaload, 1) := by decide +kernel
theorem dX8_restore_58 : decode cX8_restore 58 = .ok (.iastore, 1) := by decide +kernel
theorem dX8_restore_59 : decode cX8_restore 59 = .ok (.iinc 1 1, 3) := by decide +kernel
theorem dX8_restore_62 : decode cX8_restore 62 = .ok (.goto (-33), 3) := by decide +kernel
theorem dX8_restore_65 : decode cX8_restore 65 = .ok (.return_, 1) := by decide +kernel
theorem dX8_settle_0 : decode cX8_settle 0 = .ok (.iconst 0, 1) := by decide +kernel
theorem dX8_settle_1 : decode cX8_settle 1 = .ok (.istore_n 2, 1) := by decide +kernel
theorem dX8_settle_2 : decode cX8_settle 2 = .ok (.iload_n 2, 1) := by decide +kernel
theorem dX8_settle_3 : decode cX8_settle 3 = .ok (.bipush 6, 2) := by decide +kernel
theorem dX8_settle_5 : decode cX8_settle 5 = .ok (.if_icmp .ge 165, 3) := by decide +kernel
theorem dX8_settle_8 : decode cX8_settle 8 = .ok (.aload_n 0, 1) := by decide +kernel
theorem dX8_settle_9 : decode cX8_settle 9 = .ok (.getfield 35, 3) := by decide +kernel
theorem dX8_settle_12 : decode cX8_settle 12 = .ok (.bipush 6, 2) := by decide +kernel
theorem dX8_settle_14 : decode cX8_settle 14 = .ok (.iload_n 1, 1) := by decide +kernel
theorem dX8_settle_15 : decode cX8_settle 15 = .ok (.imul, 1) := by decide +kernel
theorem dX8_settle_16 : decode cX8_settle 16 = .ok (.iload_n 2, 1) := by decide +kernel
theorem dX8_settle_17 : decode cX8_settle 17 = .ok (.iadd, 1) := by decide +kernel
theorem dX8_settle_18 : decode cX8_settle 18 = .ok (.aload_n 0, 1) := by decide +kernel
theorem dX8_settle_19 : decode cX8_settle 19 = .ok (.getfield 20, 3) := by decide +kernel
theorem dX8_settle_22 : decode cX8_settle 22 = .ok (.bipush 6, 2) := by decide +kernel
theorem dX8_settle_24 : decode cX8_settle 24 = .ok (.iload_n 1, 1) := by decide +kernel
theorem dX8_settle_25 : decode cX8_settle 25 = .ok (.imul, 1) := by decide +kernel
theorem dX8_settle_26 : decode cX8_settle 26 = .ok (.iload_n 2, 1) := by decide +kernel
theorem dX8_settle_27 : decode cX8_settle 27 = .ok (.iadd, 1) := by decide +kernel
theorem dX8_settle_28 : decode cX8_settle 28 = .ok (.iaload, 1) := by decide +kernel
theorem dX8_settle_29 : decode cX8_settle 29 = .ok (.iastore, 1) := by decide +kernel
theorem dX8_settle_30 : decode cX8_settle 30 = .ok (.aload_n 0, 1) := by decide +kernel
theorem dX8_settle_31 : decode cX8_settle 31 = .ok (.getfield 38, 3) := by decide +kernel
theorem dX8_settle_34 : decode cX8_settle 34 = .ok (.bipush 6, 2) := by decide +kernel
theorem dX8_settle_36 : decode cX8_settle 36 = .ok (.iload_n 1, 1) := by decide +kernel
theorem dX8_settle_37 : decode cX8_settle 37 = .ok (.imul, 1) := by decide +kernel
theorem dX8_settle_38 : decode cX8_settle 38 = .ok (.iload_n 2, 1) := by decide +kernel
theorem dX8_settle_39 : decode cX8_settle 39 = .ok (.iadd, 1) := by decide +kernel
theorem dX8_settle_40 : decode cX8_settle 40 = .ok (.aload_n 0, 1) := by decide +kernel
theorem dX8_settle_41 : decode cX8_settle 41 = .ok (.getfield 23, 3) := by decide +kernel
theorem dX8_settle_44 : decode cX8_settle 44 = .ok (.bipush 6, 2) := by decide +kernel
theorem dX8_settle_46 : decode cX8_settle 46 = .ok (.iload_n 1, 1) := by decide +kernel
theorem dX8_settle_47 : decode cX8_settle 47 = .ok (.imul, 1) := by decide +kernel
theorem dX8_settle_48 : decode cX8_settle 48 = .ok (.iload_n 2, 1) := by decide +kernel
theorem dX8_settle_49 : decode cX8_settle 49 = .ok (.iadd, 1) := by decide +kernel
theorem dX8_settle_50 : decode cX8_settle 50 = .ok (.iaload, 1) := by decide +kernel
theorem dX8_settle_51 : decode cX8_settle 51 = .ok (.iastore, 1) := by decide +kernel
theorem dX8_settle_52 : decode cX8_settle 52 = .ok (.aload_n 0, 1) := by decide +kernel
theorem dX8_settle_53 : decode cX8_settle 53 = .ok (.getfield 41, 3) := by decide +kernel
theorem dX8_settle_56 : decode cX8_settle 56 = .ok (.bipush 6, 2) := by decide +kernel
theorem dX8_settle_58 : decode cX8_settle 58 = .ok (.iload_n 1, 1) := by decide +kernel
theorem dX8_settle_59 : decode cX8_settle 59 = .ok (.imul, 1) := by decide +kernel
theorem dX8_settle_60 : decode cX8_settle 60 = .ok (.iload_n 2, 1) := by decide +kernel
theorem dX8_settle_61 : decode cX8_settle 61 = .ok (.iadd, 1) := by decide +kernel
theorem dX8_settle_62 : decode cX8_settle 62 = .ok (.aload_n 0, 1) := by decide +kernel
theorem dX8_settle_63 : decode cX8_settle 63 = .ok (.getfield 26, 3) := by decide +kernel
theorem dX8_settle_66 : decode cX8_settle 66 = .ok (.bipush 6, 2) := by decide +kernel
theorem dX8_settle_68 : decode cX8_settle 68 = .ok (.iload_n 1, 1) := by decide +kernel
theorem dX8_settle_69 : decode cX8_settle 69 = .ok (.imul, 1) := by decide +kernel
theorem dX8_settle_70 : decode cX8_settle 70 = .ok (.iload_n 2, 1) := by decide +kernel
theorem dX8_settle_71 : decode cX8_settle 71 = .ok (.iadd, 1) := by decide +kernel
theorem dX8_settle_72 : decode cX8_settle 72 = .ok (.iaload, 1) := by decide +kernel
theorem dX8_settle_73 : decode cX8_settle 73 = .ok (.iastore, 1) := by decide +kernel
theorem dX8_settle_74 : decode cX8_settle 74 = .ok (.aload_n 0, 1) := by decide +kernel
theorem dX8_settle_75 : decode cX8_settle 75 = .ok (.getfield 44, 3) := by decide +kernel
theorem dX8_settle_78 : decode cX8_settle 78 = .ok (.bipush 6, 2) := by decide +kernel
theorem dX8_settle_80 : decode cX8_settle 80 = .ok (.iload_n 1, 1) := by decide +kernel
theorem dX8_settle_81 : decode cX8_settle 81 = .ok (.imul, 1) := by decide +kernel
theorem dX8_settle_82 : decode cX8_settle 82 = .ok (.iload_n 2, 1) := by decide +kernel
theorem dX8_settle_83 : decode cX8_settle 83 = .ok (.iadd, 1) := by decide +kernel
theorem dX8_settle_84 : decode cX8_settle 84 = .ok (.aload_n 0, 1) := by decide +kernel
theorem dX8_settle_85 : decode cX8_settle 85 = .ok (.getfield 29, 3) := by decide +kernel
theorem dX8_settle_88 : decode cX8_settle 88 = .ok (.bipush 6, 2) := by decide +kernel
theorem dX8_settle_90 : decode cX8_settle 90 = .ok (.iload_n 1, 1) := by decide +kernel
theorem dX8_settle_91 : decode cX8_settle 91 = .ok (.imul, 1) := by decide +kernel
theorem dX8_settle_92 : decode cX8_settle 92 = .ok (.iload_n 2, 1) := by decide +kernel
theorem dX8_settle_93 : decode cX8_settle 93 = .ok (.iadd, 1) := by decide +kernel
theorem dX8_settle_94 : decode cX8_settle 94 = .ok (.iaload, 1) := by decide +kernel
theorem dX8_settle_95 : decode cX8_settle 95 = .ok (.iastore, 1) := by decide +kernel
theorem dX8_settle_96 : decode cX8_settle 96 = .ok (.aload_n 0, 1) := by decide +kernel
theorem dX8_settle_97 : decode cX8_settle 97 = .ok (.getfield 20, 3) := by decide +kernel
theorem dX8_settle_100 : decode cX8_settle 100 = .ok (.bipush 6, 2) := by decide +kernel
theorem dX8_settle_102 : decode cX8_settle 102 = .ok (.iload_n 1, 1) := by decide +kernel
theorem dX8_settle_103 : decode cX8_settle 103 = .ok (.imul, 1) := by decide +kernel
theorem dX8_settle_104 : decode cX8_settle 104 = .ok (.iload_n 2, 1) := by decide +kernel
theorem dX8_settle_105 : decode cX8_settle 105 = .ok (.iadd, 1) := by decide +kernel
theorem dX8_settle_106 : decode cX8_settle 106 = .ok (.aload_n 0, 1) := by decide +kernel
theorem dX8_settle_107 : decode cX8_settle 107 = .ok (.getfield 81, 3) := by decide +kernel
theorem dX8_settle_110 : decode cX8_settle 110 = .ok (.iload_n 2, 1) := by decide +kernel
theorem dX8_settle_111 : decode cX8_settle 111 = .ok (.iaload, 1) := by decide +kernel
theorem dX8_settle_112 : decode cX8_settle 112 = .ok (.iastore, 1) := by decide +kernel
theorem dX8_settle_113 : decode cX8_settle 113 = .ok (.aload_n 0, 1) := by decide +kernel
theorem dX8_settle_114 : decode cX8_settle 114 = .ok (.getfield 23, 3) := by decide +kernel
theorem dX8_settle_117 : decode cX8_settle 117 = .ok (.bipush 6, 2) := by decide +kernel
theorem dX8_settle_119 : decode cX8_settle 119 = .ok (.iload_n 1, 1) := by decide +kernel
theorem dX8_settle_120 : decode cX8_settle 120 = .ok (.imul, 1) := by decide +kernel
theorem dX8_settle_121 : decode cX8_settle 121 = .ok (.iload_n 2, 1) := by decide +kernel
theorem dX8_settle_122 : decode cX8_settle 122 = .ok (.iadd, 1) := by decide +kernel
theorem dX8_settle_123 : decode cX8_settle 123 = .ok (.aload_n 0, 1) := by decide +kernel
theorem dX8_settle_124 : decode cX8_settle 124 = .ok (.getfield 84, 3) := by decide +kernel
theorem dX8_settle_127 : decode cX8_settle 127 = .ok (.iload_n 2, 1) := by decide +kernel
theorem dX8_settle_128 : decode cX8_settle 128 = .ok (.iaload, 1) := by decide +kernel
theorem dX8_settle_129 : decode cX8_settle 129 = .ok (.iastore, 1) := by decide +kernel
theorem dX8_settle_130 : decode cX8_settle 130 = .ok (.aload_n 0, 1) := by decide +kernel
theorem dX8_settle_131 : decode cX8_settle 131 = .ok (.getfield 26, 3) := by decide +kernel
theorem dX8_settle_134 : decode cX8_settle 134 = .ok (.bipush 6, 2) := by decide +kernel
theorem dX8_settle_136 : decode cX8_settle 136 = .ok (.iload_n 1, 1) := by decide +kernel
theorem dX8_settle_137 : decode cX8_settle 137 = .ok (.imul, 1) := by decide +kernel
theorem dX8_settle_138 : decode cX8_settle 138 = .ok (.iload_n 2, 1) := by decide +kernel
theorem dX8_settle_139 : decode cX8_settle 139 = .ok (.iadd, 1) := by decide +kernel
theorem dX8_settle_140 : decode cX8_settle 140 = .ok (.aload_n 0, 1) := by decide +kernel
theorem dX8_settle_141 : decode cX8_settle 141 = .ok (.getfield 87, 3) := by decide +kernel
theorem dX8_settle_144 : decode cX8_settle 144 = .ok (.iload_n 2, 1) := by decide +kernel
theorem dX8_settle_145 : decode cX8_settle 145 = .ok (.iaload, 1) := by decide +kernel
theorem dX8_settle_146 : decode cX8_settle 146 = .ok (.iastore, 1) := by decide +kernel
theorem dX8_settle_147 : decode cX8_settle 147 = .ok (.aload_n 0, 1) := by decide +kernel
theorem dX8_settle_148 : decode cX8_settle 148 = .ok (.getfield 29, 3) := by decide +kernel
theorem dX8_settle_151 : decode cX8_settle 151 = .ok (.bipush 6, 2) := by decide +kernel
theorem dX8_settle_153 : decode cX8_settle 153 = .ok (.iload_n 1, 1) := by decide +kernel
theorem dX8_settle_154 : decode cX8_settle 154 = .ok (.imul, 1) := by decide +kernel
theorem dX8_settle_155 : decode cX8_settle 155 = .ok (.iload_n 2, 1) := by decide +kernel
theorem dX8_settle_156 : decode cX8_settle 156 = .ok (.iadd, 1) := by decide +kernel
theorem dX8_settle_157 : decode cX8_settle 157 = .ok (.aload_n 0, 1) := by decide +kernel
theorem dX8_settle_158 : decode cX8_settle 158 = .ok (.getfield 90, 3) := by decide +kernel
theorem dX8_settle_161 : decode cX8_settle 161 = .ok (.iload_n 2, 1) := by decide +kernel
theorem dX8_settle_162 : decode cX8_settle 162 = .ok (.iaload, 1) := by decide +kernel
theorem dX8_settle_163 : decode cX8_settle 163 = .ok (.iastore, 1) := by decide +kernel
theorem dX8_settle_164 : decode cX8_settle 164 = .ok (.iinc 2 1, 3) := by decide +kernel
theorem dX8_settle_167 : decode cX8_settle 167 = .ok (.goto (-165), 3) := by decide +kernel
theorem dX8_settle_170 : decode cX8_settle 170 = .ok (.aload_n 0, 1) := by decide +kernel
theorem dX8_settle_171 : decode cX8_settle 171 = .ok (.getfield 32, 3) := by decide +kernel
theorem dX8_settle_174 : decode cX8_settle 174 = .ok (.iload_n 1, 1) := by decide +kernel
theorem dX8_settle_175 : decode cX8_settle 175 = .ok (.aload_n 0, 1) := by decide +kernel
theorem dX8_settle_176 : decode cX8_settle 176 = .ok (.getfield 17, 3) := by decide +kernel
theorem dX8_settle_179 : decode cX8_settle 179 = .ok (.iload_n 1, 1) := by decide +kernel
theorem dX8_settle_180 : decode cX8_settle 180 = .ok (.iaload, 1) := by decide +kernel
theorem dX8_settle_181 : decode cX8_settle 181 = .ok (.iastore, 1) := by decide +kernel
theorem dX8_settle_182 : decode cX8_settle 182 = .ok (.aload_n 0, 1) := by decide +kernel
theorem dX8_settle_183 : decode cX8_settle 183 = .ok (.getfield 17, 3) := by decide +kernel
theorem dX8_settle_186 : decode cX8_settle 186 = .ok (.iload_n 1, 1) := by decide +kernel
theorem dX8_settle_187 : decode cX8_settle 187 = .ok (.aload_n 0, 1) := by decide +kernel
theorem dX8_settle_188 : decode cX8_settle 188 = .ok (.getfield 207, 3) := by decide +kernel
theorem dX8_settle_191 : decode cX8_settle 191 = .ok (.iastore, 1) := by decide +kernel
theorem dX8_settle_192 : decode cX8_settle 192 = .ok (.iconst 0, 1) := by decide +kernel
theorem dX8_settle_193 : decode cX8_settle 193 = .ok (.istore_n 2, 1) := by decide +kernel
theorem dX8_settle_194 : decode cX8_settle 194 = .ok (.iload_n 2, 1) := by decide +kernel
theorem dX8_settle_195 : decode cX8_settle 195 = .ok (.sipush 144, 3) := by decide +kernel
theorem dX8_settle_198 : decode cX8_settle 198 = .ok (.if_icmp .ge 78, 3) := by decide +kernel
theorem dX8_settle_201 : decode cX8_settle 201 = .ok (.aload_n 0, 1) := by decide +kernel
theorem dX8_settle_202 : decode cX8_settle 202 = .ok (.getfield 47, 3) := by decide +kernel
theorem dX8_settle_205 : decode cX8_settle 205 = .ok (.iload_n 2, 1) := by decide +kernel
theorem dX8_settle_206 : decode cX8_settle 206 = .ok (.bipush 6, 2) := by decide +kernel
theorem dX8_settle_208 : decode cX8_settle 208 = .ok (.idiv, 1) := by decide +kernel
theorem dX8_settle_209 : decode cX8_settle 209 = .ok (.iaload, 1) := by decide +kernel
theorem dX8_settle_210 : decode cX8_settle 210 = .ok (.iload_n 1, 1) := by decide +kernel
theorem dX8_settle_211 : decode cX8_settle 211 = .ok (.if_icmp .ne 7, 3) := by decide +kernel
theorem dX8_settle_214 : decode cX8_settle 214 = .ok (.iconst 1, 1) := by decide +kernel
theorem dX8_settle_215 : decode cX8_settle 215 = .ok (.goto 4, 3) := by decide +kernel
theorem dX8_settle_218 : decode cX8_settle 218 = .ok (.iconst 0, 1) := by decide +kernel
theorem dX8_settle_219 : decode cX8_settle 219 = .ok (.istore_n 3, 1) := by decide +kernel
theorem dX8_settle_220 : decode cX8_settle 220 = .ok (.aload_n 0, 1) := by decide +kernel
theorem dX8_settle_221 : decode cX8_settle 221 = .ok (.getfield 56, 3) := by decide +kernel
theorem dX8_settle_224 : decode cX8_settle 224 = .ok (.iload_n 2, 1) := by decide +kernel
theorem dX8_settle_225 : decode cX8_settle 225 = .ok (.iload_n 3, 1) := by decide +kernel
theorem dX8_settle_226 : decode cX8_settle 226 = .ok (.ifCond .eq 12, 3) := by decide +kernel
theorem dX8_settle_229 : decode cX8_settle 229 = .ok (.aload_n 0, 1) := by decide +kernel
theorem dX8_settle_230 : decode cX8_settle 230 = .ok (.getfield 53, 3) := by decide +kernel
theorem dX8_settle_233 : decode cX8_settle 233 = .ok (.iload_n 2, 1) := by decide +kernel
theorem dX8_settle_234 : decode cX8_settle 234 = .ok (.iaload, 1) := by decide +kernel
theorem dX8_settle_235 : decode cX8_settle 235 = .ok (.goto 9, 3) := by decide +kernel
theorem dX8_settle_238 : decode cX8_settle 238 = .ok (.aload_n 0, 1) := by decide +kernel
theorem dX8_settle_239 : decode cX8_settle 239 = .ok (.getfield 56, 3) := by decide +kernel
theorem dX8_settle_242 : decode cX8_settle 242 = .ok (.iload_n 2, 1) := by decide +kernel
theorem dX8_settle_243 : decode cX8_settle 243 = .ok (.iaload, 1) := by decide +kernel
theorem dX8_settle_244 : decode cX8_settle 244 = .ok (.iastore, 1) := by decide +kernel
theorem dX8_settle_245 : decode cX8_settle 245 = .ok (.aload_n 0, 1) := by decide +kernel
theorem dX8_settle_246 : decode cX8_settle 246 = .ok (.getfield 53, 3) := by decide +kernel
theorem dX8_settle_249 : decode cX8_settle 249 = .ok (.iload_n 2, 1) := by decide +kernel
theorem dX8_settle_250 : decode cX8_settle 250 = .ok (.iload_n 3, 1) := by decide +kernel
theorem dX8_settle_251 : decode cX8_settle 251 = .ok (.ifCond .eq 12, 3) := by decide +kernel
theorem dX8_settle_254 : decode cX8_settle 254 = .ok (.aload_n 0, 1) := by decide +kernel
theorem dX8_settle_255 : decode cX8_settle 255 = .ok (.getfield 96, 3) := by decide +kernel
theorem dX8_settle_258 : decode cX8_settle 258 = .ok (.iload_n 2, 1) := by decide +kernel
theorem dX8_settle_259 : decode cX8_settle 259 = .ok (.iaload, 1) := by decide +kernel
theorem dX8_settle_260 : decode cX8_settle 260 = .ok (.goto 9, 3) := by decide +kernel
theorem dX8_settle_263 : decode cX8_settle 263 = .ok (.aload_n 0, 1) := by decide +kernel
theorem dX8_settle_264 : decode cX8_settle 264 = .ok (.getfield 53, 3) := by decide +kernel
theorem dX8_settle_267 : decode cX8_settle 267 = .ok (.iload_n 2, 1) := by decide +kernel
theorem dX8_settle_268 : decode cX8_settle 268 = .ok (.iaload, 1) := by decide +kernel
theorem dX8_settle_269 : decode cX8_settle 269 = .ok (.iastore, 1) := by decide +kernel
theorem dX8_settle_270 : decode cX8_settle 270 = .ok (.iinc 2 1, 3) := by decide +kernel
theorem dX8_settle_273 : decode cX8_settle 273 = .ok (.goto (-79), 3) := by decide +kernel
theorem dX8_settle_276 : decode cX8_settle 276 = .ok (.aload_n 0, 1) := by decide +kernel
theorem dX8_settle_277 : decode cX8_settle 277 = .ok (.getfield 7, 3) := by decide +kernel
theorem dX8_settle_280 : decode cX8_settle 280 = .ok (.iload_n 1, 1) := by decide +kernel
theorem dX8_settle_281 : decode cX8_settle 281 = .ok (.dup2, 1) := by decide +kernel
theorem dX8_settle_282 : decode cX8_settle 282 = .ok (.iaload, 1) := by decide +kernel
theorem dX8_settle_283 : decode cX8_settle 283 = .ok (.iconst 1, 1) := by decide +kernel
theorem dX8_settle_284 : decode cX8_settle 284 = .ok (.iadd, 1) := by decide +kernel
theorem dX8_settle_285 : decode cX8_settle 285 = .ok (.iastore, 1) := by decide +kernel
theorem dX8_settle_286 : decode cX8_settle 286 = .ok (.aload_n 0, 1) := by decide +kernel
theorem dX8_settle_287 : decode cX8_settle 287 = .ok (.getfield 13, 3) := by decide +kernel
theorem dX8_settle_290 : decode cX8_settle 290 = .ok (.iload_n 1, 1) := by decide +kernel
theorem dX8_settle_291 : decode cX8_settle 291 = .ok (.aload_n 0, 1) := by decide +kernel
theorem dX8_settle_292 : decode cX8_settle 292 = .ok (.getfield 234, 3) := by decide +kernel
theorem dX8_settle_295 : decode cX8_settle 295 = .ok (.ifCond .ne 7, 3) := by decide +kernel
theorem dX8_settle_298 : decode cX8_settle 298 = .ok (.iconst 1, 1) := by decide +kernel
theorem dX8_settle_299 : decode cX8_settle 299 = .ok (.goto 4, 3) := by decide +kernel
theorem dX8_settle_302 : decode cX8_settle 302 = .ok (.iconst 0, 1) := by decide +kernel
theorem dX8_settle_303 : decode cX8_settle 303 = .ok (.bastore, 1) := by decide +kernel
theorem dX8_settle_304 : decode cX8_settle 304 = .ok (.iconst 0, 1) := by decide +kernel
theorem dX8_settle_305 : decode cX8_settle 305 = .ok (.istore_n 2, 1) := by decide +kernel
theorem dX8_settle_306 : decode cX8_settle 306 = .ok (.iload_n 2, 1) := by decide +kernel
theorem dX8_settle_307 : decode cX8_settle 307 = .ok (.aload_n 0, 1) := by decide +kernel
theorem dX8_settle_308 : decode cX8_settle 308 = .ok (.getfield 121, 3) := by decide +kernel
theorem dX8_settle_311 : decode cX8_settle 311 = .ok (.if_icmp .ge 40, 3) := by decide +kernel
theorem dX8_settle_314 : decode cX8_settle 314 = .ok (.aload_n 0, 1) := by decide +kernel
theorem dX8_settle_315 : decode cX8_settle 315 = .ok (.getfield 13, 3) := by decide +kernel
theorem dX8_settle_318 : decode cX8_settle 318 = .ok (.iload_n 2, 1) := by decide +kernel
theorem dX8_settle_319 : decode cX8_settle 319 = .ok (.aload_n 0, 1) := by decide +kernel
theorem dX8_settle_320 : decode cX8_settle 320 = .ok (.getfield 13, 3) := by decide +kernel
theorem dX8_settle_323 : decode cX8_settle 323 = .ok (.iload_n 2, 1) := by decide +kernel
theorem dX8_settle_324 : decode cX8_settle 324 = .ok (.baload, 1) := by decide +kernel
theorem dX8_settle_325 : decode cX8_settle 325 = .ok (.ifCond .eq 18, 3) := by decide +kernel
theorem dX8_settle_328 : decode cX8_settle 328 = .ok (.aload_n 0, 1) := by decide +kernel
theorem dX8_settle_329 : decode cX8_settle 329 = .ok (.getfield 238, 3) := by decide +kernel
theorem dX8_settle_332 : decode cX8_settle 332 = .ok (.iload_n 2, 1) := by decide +kernel
theorem dX8_settle_333 : decode cX8_settle 333 = .ok (.ishr, 1) := by decide +kernel
theorem dX8_settle_334 : decode cX8_settle 334 = .ok (.iconst 1, 1) := by decide +kernel
theorem dX8_settle_335 : decode cX8_settle 335 = .ok (.iand, 1) := by decide +kernel
theorem dX8_settle_336 : decode cX8_settle 336 = .ok (.ifCond .ne 7, 3) := by decide +kernel
theorem dX8_settle_339 : decode cX8_settle 339 = .ok (.iconst 1, 1) := by decide +kernel
theorem dX8_settle_340 : decode cX8_settle 340 = .ok (.goto 4, 3) := by decide +kernel
theorem dX8_settle_343 : decode cX8_settle 343 = .ok (.iconst 0, 1) := by decide +kernel
theorem dX8_settle_344 : decode cX8_settle 344 = .ok (.bastore, 1) := by decide +kernel
theorem dX8_settle_345 : decode cX8_settle 345 = .ok (.iinc 2 1, 3) := by decide +kernel
theorem dX8_settle_348 : decode cX8_settle 348 = .ok (.goto (-42), 3) := by decide +kernel
theorem dX8_settle_351 : decode cX8_settle 351 = .ok (.return_, 1) := by decide +kernel
set_option maxRecDepth 20000 in
theorem ggX8_change_X8_isClass : GoodIn wsX8_change wsX8_isClass := goodIn_r _ [9, 10, 154, 155, 156, 157, 158, 159, 160, 161, 162, 163, 164, 165, 166, 167, 168, 169, 170, 171, 172, 173, 174, 175, 176, 177, 178, 179, 180, 181, 182, 183, 184, 185, 186, 187, 188, 189, 190, 191, 192, 193, 194, 195, 196, 197] (by decide +kernel) (by decide +kernel)
set_option maxRecDepth 20000 in
theorem gX8_change_X8_isClass : GoodIn wsX8_change (wsV RX8 128 RX8 yX8_isClass wsX8_isClass) := goodIn_app (goodIn_of _ (by decide +kernel)) ggX8_change_X8_isClass
set_option maxRecDepth 20000 in
theorem ggX8_change_X8_begin : GoodIn wsX8_change wsX8_begin := goodIn_r _ [14, 15, 16, 17, 18, 19, 20, 21, 22, 23, 24, 25, 26, 27, 28, 29, 30, 31, 32, 33, 34, 35, 154, 155, 156, 157, 158, 159, 160, 161, 162, 163, 164, 165, 166, 167, 168, 169, 170, 171, 172, 173, 174, 175, 176, 177, 178, 179, 180, 181, 182, 183, 184, 185, 186, 187, 188, 189, 190, 191, 192, 193, 194, 195, 196, 197] (by decide +kernel) (by decide +kernel)
set_option maxRecDepth 20000 in
theorem gX8_change_X8_begin : GoodIn wsX8_change (wsV RX8 266 RX8 yX8_begin wsX8_begin) := goodIn_app (goodIn_of _ (by decide +kernel)) ggX8_change_X8_begin
set_option maxRecDepth 20000 in
theorem ggX8_change_X8_act : GoodIn wsX8_change wsX8_act := goodIn_r _ [39, 40, 41, 42, 43, 8, 44, 22, 45, 46, 47, 48, 17, 20, 49, 50, 51, 52, 24, 26, 28, 29, 53, 54, 55, 56, 57, 58, 59, 60, 33, 15, 61, 62, 63, 64, 65, 66, 67, 68, 69, 70, 71, 72, 73, 23, 25, 27, 74, 75, 76, 77, 78, 79, 16, 21, 80, 81, 82, 83, 84, 85, 86, 87, 88, 89, 90, 91, 92, 93, 94, 95, 96, 97, 98, 99, 100, 30, 101, 102, 103, 104, 105, 106, 107, 108, 109, 110, 111, 112, 113, 35, 4, 18, 19, 114, 115, 116, 117, 118, 119, 120, 121, 122, 123, 124, 125, 126, 127, 128, 129, 130, 131, 132, 133, 134, 135, 136, 137, 138, 154, 155, 156, 157, 158, 159, 160, 161, 162, 163, 164, 165, 166, 167, 168, 169, 170, 171, 172, 173, 174, 175, 176, 177, 178, 179, 180, 181, 182, 183, 184, 185, 186, 187, 188, 189, 190, 191, 192, 193, 194, 195, 196, 197] (by decide +kernel) (by decide +kernel)
set_option maxRecDepth 20000 in
theorem gX8_change_X8_act : GoodIn wsX8_change (wsV RX8 269 RX8 yX8_act wsX8_act) := goodIn_app (goodIn_of _ (by decide +kernel)) ggX8_change_X8_act
set_option maxRecDepth 20000 in
theorem ggX8_change_X8_restore : GoodIn wsX8_change wsX8_restore := goodIn_r _ [142, 30, 31, 33, 32, 35, 34, 154, 155, 156, 157, 158, 159, 160, 161, 162, 163, 164, 165, 166, 167, 168, 169, 170, 171, 172, 173, 174, 175, 176, 177, 178, 179, 180, 181, 182, 183, 184, 185, 186, 187, 188, 189, 190, 191, 192, 193, 194, 195, 196, 197] (by decide +kernel) (by decide +kernel)
set_option maxRecDepth 20000 in
theorem gX8_change_X8_restore : GoodIn wsX8_change (wsV RX8 272 RX8 yX8_restore wsX8_restore) := goodIn_app (goodIn_of _ (by decide +kernel)) ggX8_change_X8_restore
set_option maxRecDepth 20000 in
theorem ggX8_change_X8_settle : GoodIn wsX8_change wsX8_settle := goodIn_r _ [146, 147, 21, 148, 23, 149, 25, 150, 27, 20, 22, 24, 26, 151, 16, 17, 33, 152, 30, 29, 4, 153, 18, 10, 19, 154, 155, 156, 157, 158, 159, 160, 161, 162, 163, 164, 165, 166, 167, 168, 169, 170, 171, 172, 173, 174, 175, 176, 177, 178, 179, 180, 181, 182, 183, 184, 185, 186, 187, 188, 189, 190, 191, 192, 193, 194, 195, 196, 197] (by decide +kernel) (by decide +kernel)
set_option maxRecDepth 20000 in
theorem gX8_change_X8_settle : GoodIn wsX8_change (wsV RX8 275 RX8 yX8_settle wsX8_settle) := goodIn_app (goodIn_of _ (by decide +kernel)) ggX8_change_X8_settle
theorem dX8_change_0 : decode cX8_change 0 = .ok (.aload_n 0, 1) := by decide +kernel
theorem dX8_change_1 : decode cX8_change 1 = .ok (.aload_n 0, 1) := by decide +kernel
theorem dX8_change_2 : decode cX8_change 2 = .ok (.iload_n 1, 1) := by decide +kernel
theorem dX8_change_3 : decode cX8_change 3 = .ok (.invokevirtual 128, 3) := by decide +kernel
theorem dX8_change_6 : decode cX8_change 6 = .ok (.ifCond .eq 10, 3) := by decide +kernel
theorem dX8_change_9 : decode cX8_change 9 = .ok (.aload_n 0, 1) := by decide +kernel
theorem dX8_change_10 : decode cX8_change 10 = .ok (.getfield 176, 3) := by decide +kernel
theorem dX8_change_13 : decode cX8_change 13 = .ok (.ifCond .ne 7, 3) := by decide +kernel
theorem dX8_change_16 : decode cX8_change 16 = .ok (.iconst 1, 1) := by decide +kernel
theorem dX8_change_17 : decode cX8_change 17 = .ok (.goto 4, 3) := by decide +kernel
theorem dX8_change_20 : decode cX8_change 20 = .ok (.iconst 0, 1) := by decide +kernel
theorem dX8_change_21 : decode cX8_change 21 = .ok (.putfield 118, 3) := by decide +kernel
theorem dX8_change_24 : decode cX8_change 24 = .ok (.aload_n 0, 1) := by decide +kernel
theorem dX8_change_25 : decode cX8_change 25 = .ok (.getfield 118, 3) := by decide +kernel
theorem dX8_change_28 : decode cX8_change 28 = .ok (.ifCond .le 5, 3) := by decide +kernel
theorem dX8_change_31 : decode cX8_change 31 = .ok (.iconst 0, 1) := by decide +kernel
theorem dX8_change_32 : decode cX8_change 32 = .ok (.ireturn, 1) := by decide +kernel
theorem dX8_change_33 : decode cX8_change 33 = .ok (.aload_n 0, 1) := by decide +kernel
theorem dX8_change_34 : decode cX8_change 34 = .ok (.getfield 176, 3) := by decide +kernel
theorem dX8_change_37 : decode cX8_change 37 = .ok (.istore_n 2, 1) := by decide +kernel
theorem dX8_change_38 : decode cX8_change 38 = .ok (.aload_n 0, 1) := by decide +kernel
theorem dX8_change_39 : decode cX8_change 39 = .ok (.iconst 0, 1) := by decide +kernel
theorem dX8_change_40 : decode cX8_change 40 = .ok (.putfield 176, 3) := by decide +kernel
theorem dX8_change_43 : decode cX8_change 43 = .ok (.aload_n 0, 1) := by decide +kernel
theorem dX8_change_44 : decode cX8_change 44 = .ok (.iconst (-1), 1) := by decide +kernel
theorem dX8_change_45 : decode cX8_change 45 = .ok (.putfield 77, 3) := by decide +kernel
theorem dX8_change_48 : decode cX8_change 48 = .ok (.aload_n 0, 1) := by decide +kernel
theorem dX8_change_49 : decode cX8_change 49 = .ok (.getfield 7, 3) := by decide +kernel
theorem dX8_change_52 : decode cX8_change 52 = .ok (.iload_n 1, 1) := by decide +kernel
theorem dX8_change_53 : decode cX8_change 53 = .ok (.iaload, 1) := by decide +kernel
theorem dX8_change_54 : decode cX8_change 54 = .ok (.bipush 9, 2) := by decide +kernel
theorem dX8_change_56 : decode cX8_change 56 = .ok (.if_icmp .ne 10, 3) := by decide +kernel
theorem dX8_change_59 : decode cX8_change 59 = .ok (.aload_n 0, 1) := by decide +kernel
theorem dX8_change_60 : decode cX8_change 60 = .ok (.iconst 2, 1) := by decide +kernel
theorem dX8_change_61 : decode cX8_change 61 = .ok (.putfield 118, 3) := by decide +kernel
theorem dX8_change_64 : decode cX8_change 64 = .ok (.iconst 0, 1) := by decide +kernel
theorem dX8_change_65 : decode cX8_change 65 = .ok (.ireturn, 1) := by decide +kernel
theorem dX8_change_66 : decode cX8_change 66 = .ok (.aload_n 0, 1) := by decide +kernel
theorem dX8_change_67 : decode cX8_change 67 = .ok (.iload_n 1, 1) := by decide +kernel
theorem dX8_change_68 : decode cX8_change 68 = .ok (.invokevirtual 266, 3) := by decide +kernel
theorem dX8_change_71 : decode cX8_change 71 = .ok (.iconst 0, 1) := by decide +kernel
theorem dX8_change_72 : decode cX8_change 72 = .ok (.istore_n 3, 1) := by decide +kernel
theorem dX8_change_73 : decode cX8_change 73 = .ok (.iload_n 3, 1) := by decide +kernel
theorem dX8_change_74 : decode cX8_change 74 = .ok (.iload_n 2, 1) := by decide +kernel
theorem dX8_change_75 : decode cX8_change 75 = .ok (.if_icmp .ge 33, 3) := by decide +kernel
theorem dX8_change_78 : decode cX8_change 78 = .ok (.aload_n 0, 1) := by decide +kernel
theorem dX8_change_79 : decode cX8_change 79 = .ok (.getfield 77, 3) := by decide +kernel
theorem dX8_change_82 : decode cX8_change 82 = .ok (.ifCond .ge 26, 3) := by decide +kernel
theorem dX8_change_85 : decode cX8_change 85 = .ok (.aload_n 0, 1) := by decide +kernel
theorem dX8_change_86 : decode cX8_change 86 = .ok (.aload_n 0, 1) := by decide +kernel
theorem dX8_change_87 : decode cX8_change 87 = .ok (.iload_n 3, 1) := by decide +kernel
theorem dX8_change_88 : decode cX8_change 88 = .ok (.invokevirtual 269, 3) := by decide +kernel
theorem dX8_change_91 : decode cX8_change 91 = .ok (.ifCond .eq 7, 3) := by decide +kernel
theorem dX8_change_94 : decode cX8_change 94 = .ok (.iconst (-1), 1) := by decide +kernel
theorem dX8_change_95 : decode cX8_change 95 = .ok (.goto 4, 3) := by decide +kernel
theorem dX8_change_98 : decode cX8_change 98 = .ok (.iload_n 3, 1) := by decide +kernel
theorem dX8_change_99 : decode cX8_change 99 = .ok (.putfield 77, 3) := by decide +kernel
theorem dX8_change_102 : decode cX8_change 102 = .ok (.iinc 3 1, 3) := by decide +kernel
theorem dX8_change_105 : decode cX8_change 105 = .ok (.goto (-32), 3) := by decide +kernel
theorem dX8_change_108 : decode cX8_change 108 = .ok (.aload_n 0, 1) := by decide +kernel
theorem dX8_change_109 : decode cX8_change 109 = .ok (.getfield 77, 3) := by decide +kernel
theorem dX8_change_112 : decode cX8_change 112 = .ok (.ifCond .lt 14, 3) := by decide +kernel
theorem dX8_change_115 : decode cX8_change 115 = .ok (.aload_n 0, 1) := by decide +kernel
theorem dX8_change_116 : decode cX8_change 116 = .ok (.invokevirtual 272, 3) := by decide +kernel
theorem dX8_change_119 : decode cX8_change 119 = .ok (.aload_n 0, 1) := by decide +kernel
theorem dX8_change_120 : decode cX8_change 120 = .ok (.iconst 2, 1) := by decide +kernel
theorem dX8_change_121 : decode cX8_change 121 = .ok (.putfield 118, 3) := by decide +kernel
theorem dX8_change_124 : decode cX8_change 124 = .ok (.iconst 0, 1) := by decide +kernel
theorem dX8_change_125 : decode cX8_change 125 = .ok (.ireturn, 1) := by decide +kernel
theorem dX8_change_126 : decode cX8_change 126 = .ok (.aload_n 0, 1) := by decide +kernel
theorem dX8_change_127 : decode cX8_change 127 = .ok (.iload_n 1, 1) := by decide +kernel
theorem dX8_change_128 : decode cX8_change 128 = .ok (.invokevirtual 275, 3) := by decide +kernel
theorem dX8_change_131 : decode cX8_change 131 = .ok (.aload_n 0, 1) := by decide +kernel
theorem dX8_change_132 : decode cX8_change 132 = .ok (.getfield 7, 3) := by decide +kernel
theorem dX8_change_135 : decode cX8_change 135 = .ok (.iload_n 1, 1) := by decide +kernel
theorem dX8_change_136 : decode cX8_change 136 = .ok (.iaload, 1) := by decide +kernel
theorem dX8_change_137 : decode cX8_change 137 = .ok (.ireturn, 1) := by decide +kernel
set_option maxRecDepth 20000 in
theorem ggX8_takeBack_X8_isClass : GoodIn wsX8_takeBack wsX8_isClass := goodIn_r _ [22, 23, 24, 25, 26, 27, 28, 29, 30, 31, 32, 33, 34, 35, 36, 37, 38, 39, 40, 41, 42, 43, 44, 45, 46, 47, 48, 49, 50, 51, 52, 53, 54, 55, 56, 57, 58, 59, 60, 61, 62, 63, 64, 65, 66, 67] (by decide +kernel) (by decide +kernel)
set_option maxRecDepth 20000 in
theorem gX8_takeBack_X8_isClass : GoodIn wsX8_takeBack (wsV RX8 128 RX8 yX8_isClass wsX8_isClass) := goodIn_app (goodIn_of _ (by decide +kernel)) ggX8_takeBack_X8_isClass
theorem dX8_takeBack_0 : decode cX8_takeBack 0 = .ok (.aload_n 0, 1) := by decide +kernel
theorem dX8_takeBack_1 : decode cX8_takeBack 1 = .ok (.aload_n 0, 1) := by decide +kernel
theorem dX8_takeBack_2 : decode cX8_takeBack 2 = .ok (.iload_n 1, 1) := by decide +kernel
theorem dX8_takeBack_3 : decode cX8_takeBack 3 = .ok (.invokevirtual 128, 3) := by decide +kernel
theorem dX8_takeBack_6 : decode cX8_takeBack 6 = .ok (.ifCond .ne 7, 3) := by decide +kernel
theorem dX8_takeBack_9 : decode cX8_takeBack 9 = .ok (.iconst 1, 1) := by decide +kernel
theorem dX8_takeBack_10 : decode cX8_takeBack 10 = .ok (.goto 17, 3) := by decide +kernel
theorem dX8_takeBack_13 : decode cX8_takeBack 13 = .ok (.aload_n 0, 1) := by decide +kernel
theorem dX8_takeBack_14 : decode cX8_takeBack 14 = .ok (.getfield 13, 3) := by decide +kernel
theorem dX8_takeBack_17 : decode cX8_takeBack 17 = .ok (.iload_n 1, 1) := by decide +kernel
theorem dX8_takeBack_18 : decode cX8_takeBack 18 = .ok (.baload, 1) := by decide +kernel
theorem dX8_takeBack_19 : decode cX8_takeBack 19 = .ok (.ifCond .ne 7, 3) := by decide +kernel
theorem dX8_takeBack_22 : decode cX8_takeBack 22 = .ok (.iconst 2, 1) := by decide +kernel
theorem dX8_takeBack_23 : decode cX8_takeBack 23 = .ok (.goto 4, 3) := by decide +kernel
theorem dX8_takeBack_26 : decode cX8_takeBack 26 = .ok (.iconst 0, 1) := by decide +kernel
theorem dX8_takeBack_27 : decode cX8_takeBack 27 = .ok (.putfield 118, 3) := by decide +kernel
theorem dX8_takeBack_30 : decode cX8_takeBack 30 = .ok (.aload_n 0, 1) := by decide +kernel
theorem dX8_takeBack_31 : decode cX8_takeBack 31 = .ok (.getfield 118, 3) := by decide +kernel
theorem dX8_takeBack_34 : decode cX8_takeBack 34 = .ok (.ifCond .le 5, 3) := by decide +kernel
theorem dX8_takeBack_37 : decode cX8_takeBack 37 = .ok (.iconst 0, 1) := by decide +kernel
theorem dX8_takeBack_38 : decode cX8_takeBack 38 = .ok (.ireturn, 1) := by decide +kernel
theorem dX8_takeBack_39 : decode cX8_takeBack 39 = .ok (.iconst 0, 1) := by decide +kernel
theorem dX8_takeBack_40 : decode cX8_takeBack 40 = .ok (.istore_n 2, 1) := by decide +kernel
theorem dX8_takeBack_41 : decode cX8_takeBack 41 = .ok (.iconst 0, 1) := by decide +kernel
theorem dX8_takeBack_42 : decode cX8_takeBack 42 = .ok (.istore_n 3, 1) := by decide +kernel
theorem dX8_takeBack_43 : decode cX8_takeBack 43 = .ok (.iload_n 3, 1) := by decide +kernel
theorem dX8_takeBack_44 : decode cX8_takeBack 44 = .ok (.bipush 24, 2) := by decide +kernel
theorem dX8_takeBack_46 : decode cX8_takeBack 46 = .ok (.if_icmp .ge 120, 3) := by decide +kernel
theorem dX8_takeBack_49 : decode cX8_takeBack 49 = .ok (.aload_n 0, 1) := by decide +kernel
theorem dX8_takeBack_50 : decode cX8_takeBack 50 = .ok (.getfield 47, 3) := by decide +kernel
theorem dX8_takeBack_53 : decode cX8_takeBack 53 = .ok (.iload_n 3, 1) := by decide +kernel
theorem dX8_takeBack_54 : decode cX8_takeBack 54 = .ok (.iaload, 1) := by decide +kernel
theorem dX8_takeBack_55 : decode cX8_takeBack 55 = .ok (.iload_n 1, 1) := by decide +kernel
theorem dX8_takeBack_56 : decode cX8_takeBack 56 = .ok (.if_icmp .ne 104, 3) := by decide +kernel
theorem dX8_takeBack_59 : decode cX8_takeBack 59 = .ok (.iload_n 2, 1) := by decide +kernel
theorem dX8_takeBack_60 : decode cX8_takeBack 60 = .ok (.aload_n 0, 1) := by decide +kernel
