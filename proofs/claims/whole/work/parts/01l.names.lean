theorem dX8_spread_75 : decode cX8_spread 75 = .ok (.iaload, 1) := by decide +kernel
theorem dX8_spread_76 : decode cX8_spread 76 = .ok (.istore 4, 2) := by decide +kernel
theorem dX8_spread_78 : decode cX8_spread 78 = .ok (.iload 4, 2) := by decide +kernel
theorem dX8_spread_80 : decode cX8_spread 80 = .ok (.ifCond .lt 23, 3) := by decide +kernel
theorem dX8_spread_83 : decode cX8_spread 83 = .ok (.aload_n 0, 1) := by decide +kernel
theorem dX8_spread_84 : decode cX8_spread 84 = .ok (.getfield 59, 3) := by decide +kernel
theorem dX8_spread_87 : decode cX8_spread 87 = .ok (.iload 4, 2) := by decide +kernel
theorem dX8_spread_89 : decode cX8_spread 89 = .ok (.baload, 1) := by decide +kernel
theorem dX8_spread_90 : decode cX8_spread 90 = .ok (.ifCond .ne 13, 3) := by decide +kernel
theorem dX8_spread_93 : decode cX8_spread 93 = .ok (.aload_n 0, 1) := by decide +kernel
theorem dX8_spread_94 : decode cX8_spread 94 = .ok (.getfield 59, 3) := by decide +kernel
theorem dX8_spread_97 : decode cX8_spread 97 = .ok (.iload 4, 2) := by decide +kernel
theorem dX8_spread_99 : decode cX8_spread 99 = .ok (.iconst 1, 1) := by decide +kernel
theorem dX8_spread_100 : decode cX8_spread 100 = .ok (.bastore, 1) := by decide +kernel
theorem dX8_spread_101 : decode cX8_spread 101 = .ok (.iconst 1, 1) := by decide +kernel
theorem dX8_spread_102 : decode cX8_spread 102 = .ok (.istore_n 1, 1) := by decide +kernel
theorem dX8_spread_103 : decode cX8_spread 103 = .ok (.iinc 3 1, 3) := by decide +kernel
theorem dX8_spread_106 : decode cX8_spread 106 = .ok (.goto (-88), 3) := by decide +kernel
theorem dX8_spread_109 : decode cX8_spread 109 = .ok (.iinc 2 1, 3) := by decide +kernel
theorem dX8_spread_112 : decode cX8_spread 112 = .ok (.goto (-102), 3) := by decide +kernel
theorem dX8_spread_115 : decode cX8_spread 115 = .ok (.goto (-113), 3) := by decide +kernel
theorem dX8_spread_118 : decode cX8_spread 118 = .ok (.return_, 1) := by decide +kernel
theorem dX8_forget_0 : decode cX8_forget 0 = .ok (.iconst 0, 1) := by decide +kernel
theorem dX8_forget_1 : decode cX8_forget 1 = .ok (.istore_n 2, 1) := by decide +kernel
theorem dX8_forget_2 : decode cX8_forget 2 = .ok (.iload_n 2, 1) := by decide +kernel
theorem dX8_forget_3 : decode cX8_forget 3 = .ok (.bipush 24, 2) := by decide +kernel
theorem dX8_forget_5 : decode cX8_forget 5 = .ok (.if_icmp .ge 113, 3) := by decide +kernel
theorem dX8_forget_8 : decode cX8_forget 8 = .ok (.iconst 0, 1) := by decide +kernel
theorem dX8_forget_9 : decode cX8_forget 9 = .ok (.istore_n 3, 1) := by decide +kernel
theorem dX8_forget_10 : decode cX8_forget 10 = .ok (.aload_n 0, 1) := by decide +kernel
theorem dX8_forget_11 : decode cX8_forget 11 = .ok (.getfield 47, 3) := by decide +kernel
theorem dX8_forget_14 : decode cX8_forget 14 = .ok (.iload_n 2, 1) := by decide +kernel
theorem dX8_forget_15 : decode cX8_forget 15 = .ok (.iaload, 1) := by decide +kernel
theorem dX8_forget_16 : decode cX8_forget 16 = .ok (.ifCond .lt 96, 3) := by decide +kernel
theorem dX8_forget_19 : decode cX8_forget 19 = .ok (.iload_n 3, 1) := by decide +kernel
theorem dX8_forget_20 : decode cX8_forget 20 = .ok (.aload_n 0, 1) := by decide +kernel
theorem dX8_forget_21 : decode cX8_forget 21 = .ok (.getfield 32, 3) := by decide +kernel
theorem dX8_forget_24 : decode cX8_forget 24 = .ok (.aload_n 0, 1) := by decide +kernel
theorem dX8_forget_25 : decode cX8_forget 25 = .ok (.getfield 47, 3) := by decide +kernel
theorem dX8_forget_28 : decode cX8_forget 28 = .ok (.iload_n 2, 1) := by decide +kernel
theorem dX8_forget_29 : decode cX8_forget 29 = .ok (.iaload, 1) := by decide +kernel
theorem dX8_forget_30 : decode cX8_forget 30 = .ok (.iaload, 1) := by decide +kernel
theorem dX8_forget_31 : decode cX8_forget 31 = .ok (.if_icmp .ge 81, 3) := by decide +kernel
theorem dX8_forget_34 : decode cX8_forget 34 = .ok (.aload_n 0, 1) := by decide +kernel
theorem dX8_forget_35 : decode cX8_forget 35 = .ok (.getfield 38, 3) := by decide +kernel
theorem dX8_forget_38 : decode cX8_forget 38 = .ok (.bipush 6, 2) := by decide +kernel
theorem dX8_forget_40 : decode cX8_forget 40 = .ok (.aload_n 0, 1) := by decide +kernel
theorem dX8_forget_41 : decode cX8_forget 41 = .ok (.getfield 47, 3) := by decide +kernel
theorem dX8_forget_44 : decode cX8_forget 44 = .ok (.iload_n 2, 1) := by decide +kernel
theorem dX8_forget_45 : decode cX8_forget 45 = .ok (.iaload, 1) := by decide +kernel
theorem dX8_forget_46 : decode cX8_forget 46 = .ok (.imul, 1) := by decide +kernel
theorem dX8_forget_47 : decode cX8_forget 47 = .ok (.iload_n 3, 1) := by decide +kernel
theorem dX8_forget_48 : decode cX8_forget 48 = .ok (.iadd, 1) := by decide +kernel
theorem dX8_forget_49 : decode cX8_forget 49 = .ok (.iaload, 1) := by decide +kernel
theorem dX8_forget_50 : decode cX8_forget 50 = .ok (.ifCond .eq 22, 3) := by decide +kernel
theorem dX8_forget_53 : decode cX8_forget 53 = .ok (.aload_n 0, 1) := by decide +kernel
theorem dX8_forget_54 : decode cX8_forget 54 = .ok (.getfield 56, 3) := by decide +kernel
theorem dX8_forget_57 : decode cX8_forget 57 = .ok (.bipush 6, 2) := by decide +kernel
theorem dX8_forget_59 : decode cX8_forget 59 = .ok (.iload_n 2, 1) := by decide +kernel
theorem dX8_forget_60 : decode cX8_forget 60 = .ok (.imul, 1) := by decide +kernel
theorem dX8_forget_61 : decode cX8_forget 61 = .ok (.iload_n 3, 1) := by decide +kernel
theorem dX8_forget_62 : decode cX8_forget 62 = .ok (.iadd, 1) := by decide +kernel
theorem dX8_forget_63 : decode cX8_forget 63 = .ok (.iaload, 1) := by decide +kernel
theorem dX8_forget_64 : decode cX8_forget 64 = .ok (.iload_n 1, 1) := by decide +kernel
theorem dX8_forget_65 : decode cX8_forget 65 = .ok (.if_icmp .ne 7, 3) := by decide +kernel
theorem dX8_forget_68 : decode cX8_forget 68 = .ok (.iconst 1, 1) := by decide +kernel
theorem dX8_forget_69 : decode cX8_forget 69 = .ok (.goto 4, 3) := by decide +kernel
theorem dX8_forget_72 : decode cX8_forget 72 = .ok (.iconst 0, 1) := by decide +kernel
theorem dX8_forget_73 : decode cX8_forget 73 = .ok (.istore 4, 2) := by decide +kernel
theorem dX8_forget_75 : decode cX8_forget 75 = .ok (.aload_n 0, 1) := by decide +kernel
theorem dX8_forget_76 : decode cX8_forget 76 = .ok (.getfield 56, 3) := by decide +kernel
theorem dX8_forget_79 : decode cX8_forget 79 = .ok (.bipush 6, 2) := by decide +kernel
theorem dX8_forget_81 : decode cX8_forget 81 = .ok (.iload_n 2, 1) := by decide +kernel
theorem dX8_forget_82 : decode cX8_forget 82 = .ok (.imul, 1) := by decide +kernel
theorem dX8_forget_83 : decode cX8_forget 83 = .ok (.iload_n 3, 1) := by decide +kernel
theorem dX8_forget_84 : decode cX8_forget 84 = .ok (.iadd, 1) := by decide +kernel
theorem dX8_forget_85 : decode cX8_forget 85 = .ok (.iload 4, 2) := by decide +kernel
theorem dX8_forget_87 : decode cX8_forget 87 = .ok (.ifCond .eq 7, 3) := by decide +kernel
theorem dX8_forget_90 : decode cX8_forget 90 = .ok (.iconst (-1), 1) := by decide +kernel
theorem dX8_forget_91 : decode cX8_forget 91 = .ok (.goto 14, 3) := by decide +kernel
theorem dX8_forget_94 : decode cX8_forget 94 = .ok (.aload_n 0, 1) := by decide +kernel
theorem dX8_forget_95 : decode cX8_forget 95 = .ok (.getfield 56, 3) := by decide +kernel
theorem dX8_forget_98 : decode cX8_forget 98 = .ok (.bipush 6, 2) := by decide +kernel
theorem dX8_forget_100 : decode cX8_forget 100 = .ok (.iload_n 2, 1) := by decide +kernel
theorem dX8_forget_101 : decode cX8_forget 101 = .ok (.imul, 1) := by decide +kernel
theorem dX8_forget_102 : decode cX8_forget 102 = .ok (.iload_n 3, 1) := by decide +kernel
theorem dX8_forget_103 : decode cX8_forget 103 = .ok (.iadd, 1) := by decide +kernel
theorem dX8_forget_104 : decode cX8_forget 104 = .ok (.iaload, 1) := by decide +kernel
theorem dX8_forget_105 : decode cX8_forget 105 = .ok (.iastore, 1) := by decide +kernel
theorem dX8_forget_106 : decode cX8_forget 106 = .ok (.iinc 3 1, 3) := by decide +kernel
theorem dX8_forget_109 : decode cX8_forget 109 = .ok (.goto (-99), 3) := by decide +kernel
theorem dX8_forget_112 : decode cX8_forget 112 = .ok (.iinc 2 1, 3) := by decide +kernel
theorem dX8_forget_115 : decode cX8_forget 115 = .ok (.goto (-113), 3) := by decide +kernel
theorem dX8_forget_118 : decode cX8_forget 118 = .ok (.return_, 1) := by decide +kernel
set_option maxRecDepth 20000 in
theorem ggX8_collect_X8_spread : GoodIn wsX8_collect wsX8_spread := goodIn_r _ [9, 2, 10, 4, 11, 12, 20, 21, 22, 23, 24, 25, 26, 27, 28, 29, 30, 31, 32, 33, 34, 35, 36, 37, 38, 39, 40, 41, 42, 43, 44, 45, 46, 47, 48, 49, 50, 51, 52, 53, 54, 55, 56, 57, 58, 59, 60, 61, 62, 63] rfl (by decide +kernel)
set_option maxRecDepth 20000 in
theorem gX8_collect_X8_spread : GoodIn wsX8_collect (wsV RX8 284 RX8 yX8_spread wsX8_spread) := goodIn_app (goodIn_of _ (by decide +kernel)) ggX8_collect_X8_spread
set_option maxRecDepth 20000 in
theorem ggX8_collect_X8_forget : GoodIn wsX8_collect wsX8_forget := goodIn_r _ [16, 4, 17, 18, 19, 20, 21, 22, 23, 24, 25, 26, 27, 28, 29, 30, 31, 32, 33, 34, 35, 36, 37, 38, 39, 40, 41, 42, 43, 44, 45, 46, 47, 48, 49, 50, 51, 52, 53, 54, 55, 56, 57, 58, 59, 60, 61, 62, 63] rfl (by decide +kernel)
set_option maxRecDepth 20000 in
theorem gX8_collect_X8_forget : GoodIn wsX8_collect (wsV RX8 287 RX8 yX8_forget wsX8_forget) := goodIn_app (goodIn_of _ (by decide +kernel)) ggX8_collect_X8_forget
theorem dX8_collect_0 : decode cX8_collect 0 = .ok (.aload_n 0, 1) := by decide +kernel
theorem dX8_collect_1 : decode cX8_collect 1 = .ok (.iconst 0, 1) := by decide +kernel
theorem dX8_collect_2 : decode cX8_collect 2 = .ok (.putfield 118, 3) := by decide +kernel
theorem dX8_collect_5 : decode cX8_collect 5 = .ok (.iconst 0, 1) := by decide +kernel
theorem dX8_collect_6 : decode cX8_collect 6 = .ok (.istore_n 1, 1) := by decide +kernel
theorem dX8_collect_7 : decode cX8_collect 7 = .ok (.iload_n 1, 1) := by decide +kernel
theorem dX8_collect_8 : decode cX8_collect 8 = .ok (.bipush 24, 2) := by decide +kernel
theorem dX8_collect_10 : decode cX8_collect 10 = .ok (.if_icmp .ge 16, 3) := by decide +kernel
theorem dX8_collect_13 : decode cX8_collect 13 = .ok (.aload_n 0, 1) := by decide +kernel
theorem dX8_collect_14 : decode cX8_collect 14 = .ok (.getfield 59, 3) := by decide +kernel
theorem dX8_collect_17 : decode cX8_collect 17 = .ok (.iload_n 1, 1) := by decide +kernel
theorem dX8_collect_18 : decode cX8_collect 18 = .ok (.iconst 0, 1) := by decide +kernel
theorem dX8_collect_19 : decode cX8_collect 19 = .ok (.bastore, 1) := by decide +kernel
theorem dX8_collect_20 : decode cX8_collect 20 = .ok (.iinc 1 1, 3) := by decide +kernel
theorem dX8_collect_23 : decode cX8_collect 23 = .ok (.goto (-16), 3) := by decide +kernel
theorem dX8_collect_26 : decode cX8_collect 26 = .ok (.iconst 0, 1) := by decide +kernel
theorem dX8_collect_27 : decode cX8_collect 27 = .ok (.istore_n 1, 1) := by decide +kernel
theorem dX8_collect_28 : decode cX8_collect 28 = .ok (.iload_n 1, 1) := by decide +kernel
theorem dX8_collect_29 : decode cX8_collect 29 = .ok (.bipush 8, 2) := by decide +kernel
theorem dX8_collect_31 : decode cX8_collect 31 = .ok (.if_icmp .ge 30, 3) := by decide +kernel
theorem dX8_collect_34 : decode cX8_collect 34 = .ok (.aload_n 0, 1) := by decide +kernel
theorem dX8_collect_35 : decode cX8_collect 35 = .ok (.getfield 62, 3) := by decide +kernel
theorem dX8_collect_38 : decode cX8_collect 38 = .ok (.iload_n 1, 1) := by decide +kernel
theorem dX8_collect_39 : decode cX8_collect 39 = .ok (.iaload, 1) := by decide +kernel
theorem dX8_collect_40 : decode cX8_collect 40 = .ok (.ifCond .lt 15, 3) := by decide +kernel
theorem dX8_collect_43 : decode cX8_collect 43 = .ok (.aload_n 0, 1) := by decide +kernel
theorem dX8_collect_44 : decode cX8_collect 44 = .ok (.getfield 59, 3) := by decide +kernel
theorem dX8_collect_47 : decode cX8_collect 47 = .ok (.aload_n 0, 1) := by decide +kernel
theorem dX8_collect_48 : decode cX8_collect 48 = .ok (.getfield 62, 3) := by decide +kernel
theorem dX8_collect_51 : decode cX8_collect 51 = .ok (.iload_n 1, 1) := by decide +kernel
theorem dX8_collect_52 : decode cX8_collect 52 = .ok (.iaload, 1) := by decide +kernel
theorem dX8_collect_53 : decode cX8_collect 53 = .ok (.iconst 1, 1) := by decide +kernel
theorem dX8_collect_54 : decode cX8_collect 54 = .ok (.bastore, 1) := by decide +kernel
theorem dX8_collect_55 : decode cX8_collect 55 = .ok (.iinc 1 1, 3) := by decide +kernel
theorem dX8_collect_58 : decode cX8_collect 58 = .ok (.goto (-30), 3) := by decide +kernel
theorem dX8_collect_61 : decode cX8_collect 61 = .ok (.aload_n 0, 1) := by decide +kernel
theorem dX8_collect_62 : decode cX8_collect 62 = .ok (.invokevirtual 284, 3) := by decide +kernel
theorem dX8_collect_65 : decode cX8_collect 65 = .ok (.iconst 0, 1) := by decide +kernel
theorem dX8_collect_66 : decode cX8_collect 66 = .ok (.istore_n 1, 1) := by decide +kernel
theorem dX8_collect_67 : decode cX8_collect 67 = .ok (.iconst 0, 1) := by decide +kernel
theorem dX8_collect_68 : decode cX8_collect 68 = .ok (.istore_n 2, 1) := by decide +kernel
theorem dX8_collect_69 : decode cX8_collect 69 = .ok (.iload_n 2, 1) := by decide +kernel
theorem dX8_collect_70 : decode cX8_collect 70 = .ok (.bipush 24, 2) := by decide +kernel
theorem dX8_collect_72 : decode cX8_collect 72 = .ok (.if_icmp .ge 42, 3) := by decide +kernel
theorem dX8_collect_75 : decode cX8_collect 75 = .ok (.aload_n 0, 1) := by decide +kernel
theorem dX8_collect_76 : decode cX8_collect 76 = .ok (.getfield 47, 3) := by decide +kernel
theorem dX8_collect_79 : decode cX8_collect 79 = .ok (.iload_n 2, 1) := by decide +kernel
theorem dX8_collect_80 : decode cX8_collect 80 = .ok (.iaload, 1) := by decide +kernel
theorem dX8_collect_81 : decode cX8_collect 81 = .ok (.ifCond .lt 27, 3) := by decide +kernel
theorem dX8_collect_84 : decode cX8_collect 84 = .ok (.aload_n 0, 1) := by decide +kernel
theorem dX8_collect_85 : decode cX8_collect 85 = .ok (.getfield 59, 3) := by decide +kernel
theorem dX8_collect_88 : decode cX8_collect 88 = .ok (.iload_n 2, 1) := by decide +kernel
theorem dX8_collect_89 : decode cX8_collect 89 = .ok (.baload, 1) := by decide +kernel
theorem dX8_collect_90 : decode cX8_collect 90 = .ok (.ifCond .ne 18, 3) := by decide +kernel
theorem dX8_collect_93 : decode cX8_collect 93 = .ok (.aload_n 0, 1) := by decide +kernel
theorem dX8_collect_94 : decode cX8_collect 94 = .ok (.getfield 47, 3) := by decide +kernel
theorem dX8_collect_97 : decode cX8_collect 97 = .ok (.iload_n 2, 1) := by decide +kernel
theorem dX8_collect_98 : decode cX8_collect 98 = .ok (.iconst (-1), 1) := by decide +kernel
theorem dX8_collect_99 : decode cX8_collect 99 = .ok (.iastore, 1) := by decide +kernel
theorem dX8_collect_100 : decode cX8_collect 100 = .ok (.aload_n 0, 1) := by decide +kernel
theorem dX8_collect_101 : decode cX8_collect 101 = .ok (.iload_n 2, 1) := by decide +kernel
theorem dX8_collect_102 : decode cX8_collect 102 = .ok (.invokevirtual 287, 3) := by decide +kernel
theorem dX8_collect_105 : decode cX8_collect 105 = .ok (.iinc 1 1, 3) := by decide +kernel
theorem dX8_collect_108 : decode cX8_collect 108 = .ok (.iinc 2 1, 3) := by decide +kernel
theorem dX8_collect_111 : decode cX8_collect 111 = .ok (.goto (-42), 3) := by decide +kernel
theorem dX8_collect_114 : decode cX8_collect 114 = .ok (.iload_n 1, 1) := by decide +kernel
theorem dX8_collect_115 : decode cX8_collect 115 = .ok (.ireturn, 1) := by decide +kernel
set_option maxRecDepth 20000 in
theorem ggX8_about_X8_isClass : GoodIn wsX8_about wsX8_isClass := goodIn_r _ [8, 9, 20, 21, 22, 23, 24, 25, 26, 27, 28, 29, 30, 31, 32, 33, 34, 35, 36, 37, 38, 39, 40, 41, 42, 43, 44, 45, 46, 47, 48, 49, 50, 51, 52, 53, 54, 55, 56, 57, 58, 59, 60, 61, 62, 63] rfl (by decide +kernel)
set_option maxRecDepth 20000 in
theorem gX8_about_X8_isClass : GoodIn wsX8_about (wsV RX8 128 RX8 yX8_isClass wsX8_isClass) := goodIn_app (goodIn_of _ (by decide +kernel)) ggX8_about_X8_isClass
set_option maxRecDepth 20000 in
theorem ggX8_about_X8_records : GoodIn wsX8_about wsX8_records := goodIn_r _ [13, 14, 20, 21, 22, 23, 24, 25, 26, 27, 28, 29, 30, 31, 32, 33, 34, 35, 36, 37, 38, 39, 40, 41, 42, 43, 44, 45, 46, 47, 48, 49, 50, 51, 52, 53, 54, 55, 56, 57, 58, 59, 60, 61, 62, 63] rfl (by decide +kernel)
set_option maxRecDepth 20000 in
theorem gX8_about_X8_records : GoodIn wsX8_about (wsV RX8 135 RX8 yX8_records wsX8_records) := goodIn_app (goodIn_of _ (by decide +kernel)) ggX8_about_X8_records
set_option maxRecDepth 20000 in
theorem ggX8_about_X8_behind : GoodIn wsX8_about wsX8_behind := goodIn_r _ [18, 14, 19, 2, 20, 21, 22, 23, 24, 25, 26, 27, 28, 29, 30, 31, 32, 33, 34, 35, 36, 37, 38, 39, 40, 41, 42, 43, 44, 45, 46, 47, 48, 49, 50, 51, 52, 53, 54, 55, 56, 57, 58, 59, 60, 61, 62, 63] rfl (by decide +kernel)
set_option maxRecDepth 20000 in
theorem gX8_about_X8_behind : GoodIn wsX8_about (wsV RX8 281 RX8 yX8_behind wsX8_behind) := goodIn_app (goodIn_of _ (by decide +kernel)) ggX8_about_X8_behind
theorem dX8_about_0 : decode cX8_about 0 = .ok (.aload_n 0, 1) := by decide +kernel
theorem dX8_about_1 : decode cX8_about 1 = .ok (.aload_n 0, 1) := by decide +kernel
theorem dX8_about_2 : decode cX8_about 2 = .ok (.iload_n 1, 1) := by decide +kernel
theorem dX8_about_3 : decode cX8_about 3 = .ok (.invokevirtual 128, 3) := by decide +kernel
theorem dX8_about_6 : decode cX8_about 6 = .ok (.ifCond .eq 16, 3) := by decide +kernel
theorem dX8_about_9 : decode cX8_about 9 = .ok (.iload_n 2, 1) := by decide +kernel
theorem dX8_about_10 : decode cX8_about 10 = .ok (.ifCond .lt 12, 3) := by decide +kernel
theorem dX8_about_13 : decode cX8_about 13 = .ok (.iload_n 2, 1) := by decide +kernel
theorem dX8_about_14 : decode cX8_about 14 = .ok (.iconst 3, 1) := by decide +kernel
theorem dX8_about_15 : decode cX8_about 15 = .ok (.if_icmp .gt 7, 3) := by decide +kernel
theorem dX8_about_18 : decode cX8_about 18 = .ok (.iconst 0, 1) := by decide +kernel
theorem dX8_about_19 : decode cX8_about 19 = .ok (.goto 4, 3) := by decide +kernel
theorem dX8_about_22 : decode cX8_about 22 = .ok (.iconst 1, 1) := by decide +kernel
theorem dX8_about_23 : decode cX8_about 23 = .ok (.putfield 118, 3) := by decide +kernel
theorem dX8_about_26 : decode cX8_about 26 = .ok (.aload_n 0, 1) := by decide +kernel
theorem dX8_about_27 : decode cX8_about 27 = .ok (.getfield 118, 3) := by decide +kernel
theorem dX8_about_30 : decode cX8_about 30 = .ok (.ifCond .le 5, 3) := by decide +kernel
theorem dX8_about_33 : decode cX8_about 33 = .ok (.iconst 0, 1) := by decide +kernel
theorem dX8_about_34 : decode cX8_about 34 = .ok (.ireturn, 1) := by decide +kernel
theorem dX8_about_35 : decode cX8_about 35 = .ok (.iload_n 2, 1) := by decide +kernel
theorem dX8_about_36 : decode cX8_about 36 = .ok (.ifCond .ne 12, 3) := by decide +kernel
theorem dX8_about_39 : decode cX8_about 39 = .ok (.aload_n 0, 1) := by decide +kernel
theorem dX8_about_40 : decode cX8_about 40 = .ok (.getfield 7, 3) := by decide +kernel
theorem dX8_about_43 : decode cX8_about 43 = .ok (.iload_n 1, 1) := by decide +kernel
theorem dX8_about_44 : decode cX8_about 44 = .ok (.iaload, 1) := by decide +kernel
theorem dX8_about_45 : decode cX8_about 45 = .ok (.goto 35, 3) := by decide +kernel
theorem dX8_about_48 : decode cX8_about 48 = .ok (.iload_n 2, 1) := by decide +kernel
theorem dX8_about_49 : decode cX8_about 49 = .ok (.iconst 1, 1) := by decide +kernel
theorem dX8_about_50 : decode cX8_about 50 = .ok (.if_icmp .ne 11, 3) := by decide +kernel
theorem dX8_about_53 : decode cX8_about 53 = .ok (.aload_n 0, 1) := by decide +kernel
theorem dX8_about_54 : decode cX8_about 54 = .ok (.iload_n 1, 1) := by decide +kernel
theorem dX8_about_55 : decode cX8_about 55 = .ok (.invokevirtual 135, 3) := by decide +kernel
theorem dX8_about_58 : decode cX8_about 58 = .ok (.goto 22, 3) := by decide +kernel
theorem dX8_about_61 : decode cX8_about 61 = .ok (.iload_n 2, 1) := by decide +kernel
theorem dX8_about_62 : decode cX8_about 62 = .ok (.iconst 2, 1) := by decide +kernel
theorem dX8_about_63 : decode cX8_about 63 = .ok (.if_icmp .ne 11, 3) := by decide +kernel
theorem dX8_about_66 : decode cX8_about 66 = .ok (.aload_n 0, 1) := by decide +kernel
theorem dX8_about_67 : decode cX8_about 67 = .ok (.iload_n 1, 1) := by decide +kernel
theorem dX8_about_68 : decode cX8_about 68 = .ok (.invokevirtual 281, 3) := by decide +kernel
theorem dX8_about_71 : decode cX8_about 71 = .ok (.goto 9, 3) := by decide +kernel
theorem dX8_about_74 : decode cX8_about 74 = .ok (.aload_n 0, 1) := by decide +kernel
theorem dX8_about_75 : decode cX8_about 75 = .ok (.getfield 17, 3) := by decide +kernel
theorem dX8_about_78 : decode cX8_about 78 = .ok (.iload_n 1, 1) := by decide +kernel
theorem dX8_about_79 : decode cX8_about 79 = .ok (.iaload, 1) := by decide +kernel
theorem dX8_about_80 : decode cX8_about 80 = .ok (.ireturn, 1) := by decide +kernel
set_option maxRecDepth 20000 in
theorem ggX8_field_X8_isClass : GoodIn wsX8_field wsX8_isClass := goodIn_r _ [11, 12, 13, 14, 15, 16, 17, 18, 19, 20, 21, 22, 23, 24, 25, 26, 27, 28, 29, 30, 31, 32, 33, 34, 35, 36, 37, 38, 39, 40, 41, 42, 43, 44, 45, 46, 47, 48, 49, 50, 51, 52, 53, 54, 55, 56] rfl (by decide +kernel)
set_option maxRecDepth 20000 in
theorem gX8_field_X8_isClass : GoodIn wsX8_field (wsV RX8 128 RX8 yX8_isClass wsX8_isClass) := goodIn_app (goodIn_of _ (by decide +kernel)) ggX8_field_X8_isClass
theorem dX8_field_0 : decode cX8_field 0 = .ok (.aload_n 0, 1) := by decide +kernel
theorem dX8_field_1 : decode cX8_field 1 = .ok (.aload_n 0, 1) := by decide +kernel
theorem dX8_field_2 : decode cX8_field 2 = .ok (.iload_n 1, 1) := by decide +kernel
theorem dX8_field_3 : decode cX8_field 3 = .ok (.invokevirtual 128, 3) := by decide +kernel
theorem dX8_field_6 : decode cX8_field 6 = .ok (.ifCond .eq 12, 3) := by decide +kernel
theorem dX8_field_9 : decode cX8_field 9 = .ok (.iload_n 3, 1) := by decide +kernel
theorem dX8_field_10 : decode cX8_field 10 = .ok (.ifCond .lt 8, 3) := by decide +kernel
theorem dX8_field_13 : decode cX8_field 13 = .ok (.iload_n 3, 1) := by decide +kernel
theorem dX8_field_14 : decode cX8_field 14 = .ok (.iconst 3, 1) := by decide +kernel
theorem dX8_field_15 : decode cX8_field 15 = .ok (.if_icmp .le 7, 3) := by decide +kernel
theorem dX8_field_18 : decode cX8_field 18 = .ok (.iconst 1, 1) := by decide +kernel
theorem dX8_field_19 : decode cX8_field 19 = .ok (.goto 22, 3) := by decide +kernel
theorem dX8_field_22 : decode cX8_field 22 = .ok (.iload_n 2, 1) := by decide +kernel
theorem dX8_field_23 : decode cX8_field 23 = .ok (.ifCond .lt 13, 3) := by decide +kernel
theorem dX8_field_26 : decode cX8_field 26 = .ok (.iload_n 2, 1) := by decide +kernel
theorem dX8_field_27 : decode cX8_field 27 = .ok (.aload_n 0, 1) := by decide +kernel
theorem dX8_field_28 : decode cX8_field 28 = .ok (.getfield 17, 3) := by decide +kernel
theorem dX8_field_31 : decode cX8_field 31 = .ok (.iload_n 1, 1) := by decide +kernel
theorem dX8_field_32 : decode cX8_field 32 = .ok (.iaload, 1) := by decide +kernel
theorem dX8_field_33 : decode cX8_field 33 = .ok (.if_icmp .lt 7, 3) := by decide +kernel
theorem dX8_field_36 : decode cX8_field 36 = .ok (.iconst 2, 1) := by decide +kernel
theorem dX8_field_37 : decode cX8_field 37 = .ok (.goto 4, 3) := by decide +kernel
theorem dX8_field_40 : decode cX8_field 40 = .ok (.iconst 0, 1) := by decide +kernel
theorem dX8_field_41 : decode cX8_field 41 = .ok (.putfield 118, 3) := by decide +kernel
theorem dX8_field_44 : decode cX8_field 44 = .ok (.aload_n 0, 1) := by decide +kernel
theorem dX8_field_45 : decode cX8_field 45 = .ok (.getfield 118, 3) := by decide +kernel
theorem dX8_field_48 : decode cX8_field 48 = .ok (.ifCond .le 5, 3) := by decide +kernel
theorem dX8_field_51 : decode cX8_field 51 = .ok (.iconst 0, 1) := by decide +kernel
theorem dX8_field_52 : decode cX8_field 52 = .ok (.ireturn, 1) := by decide +kernel
theorem dX8_field_53 : decode cX8_field 53 = .ok (.bipush 6, 2) := by decide +kernel
theorem dX8_field_55 : decode cX8_field 55 = .ok (.iload_n 1, 1) := by decide +kernel
theorem dX8_field_56 : decode cX8_field 56 = .ok (.imul, 1) := by decide +kernel
theorem dX8_field_57 : decode cX8_field 57 = .ok (.iload_n 2, 1) := by decide +kernel
theorem dX8_field_58 : decode cX8_field 58 = .ok (.iadd, 1) := by decide +kernel
theorem dX8_field_59 : decode cX8_field 59 = .ok (.istore 4, 2) := by decide +kernel
theorem dX8_field_61 : decode cX8_field 61 = .ok (.iload_n 3, 1) := by decide +kernel
theorem dX8_field_62 : decode cX8_field 62 = .ok (.ifCond .ne 13, 3) := by decide +kernel
theorem dX8_field_65 : decode cX8_field 65 = .ok (.aload_n 0, 1) := by decide +kernel
theorem dX8_field_66 : decode cX8_field 66 = .ok (.getfield 20, 3) := by decide +kernel
theorem dX8_field_69 : decode cX8_field 69 = .ok (.iload 4, 2) := by decide +kernel
theorem dX8_field_71 : decode cX8_field 71 = .ok (.iaload, 1) := by decide +kernel
theorem dX8_field_72 : decode cX8_field 72 = .ok (.goto 40, 3) := by decide +kernel
theorem dX8_field_75 : decode cX8_field 75 = .ok (.iload_n 3, 1) := by decide +kernel
theorem dX8_field_76 : decode cX8_field 76 = .ok (.iconst 1, 1) := by decide +kernel
theorem dX8_field_77 : decode cX8_field 77 = .ok (.if_icmp .ne 13, 3) := by decide +kernel
theorem dX8_field_80 : decode cX8_field 80 = .ok (.aload_n 0, 1) := by decide +kernel
theorem dX8_field_81 : decode cX8_field 81 = .ok (.getfield 23, 3) := by decide +kernel
theorem dX8_field_84 : decode cX8_field 84 = .ok (.iload 4, 2) := by decide +kernel
theorem dX8_field_86 : decode cX8_field 86 = .ok (.iaload, 1) := by decide +kernel
theorem dX8_field_87 : decode cX8_field 87 = .ok (.goto 25, 3) := by decide +kernel
theorem dX8_field_90 : decode cX8_field 90 = .ok (.iload_n 3, 1) := by decide +kernel
theorem dX8_field_91 : decode cX8_field 91 = .ok (.iconst 2, 1) := by decide +kernel
theorem dX8_field_92 : decode cX8_field 92 = .ok (.if_icmp .ne 13, 3) := by decide +kernel
theorem dX8_field_95 : decode cX8_field 95 = .ok (.aload_n 0, 1) := by decide +kernel
theorem dX8_field_96 : decode cX8_field 96 = .ok (.getfield 26, 3) := by decide +kernel
theorem dX8_field_99 : decode cX8_field 99 = .ok (.iload 4, 2) := by decide +kernel
theorem dX8_field_101 : decode cX8_field 101 = .ok (.iaload, 1) := by decide +kernel
theorem dX8_field_102 : decode cX8_field 102 = .ok (.goto 10, 3) := by decide +kernel
theorem dX8_field_105 : decode cX8_field 105 = .ok (.aload_n 0, 1) := by decide +kernel
theorem dX8_field_106 : decode cX8_field 106 = .ok (.getfield 29, 3) := by decide +kernel
theorem dX8_field_109 : decode cX8_field 109 = .ok (.iload 4, 2) := by decide +kernel
theorem dX8_field_111 : decode cX8_field 111 = .ok (.iaload, 1) := by decide +kernel
theorem dX8_field_112 : decode cX8_field 112 = .ok (.ireturn, 1) := by decide +kernel
theorem dX8_fault_0 : decode cX8_fault 0 = .ok (.aload_n 0, 1) := by decide +kernel
theorem dX8_fault_1 : decode cX8_fault 1 = .ok (.iconst 0, 1) := by decide +kernel
theorem dX8_fault_2 : decode cX8_fault 2 = .ok (.putfield 118, 3) := by decide +kernel
theorem dX8_fault_5 : decode cX8_fault 5 = .ok (.aload_n 0, 1) := by decide +kernel
theorem dX8_fault_6 : decode cX8_fault 6 = .ok (.getfield 77, 3) := by decide +kernel
theorem dX8_fault_9 : decode cX8_fault 9 = .ok (.ireturn, 1) := by decide +kernel
theorem dJ9_abs_067f4_0 : decode cJ9_abs_067f4 0 = .ok (.lload_n 0, 1) := by decide +kernel
theorem dJ9_abs_067f4_1 : decode cJ9_abs_067f4 1 = .ok (.lconst 0, 1) := by decide +kernel
theorem dJ9_abs_067f4_2 : decode cJ9_abs_067f4 2 = .ok (.lcmp, 1) := by decide +kernel
theorem dJ9_abs_067f4_3 : decode cJ9_abs_067f4 3 = .ok (.ifCond .ge 8, 3) := by decide +kernel
theorem dJ9_abs_067f4_6 : decode cJ9_abs_067f4 6 = .ok (.lload_n 0, 1) := by decide +kernel
theorem dJ9_abs_067f4_7 : decode cJ9_abs_067f4 7 = .ok (.lneg, 1) := by decide +kernel
theorem dJ9_abs_067f4_8 : decode cJ9_abs_067f4 8 = .ok (.goto 4, 3) := by decide +kernel
theorem dJ9_abs_067f4_11 : decode cJ9_abs_067f4 11 = .ok (.lload_n 0, 1) := by decide +kernel
theorem dJ9_abs_067f4_12 : decode cJ9_abs_067f4 12 = .ok (.lreturn, 1) := by decide +kernel
theorem dJ9_max_7cf53_0 : decode cJ9_max_7cf53 0 = .ok (.iload_n 0, 1) := by decide +kernel
theorem dJ9_max_7cf53_1 : decode cJ9_max_7cf53 1 = .ok (.iload_n 1, 1) := by decide +kernel
theorem dJ9_max_7cf53_2 : decode cJ9_max_7cf53 2 = .ok (.if_icmp .lt 7, 3) := by decide +kernel
theorem dJ9_max_7cf53_5 : decode cJ9_max_7cf53 5 = .ok (.iload_n 0, 1) := by decide +kernel
theorem dJ9_max_7cf53_6 : decode cJ9_max_7cf53 6 = .ok (.goto 4, 3) := by decide +kernel
theorem dJ9_max_7cf53_9 : decode cJ9_max_7cf53 9 = .ok (.iload_n 1, 1) := by decide +kernel
theorem dJ9_max_7cf53_10 : decode cJ9_max_7cf53 10 = .ok (.ireturn, 1) := by decide +kernel
theorem dJ9_max_f86c9_0 : decode cJ9_max_f86c9 0 = .ok (.lload_n 0, 1) := by decide +kernel
theorem dJ9_max_f86c9_1 : decode cJ9_max_f86c9 1 = .ok (.lload_n 2, 1) := by decide +kernel
theorem dJ9_max_f86c9_2 : decode cJ9_max_f86c9 2 = .ok (.lcmp, 1) := by decide +kernel
theorem dJ9_max_f86c9_3 : decode cJ9_max_f86c9 3 = .ok (.ifCond .lt 7, 3) := by decide +kernel
theorem dJ9_max_f86c9_6 : decode cJ9_max_f86c9 6 = .ok (.lload_n 0, 1) := by decide +kernel
theorem dJ9_max_f86c9_7 : decode cJ9_max_f86c9 7 = .ok (.goto 4, 3) := by decide +kernel
theorem dJ9_max_f86c9_10 : decode cJ9_max_f86c9 10 = .ok (.lload_n 2, 1) := by decide +kernel
theorem dJ9_max_f86c9_11 : decode cJ9_max_f86c9 11 = .ok (.lreturn, 1) := by decide +kernel
theorem dJ9_min_7cf53_0 : decode cJ9_min_7cf53 0 = .ok (.iload_n 0, 1) := by decide +kernel
theorem dJ9_min_7cf53_1 : decode cJ9_min_7cf53 1 = .ok (.iload_n 1, 1) := by decide +kernel
theorem dJ9_min_7cf53_2 : decode cJ9_min_7cf53 2 = .ok (.if_icmp .gt 7, 3) := by decide +kernel
theorem dJ9_min_7cf53_5 : decode cJ9_min_7cf53 5 = .ok (.iload_n 0, 1) := by decide +kernel
theorem dJ9_min_7cf53_6 : decode cJ9_min_7cf53 6 = .ok (.goto 4, 3) := by decide +kernel
theorem dJ9_min_7cf53_9 : decode cJ9_min_7cf53 9 = .ok (.iload_n 1, 1) := by decide +kernel
theorem dJ9_min_7cf53_10 : decode cJ9_min_7cf53 10 = .ok (.ireturn, 1) := by decide +kernel
theorem dJ9_min_f86c9_0 : decode cJ9_min_f86c9 0 = .ok (.lload_n 0, 1) := by decide +kernel
theorem dJ9_min_f86c9_1 : decode cJ9_min_f86c9 1 = .ok (.lload_n 2, 1) := by decide +kernel
theorem dJ9_min_f86c9_2 : decode cJ9_min_f86c9 2 = .ok (.lcmp, 1) := by decide +kernel
theorem dJ9_min_f86c9_3 : decode cJ9_min_f86c9 3 = .ok (.ifCond .gt 7, 3) := by decide +kernel
theorem dJ9_min_f86c9_6 : decode cJ9_min_f86c9 6 = .ok (.lload_n 0, 1) := by decide +kernel
theorem dJ9_min_f86c9_7 : decode cJ9_min_f86c9 7 = .ok (.goto 4, 3) := by decide +kernel
theorem dJ9_min_f86c9_10 : decode cJ9_min_f86c9 10 = .ok (.lload_n 2, 1) := by decide +kernel
theorem dJ9_min_f86c9_11 : decode cJ9_min_f86c9 11 = .ok (.lreturn, 1) := by decide +kernel
theorem dL_newClass_0 : decode cL_newClass 0 = .ok (.aload_n 1, 1) := by decide +kernel
theorem dL_newClass_1 : decode cL_newClass 1 = .ok (.iconst 0, 1) := by decide +kernel
theorem dL_newClass_2 : decode cL_newClass 2 = .ok (.aload_n 0, 1) := by decide +kernel
theorem dL_newClass_3 : decode cL_newClass 3 = .ok (.invokevirtual 7, 3) := by decide +kernel
theorem dL_newClass_6 : decode cL_newClass 6 = .ok (.i2l, 1) := by decide +kernel
theorem dL_newClass_7 : decode cL_newClass 7 = .ok (.lastore, 1) := by decide +kernel
theorem dL_newClass_8 : decode cL_newClass 8 = .ok (.goto 6, 3) := by decide +kernel
theorem dL_newClass_11 : decode cL_newClass 11 = .ok (.astore_n 2, 1) := by decide +kernel
theorem dL_newClass_12 : decode cL_newClass 12 = .ok (.iconst 1, 1) := by decide +kernel
theorem dL_newClass_13 : decode cL_newClass 13 = .ok (.ireturn, 1) := by decide +kernel
theorem dL_newClass_14 : decode cL_newClass 14 = .ok (.iconst 0, 1) := by decide +kernel
theorem dL_newClass_15 : decode cL_newClass 15 = .ok (.ireturn, 1) := by decide +kernel
