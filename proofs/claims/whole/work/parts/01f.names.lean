theorem dX8_set_9 : decode cX8_set 9 = .ok (.iload 4, 2) := by decide +kernel
theorem dX8_set_11 : decode cX8_set 11 = .ok (.ifCond .ge 4, 3) := by decide +kernel
theorem dX8_set_14 : decode cX8_set 14 = .ok (.return_, 1) := by decide +kernel
theorem dX8_set_15 : decode cX8_set 15 = .ok (.aload_n 0, 1) := by decide +kernel
theorem dX8_set_16 : decode cX8_set 16 = .ok (.getfield 62, 3) := by decide +kernel
theorem dX8_set_19 : decode cX8_set 19 = .ok (.iload_n 1, 1) := by decide +kernel
theorem dX8_set_20 : decode cX8_set 20 = .ok (.iaload, 1) := by decide +kernel
theorem dX8_set_21 : decode cX8_set 21 = .ok (.istore 5, 2) := by decide +kernel
theorem dX8_set_23 : decode cX8_set 23 = .ok (.bipush 6, 2) := by decide +kernel
theorem dX8_set_25 : decode cX8_set 25 = .ok (.aload_n 0, 1) := by decide +kernel
theorem dX8_set_26 : decode cX8_set 26 = .ok (.getfield 47, 3) := by decide +kernel
theorem dX8_set_29 : decode cX8_set 29 = .ok (.iload 5, 2) := by decide +kernel
theorem dX8_set_31 : decode cX8_set 31 = .ok (.iaload, 1) := by decide +kernel
theorem dX8_set_32 : decode cX8_set 32 = .ok (.imul, 1) := by decide +kernel
theorem dX8_set_33 : decode cX8_set 33 = .ok (.iload 4, 2) := by decide +kernel
theorem dX8_set_35 : decode cX8_set 35 = .ok (.iadd, 1) := by decide +kernel
theorem dX8_set_36 : decode cX8_set 36 = .ok (.istore 6, 2) := by decide +kernel
theorem dX8_set_38 : decode cX8_set 38 = .ok (.aload_n 0, 1) := by decide +kernel
theorem dX8_set_39 : decode cX8_set 39 = .ok (.iload_n 3, 1) := by decide +kernel
theorem dX8_set_40 : decode cX8_set 40 = .ok (.aload_n 0, 1) := by decide +kernel
theorem dX8_set_41 : decode cX8_set 41 = .ok (.getfield 26, 3) := by decide +kernel
theorem dX8_set_44 : decode cX8_set 44 = .ok (.iload 6, 2) := by decide +kernel
theorem dX8_set_46 : decode cX8_set 46 = .ok (.iaload, 1) := by decide +kernel
theorem dX8_set_47 : decode cX8_set 47 = .ok (.if_icmp .lt 14, 3) := by decide +kernel
theorem dX8_set_50 : decode cX8_set 50 = .ok (.iload_n 3, 1) := by decide +kernel
theorem dX8_set_51 : decode cX8_set 51 = .ok (.aload_n 0, 1) := by decide +kernel
theorem dX8_set_52 : decode cX8_set 52 = .ok (.getfield 29, 3) := by decide +kernel
theorem dX8_set_55 : decode cX8_set 55 = .ok (.iload 6, 2) := by decide +kernel
theorem dX8_set_57 : decode cX8_set 57 = .ok (.iaload, 1) := by decide +kernel
theorem dX8_set_58 : decode cX8_set 58 = .ok (.if_icmp .le 7, 3) := by decide +kernel
theorem dX8_set_61 : decode cX8_set 61 = .ok (.iconst 3, 1) := by decide +kernel
theorem dX8_set_62 : decode cX8_set 62 = .ok (.goto 4, 3) := by decide +kernel
theorem dX8_set_65 : decode cX8_set 65 = .ok (.iconst 0, 1) := by decide +kernel
theorem dX8_set_66 : decode cX8_set 66 = .ok (.putfield 118, 3) := by decide +kernel
theorem dX8_set_69 : decode cX8_set 69 = .ok (.aload_n 0, 1) := by decide +kernel
theorem dX8_set_70 : decode cX8_set 70 = .ok (.getfield 118, 3) := by decide +kernel
theorem dX8_set_73 : decode cX8_set 73 = .ok (.ifCond .ne 36, 3) := by decide +kernel
theorem dX8_set_76 : decode cX8_set 76 = .ok (.aload_n 0, 1) := by decide +kernel
theorem dX8_set_77 : decode cX8_set 77 = .ok (.iload 5, 2) := by decide +kernel
theorem dX8_set_79 : decode cX8_set 79 = .ok (.invokevirtual 156, 3) := by decide +kernel
theorem dX8_set_82 : decode cX8_set 82 = .ok (.aload_n 0, 1) := by decide +kernel
theorem dX8_set_83 : decode cX8_set 83 = .ok (.getfield 53, 3) := by decide +kernel
theorem dX8_set_86 : decode cX8_set 86 = .ok (.bipush 6, 2) := by decide +kernel
theorem dX8_set_88 : decode cX8_set 88 = .ok (.iload 5, 2) := by decide +kernel
theorem dX8_set_90 : decode cX8_set 90 = .ok (.imul, 1) := by decide +kernel
theorem dX8_set_91 : decode cX8_set 91 = .ok (.iload 4, 2) := by decide +kernel
theorem dX8_set_93 : decode cX8_set 93 = .ok (.iadd, 1) := by decide +kernel
theorem dX8_set_94 : decode cX8_set 94 = .ok (.iload_n 3, 1) := by decide +kernel
theorem dX8_set_95 : decode cX8_set 95 = .ok (.iastore, 1) := by decide +kernel
theorem dX8_set_96 : decode cX8_set 96 = .ok (.aload_n 0, 1) := by decide +kernel
theorem dX8_set_97 : decode cX8_set 97 = .ok (.getfield 13, 3) := by decide +kernel
theorem dX8_set_100 : decode cX8_set 100 = .ok (.aload_n 0, 1) := by decide +kernel
theorem dX8_set_101 : decode cX8_set 101 = .ok (.getfield 47, 3) := by decide +kernel
theorem dX8_set_104 : decode cX8_set 104 = .ok (.iload 5, 2) := by decide +kernel
theorem dX8_set_106 : decode cX8_set 106 = .ok (.iaload, 1) := by decide +kernel
theorem dX8_set_107 : decode cX8_set 107 = .ok (.iconst 0, 1) := by decide +kernel
theorem dX8_set_108 : decode cX8_set 108 = .ok (.bastore, 1) := by decide +kernel
theorem dX8_set_109 : decode cX8_set 109 = .ok (.return_, 1) := by decide +kernel
theorem dX8_isOwned_0 : decode cX8_isOwned 0 = .ok (.iconst 0, 1) := by decide +kernel
theorem dX8_isOwned_1 : decode cX8_isOwned 1 = .ok (.istore_n 2, 1) := by decide +kernel
theorem dX8_isOwned_2 : decode cX8_isOwned 2 = .ok (.iconst 0, 1) := by decide +kernel
theorem dX8_isOwned_3 : decode cX8_isOwned 3 = .ok (.istore_n 3, 1) := by decide +kernel
theorem dX8_isOwned_4 : decode cX8_isOwned 4 = .ok (.iload_n 3, 1) := by decide +kernel
theorem dX8_isOwned_5 : decode cX8_isOwned 5 = .ok (.bipush 24, 2) := by decide +kernel
theorem dX8_isOwned_7 : decode cX8_isOwned 7 = .ok (.if_icmp .ge 90, 3) := by decide +kernel
theorem dX8_isOwned_10 : decode cX8_isOwned 10 = .ok (.iconst 0, 1) := by decide +kernel
theorem dX8_isOwned_11 : decode cX8_isOwned 11 = .ok (.istore 4, 2) := by decide +kernel
theorem dX8_isOwned_13 : decode cX8_isOwned 13 = .ok (.aload_n 0, 1) := by decide +kernel
theorem dX8_isOwned_14 : decode cX8_isOwned 14 = .ok (.getfield 47, 3) := by decide +kernel
theorem dX8_isOwned_17 : decode cX8_isOwned 17 = .ok (.iload_n 3, 1) := by decide +kernel
theorem dX8_isOwned_18 : decode cX8_isOwned 18 = .ok (.iaload, 1) := by decide +kernel
theorem dX8_isOwned_19 : decode cX8_isOwned 19 = .ok (.ifCond .lt 72, 3) := by decide +kernel
theorem dX8_isOwned_22 : decode cX8_isOwned 22 = .ok (.iload 4, 2) := by decide +kernel
theorem dX8_isOwned_24 : decode cX8_isOwned 24 = .ok (.aload_n 0, 1) := by decide +kernel
theorem dX8_isOwned_25 : decode cX8_isOwned 25 = .ok (.getfield 17, 3) := by decide +kernel
theorem dX8_isOwned_28 : decode cX8_isOwned 28 = .ok (.aload_n 0, 1) := by decide +kernel
theorem dX8_isOwned_29 : decode cX8_isOwned 29 = .ok (.getfield 47, 3) := by decide +kernel
theorem dX8_isOwned_32 : decode cX8_isOwned 32 = .ok (.iload_n 3, 1) := by decide +kernel
theorem dX8_isOwned_33 : decode cX8_isOwned 33 = .ok (.iaload, 1) := by decide +kernel
theorem dX8_isOwned_34 : decode cX8_isOwned 34 = .ok (.iaload, 1) := by decide +kernel
theorem dX8_isOwned_35 : decode cX8_isOwned 35 = .ok (.if_icmp .ge 56, 3) := by decide +kernel
theorem dX8_isOwned_38 : decode cX8_isOwned 38 = .ok (.iload_n 2, 1) := by decide +kernel
theorem dX8_isOwned_39 : decode cX8_isOwned 39 = .ok (.ifCond .ne 40, 3) := by decide +kernel
theorem dX8_isOwned_42 : decode cX8_isOwned 42 = .ok (.aload_n 0, 1) := by decide +kernel
theorem dX8_isOwned_43 : decode cX8_isOwned 43 = .ok (.getfield 23, 3) := by decide +kernel
theorem dX8_isOwned_46 : decode cX8_isOwned 46 = .ok (.bipush 6, 2) := by decide +kernel
theorem dX8_isOwned_48 : decode cX8_isOwned 48 = .ok (.aload_n 0, 1) := by decide +kernel
theorem dX8_isOwned_49 : decode cX8_isOwned 49 = .ok (.getfield 47, 3) := by decide +kernel
theorem dX8_isOwned_52 : decode cX8_isOwned 52 = .ok (.iload_n 3, 1) := by decide +kernel
theorem dX8_isOwned_53 : decode cX8_isOwned 53 = .ok (.iaload, 1) := by decide +kernel
theorem dX8_isOwned_54 : decode cX8_isOwned 54 = .ok (.imul, 1) := by decide +kernel
theorem dX8_isOwned_55 : decode cX8_isOwned 55 = .ok (.iload 4, 2) := by decide +kernel
theorem dX8_isOwned_57 : decode cX8_isOwned 57 = .ok (.iadd, 1) := by decide +kernel
theorem dX8_isOwned_58 : decode cX8_isOwned 58 = .ok (.iaload, 1) := by decide +kernel
theorem dX8_isOwned_59 : decode cX8_isOwned 59 = .ok (.iconst 2, 1) := by decide +kernel
theorem dX8_isOwned_60 : decode cX8_isOwned 60 = .ok (.if_icmp .ne 23, 3) := by decide +kernel
theorem dX8_isOwned_63 : decode cX8_isOwned 63 = .ok (.aload_n 0, 1) := by decide +kernel
theorem dX8_isOwned_64 : decode cX8_isOwned 64 = .ok (.getfield 53, 3) := by decide +kernel
theorem dX8_isOwned_67 : decode cX8_isOwned 67 = .ok (.bipush 6, 2) := by decide +kernel
theorem dX8_isOwned_69 : decode cX8_isOwned 69 = .ok (.iload_n 3, 1) := by decide +kernel
theorem dX8_isOwned_70 : decode cX8_isOwned 70 = .ok (.imul, 1) := by decide +kernel
theorem dX8_isOwned_71 : decode cX8_isOwned 71 = .ok (.iload 4, 2) := by decide +kernel
theorem dX8_isOwned_73 : decode cX8_isOwned 73 = .ok (.iadd, 1) := by decide +kernel
theorem dX8_isOwned_74 : decode cX8_isOwned 74 = .ok (.iaload, 1) := by decide +kernel
theorem dX8_isOwned_75 : decode cX8_isOwned 75 = .ok (.iload_n 1, 1) := by decide +kernel
theorem dX8_isOwned_76 : decode cX8_isOwned 76 = .ok (.if_icmp .ne 7, 3) := by decide +kernel
theorem dX8_isOwned_79 : decode cX8_isOwned 79 = .ok (.iconst 1, 1) := by decide +kernel
theorem dX8_isOwned_80 : decode cX8_isOwned 80 = .ok (.goto 4, 3) := by decide +kernel
theorem dX8_isOwned_83 : decode cX8_isOwned 83 = .ok (.iconst 0, 1) := by decide +kernel
theorem dX8_isOwned_84 : decode cX8_isOwned 84 = .ok (.istore_n 2, 1) := by decide +kernel
theorem dX8_isOwned_85 : decode cX8_isOwned 85 = .ok (.iinc 4 1, 3) := by decide +kernel
theorem dX8_isOwned_88 : decode cX8_isOwned 88 = .ok (.goto (-75), 3) := by decide +kernel
theorem dX8_isOwned_91 : decode cX8_isOwned 91 = .ok (.iinc 3 1, 3) := by decide +kernel
theorem dX8_isOwned_94 : decode cX8_isOwned 94 = .ok (.goto (-90), 3) := by decide +kernel
theorem dX8_isOwned_97 : decode cX8_isOwned 97 = .ok (.iload_n 2, 1) := by decide +kernel
theorem dX8_isOwned_98 : decode cX8_isOwned 98 = .ok (.ireturn, 1) := by decide +kernel
set_option maxRecDepth 20000 in
theorem ggX8_link_X8_isRoot : GoodIn wsX8_link wsX8_isRoot := goodIn_r _ [11] (by decide +kernel) (by decide +kernel)
set_option maxRecDepth 20000 in
theorem gX8_link_X8_isRoot : GoodIn wsX8_link (va_wsS RX8 132 yX8_isRoot wsX8_isRoot) := goodIn_app (goodIn_of _ (by decide +kernel)) ggX8_link_X8_isRoot
set_option maxRecDepth 20000 in
theorem ggX8_link_X8_place : GoodIn wsX8_link wsX8_place := goodIn_r _ [15, 2, 1, 3, 4, 8, 9, 10, 11, 16, 17, 18, 19, 20, 21, 22, 23, 24, 35, 36, 37, 38, 39, 40, 41, 42, 43, 44, 45, 46, 47, 48, 49, 50, 51, 52, 53, 54, 55, 56, 57, 58, 59, 60, 61, 62, 63, 64, 65, 66, 67, 68, 69, 70, 71, 72, 73, 74, 75, 76, 77, 78] (by decide +kernel) (by decide +kernel)
set_option maxRecDepth 20000 in
theorem gX8_link_X8_place : GoodIn wsX8_link (wsV RX8 152 RX8 yX8_place wsX8_place) := goodIn_app (goodIn_of _ (by decide +kernel)) ggX8_link_X8_place
set_option maxRecDepth 20000 in
theorem ggX8_link_X8_isOwned : GoodIn wsX8_link wsX8_isOwned := goodIn_r _ [28, 3, 23, 4, 6, 35, 36, 37, 38, 39, 40, 41, 42, 43, 44, 45, 46, 47, 48, 49, 50, 51, 52, 53, 54, 55, 56, 57, 58, 59, 60, 61, 62, 63, 64, 65, 66, 67, 68, 69, 70, 71, 72, 73, 74, 75, 76, 77, 78] (by decide +kernel) (by decide +kernel)
set_option maxRecDepth 20000 in
theorem gX8_link_X8_isOwned : GoodIn wsX8_link (wsV RX8 160 RX8 yX8_isOwned wsX8_isOwned) := goodIn_app (goodIn_of _ (by decide +kernel)) ggX8_link_X8_isOwned
set_option maxRecDepth 20000 in
theorem ggX8_link_X8_touchRecord : GoodIn wsX8_link wsX8_touchRecord := goodIn_r _ [32, 33, 34, 3, 35, 36, 37, 38, 39, 40, 41, 42, 43, 44, 45, 46, 47, 48, 49, 50, 51, 52, 53, 54, 55, 56, 57, 58, 59, 60, 61, 62, 63, 64, 65, 66, 67, 68, 69, 70, 71, 72, 73, 74, 75, 76, 77, 78] (by decide +kernel) (by decide +kernel)
set_option maxRecDepth 20000 in
theorem gX8_link_X8_touchRecord : GoodIn wsX8_link (wsV RX8 156 RX8 yX8_touchRecord wsX8_touchRecord) := goodIn_app (goodIn_of _ (by decide +kernel)) ggX8_link_X8_touchRecord
theorem dX8_link_0 : decode cX8_link 0 = .ok (.iload_n 3, 1) := by decide +kernel
theorem dX8_link_1 : decode cX8_link 1 = .ok (.invokestatic 132, 3) := by decide +kernel
theorem dX8_link_4 : decode cX8_link 4 = .ok (.ifCond .ne 9, 3) := by decide +kernel
theorem dX8_link_7 : decode cX8_link 7 = .ok (.aload_n 0, 1) := by decide +kernel
theorem dX8_link_8 : decode cX8_link 8 = .ok (.iconst 1, 1) := by decide +kernel
theorem dX8_link_9 : decode cX8_link 9 = .ok (.putfield 118, 3) := by decide +kernel
theorem dX8_link_12 : decode cX8_link 12 = .ok (.return_, 1) := by decide +kernel
theorem dX8_link_13 : decode cX8_link 13 = .ok (.aload_n 0, 1) := by decide +kernel
theorem dX8_link_14 : decode cX8_link 14 = .ok (.iload_n 1, 1) := by decide +kernel
theorem dX8_link_15 : decode cX8_link 15 = .ok (.iload_n 2, 1) := by decide +kernel
theorem dX8_link_16 : decode cX8_link 16 = .ok (.iconst 0, 1) := by decide +kernel
theorem dX8_link_17 : decode cX8_link 17 = .ok (.invokevirtual 152, 3) := by decide +kernel
theorem dX8_link_20 : decode cX8_link 20 = .ok (.istore 4, 2) := by decide +kernel
theorem dX8_link_22 : decode cX8_link 22 = .ok (.iload 4, 2) := by decide +kernel
theorem dX8_link_24 : decode cX8_link 24 = .ok (.ifCond .ge 4, 3) := by decide +kernel
theorem dX8_link_27 : decode cX8_link 27 = .ok (.return_, 1) := by decide +kernel
theorem dX8_link_28 : decode cX8_link 28 = .ok (.aload_n 0, 1) := by decide +kernel
theorem dX8_link_29 : decode cX8_link 29 = .ok (.getfield 62, 3) := by decide +kernel
theorem dX8_link_32 : decode cX8_link 32 = .ok (.iload_n 1, 1) := by decide +kernel
theorem dX8_link_33 : decode cX8_link 33 = .ok (.iaload, 1) := by decide +kernel
theorem dX8_link_34 : decode cX8_link 34 = .ok (.istore 5, 2) := by decide +kernel
theorem dX8_link_36 : decode cX8_link 36 = .ok (.aload_n 0, 1) := by decide +kernel
theorem dX8_link_37 : decode cX8_link 37 = .ok (.getfield 62, 3) := by decide +kernel
theorem dX8_link_40 : decode cX8_link 40 = .ok (.iload_n 3, 1) := by decide +kernel
theorem dX8_link_41 : decode cX8_link 41 = .ok (.iaload, 1) := by decide +kernel
theorem dX8_link_42 : decode cX8_link 42 = .ok (.istore 6, 2) := by decide +kernel
theorem dX8_link_44 : decode cX8_link 44 = .ok (.bipush 6, 2) := by decide +kernel
theorem dX8_link_46 : decode cX8_link 46 = .ok (.aload_n 0, 1) := by decide +kernel
theorem dX8_link_47 : decode cX8_link 47 = .ok (.getfield 47, 3) := by decide +kernel
theorem dX8_link_50 : decode cX8_link 50 = .ok (.iload 5, 2) := by decide +kernel
theorem dX8_link_52 : decode cX8_link 52 = .ok (.iaload, 1) := by decide +kernel
theorem dX8_link_53 : decode cX8_link 53 = .ok (.imul, 1) := by decide +kernel
theorem dX8_link_54 : decode cX8_link 54 = .ok (.iload 4, 2) := by decide +kernel
theorem dX8_link_56 : decode cX8_link 56 = .ok (.iadd, 1) := by decide +kernel
theorem dX8_link_57 : decode cX8_link 57 = .ok (.istore 7, 2) := by decide +kernel
theorem dX8_link_59 : decode cX8_link 59 = .ok (.aload_n 0, 1) := by decide +kernel
theorem dX8_link_60 : decode cX8_link 60 = .ok (.aload_n 0, 1) := by decide +kernel
theorem dX8_link_61 : decode cX8_link 61 = .ok (.getfield 23, 3) := by decide +kernel
theorem dX8_link_64 : decode cX8_link 64 = .ok (.iload 7, 2) := by decide +kernel
theorem dX8_link_66 : decode cX8_link 66 = .ok (.iaload, 1) := by decide +kernel
theorem dX8_link_67 : decode cX8_link 67 = .ok (.iconst 1, 1) := by decide +kernel
theorem dX8_link_68 : decode cX8_link 68 = .ok (.if_icmp .ne 34, 3) := by decide +kernel
theorem dX8_link_71 : decode cX8_link 71 = .ok (.iload 6, 2) := by decide +kernel
theorem dX8_link_73 : decode cX8_link 73 = .ok (.ifCond .lt 33, 3) := by decide +kernel
theorem dX8_link_76 : decode cX8_link 76 = .ok (.aload_n 0, 1) := by decide +kernel
theorem dX8_link_77 : decode cX8_link 77 = .ok (.iload 6, 2) := by decide +kernel
theorem dX8_link_79 : decode cX8_link 79 = .ok (.invokevirtual 160, 3) := by decide +kernel
theorem dX8_link_82 : decode cX8_link 82 = .ok (.ifCond .ne 20, 3) := by decide +kernel
theorem dX8_link_85 : decode cX8_link 85 = .ok (.aload_n 0, 1) := by decide +kernel
theorem dX8_link_86 : decode cX8_link 86 = .ok (.getfield 47, 3) := by decide +kernel
theorem dX8_link_89 : decode cX8_link 89 = .ok (.iload 6, 2) := by decide +kernel
theorem dX8_link_91 : decode cX8_link 91 = .ok (.iaload, 1) := by decide +kernel
theorem dX8_link_92 : decode cX8_link 92 = .ok (.aload_n 0, 1) := by decide +kernel
theorem dX8_link_93 : decode cX8_link 93 = .ok (.getfield 26, 3) := by decide +kernel
theorem dX8_link_96 : decode cX8_link 96 = .ok (.iload 7, 2) := by decide +kernel
theorem dX8_link_98 : decode cX8_link 98 = .ok (.iaload, 1) := by decide +kernel
theorem dX8_link_99 : decode cX8_link 99 = .ok (.if_icmp .eq 7, 3) := by decide +kernel
theorem dX8_link_102 : decode cX8_link 102 = .ok (.iconst 3, 1) := by decide +kernel
theorem dX8_link_103 : decode cX8_link 103 = .ok (.goto 4, 3) := by decide +kernel
theorem dX8_link_106 : decode cX8_link 106 = .ok (.iconst 0, 1) := by decide +kernel
theorem dX8_link_107 : decode cX8_link 107 = .ok (.putfield 118, 3) := by decide +kernel
theorem dX8_link_110 : decode cX8_link 110 = .ok (.aload_n 0, 1) := by decide +kernel
theorem dX8_link_111 : decode cX8_link 111 = .ok (.getfield 118, 3) := by decide +kernel
theorem dX8_link_114 : decode cX8_link 114 = .ok (.ifCond .ne 37, 3) := by decide +kernel
theorem dX8_link_117 : decode cX8_link 117 = .ok (.aload_n 0, 1) := by decide +kernel
theorem dX8_link_118 : decode cX8_link 118 = .ok (.iload 5, 2) := by decide +kernel
theorem dX8_link_120 : decode cX8_link 120 = .ok (.invokevirtual 156, 3) := by decide +kernel
theorem dX8_link_123 : decode cX8_link 123 = .ok (.aload_n 0, 1) := by decide +kernel
theorem dX8_link_124 : decode cX8_link 124 = .ok (.getfield 53, 3) := by decide +kernel
theorem dX8_link_127 : decode cX8_link 127 = .ok (.bipush 6, 2) := by decide +kernel
theorem dX8_link_129 : decode cX8_link 129 = .ok (.iload 5, 2) := by decide +kernel
theorem dX8_link_131 : decode cX8_link 131 = .ok (.imul, 1) := by decide +kernel
theorem dX8_link_132 : decode cX8_link 132 = .ok (.iload 4, 2) := by decide +kernel
theorem dX8_link_134 : decode cX8_link 134 = .ok (.iadd, 1) := by decide +kernel
theorem dX8_link_135 : decode cX8_link 135 = .ok (.iload 6, 2) := by decide +kernel
theorem dX8_link_137 : decode cX8_link 137 = .ok (.iastore, 1) := by decide +kernel
theorem dX8_link_138 : decode cX8_link 138 = .ok (.aload_n 0, 1) := by decide +kernel
theorem dX8_link_139 : decode cX8_link 139 = .ok (.getfield 13, 3) := by decide +kernel
theorem dX8_link_142 : decode cX8_link 142 = .ok (.aload_n 0, 1) := by decide +kernel
theorem dX8_link_143 : decode cX8_link 143 = .ok (.getfield 47, 3) := by decide +kernel
theorem dX8_link_146 : decode cX8_link 146 = .ok (.iload 5, 2) := by decide +kernel
theorem dX8_link_148 : decode cX8_link 148 = .ok (.iaload, 1) := by decide +kernel
theorem dX8_link_149 : decode cX8_link 149 = .ok (.iconst 0, 1) := by decide +kernel
theorem dX8_link_150 : decode cX8_link 150 = .ok (.bastore, 1) := by decide +kernel
theorem dX8_link_151 : decode cX8_link 151 = .ok (.return_, 1) := by decide +kernel
set_option maxRecDepth 20000 in
theorem ggX8_follow_X8_isRoot : GoodIn wsX8_follow wsX8_isRoot := goodIn_r _ [7] (by decide +kernel) (by decide +kernel)
set_option maxRecDepth 20000 in
theorem gX8_follow_X8_isRoot : GoodIn wsX8_follow (va_wsS RX8 132 yX8_isRoot wsX8_isRoot) := goodIn_app (goodIn_of _ (by decide +kernel)) ggX8_follow_X8_isRoot
set_option maxRecDepth 20000 in
theorem ggX8_follow_X8_place : GoodIn wsX8_follow wsX8_place := goodIn_r _ [11, 2, 1, 12, 13, 4, 5, 6, 7, 14, 15, 16, 17, 18, 19, 20, 21, 22, 29, 30, 31, 32, 33, 34, 35, 36, 37, 38, 39, 40, 41, 42, 43, 44, 45, 46, 47, 48, 49, 50, 51, 52, 53, 54, 55, 56, 57, 58, 59, 60, 61, 62, 63, 64, 65, 66, 67, 68, 69, 70, 71, 72] (by decide +kernel) (by decide +kernel)
set_option maxRecDepth 20000 in
theorem gX8_follow_X8_place : GoodIn wsX8_follow (wsV RX8 152 RX8 yX8_place wsX8_place) := goodIn_app (goodIn_of _ (by decide +kernel)) ggX8_follow_X8_place
set_option maxRecDepth 20000 in
theorem ggX8_follow_X8_touchRecord : GoodIn wsX8_follow wsX8_touchRecord := goodIn_r _ [26, 27, 28, 12, 29, 30, 31, 32, 33, 34, 35, 36, 37, 38, 39, 40, 41, 42, 43, 44, 45, 46, 47, 48, 49, 50, 51, 52, 53, 54, 55, 56, 57, 58, 59, 60, 61, 62, 63, 64, 65, 66, 67, 68, 69, 70, 71, 72] (by decide +kernel) (by decide +kernel)
set_option maxRecDepth 20000 in
theorem gX8_follow_X8_touchRecord : GoodIn wsX8_follow (wsV RX8 156 RX8 yX8_touchRecord wsX8_touchRecord) := goodIn_app (goodIn_of _ (by decide +kernel)) ggX8_follow_X8_touchRecord
theorem dX8_follow_0 : decode cX8_follow 0 = .ok (.iload_n 3, 1) := by decide +kernel
theorem dX8_follow_1 : decode cX8_follow 1 = .ok (.invokestatic 132, 3) := by decide +kernel
theorem dX8_follow_4 : decode cX8_follow 4 = .ok (.ifCond .ne 9, 3) := by decide +kernel
theorem dX8_follow_7 : decode cX8_follow 7 = .ok (.aload_n 0, 1) := by decide +kernel
theorem dX8_follow_8 : decode cX8_follow 8 = .ok (.iconst 1, 1) := by decide +kernel
theorem dX8_follow_9 : decode cX8_follow 9 = .ok (.putfield 118, 3) := by decide +kernel
theorem dX8_follow_12 : decode cX8_follow 12 = .ok (.return_, 1) := by decide +kernel
theorem dX8_follow_13 : decode cX8_follow 13 = .ok (.aload_n 0, 1) := by decide +kernel
theorem dX8_follow_14 : decode cX8_follow 14 = .ok (.iload_n 1, 1) := by decide +kernel
theorem dX8_follow_15 : decode cX8_follow 15 = .ok (.iload_n 2, 1) := by decide +kernel
theorem dX8_follow_16 : decode cX8_follow 16 = .ok (.iconst 0, 1) := by decide +kernel
theorem dX8_follow_17 : decode cX8_follow 17 = .ok (.invokevirtual 152, 3) := by decide +kernel
theorem dX8_follow_20 : decode cX8_follow 20 = .ok (.istore 4, 2) := by decide +kernel
theorem dX8_follow_22 : decode cX8_follow 22 = .ok (.iload 4, 2) := by decide +kernel
theorem dX8_follow_24 : decode cX8_follow 24 = .ok (.ifCond .lt 36, 3) := by decide +kernel
theorem dX8_follow_27 : decode cX8_follow 27 = .ok (.aload_n 0, 1) := by decide +kernel
theorem dX8_follow_28 : decode cX8_follow 28 = .ok (.aload_n 0, 1) := by decide +kernel
theorem dX8_follow_29 : decode cX8_follow 29 = .ok (.getfield 62, 3) := by decide +kernel
theorem dX8_follow_32 : decode cX8_follow 32 = .ok (.iload_n 1, 1) := by decide +kernel
theorem dX8_follow_33 : decode cX8_follow 33 = .ok (.iaload, 1) := by decide +kernel
theorem dX8_follow_34 : decode cX8_follow 34 = .ok (.invokevirtual 156, 3) := by decide +kernel
theorem dX8_follow_37 : decode cX8_follow 37 = .ok (.aload_n 0, 1) := by decide +kernel
theorem dX8_follow_38 : decode cX8_follow 38 = .ok (.getfield 62, 3) := by decide +kernel
theorem dX8_follow_41 : decode cX8_follow 41 = .ok (.iload_n 3, 1) := by decide +kernel
theorem dX8_follow_42 : decode cX8_follow 42 = .ok (.aload_n 0, 1) := by decide +kernel
theorem dX8_follow_43 : decode cX8_follow 43 = .ok (.getfield 53, 3) := by decide +kernel
theorem dX8_follow_46 : decode cX8_follow 46 = .ok (.bipush 6, 2) := by decide +kernel
theorem dX8_follow_48 : decode cX8_follow 48 = .ok (.aload_n 0, 1) := by decide +kernel
theorem dX8_follow_49 : decode cX8_follow 49 = .ok (.getfield 62, 3) := by decide +kernel
theorem dX8_follow_52 : decode cX8_follow 52 = .ok (.iload_n 1, 1) := by decide +kernel
theorem dX8_follow_53 : decode cX8_follow 53 = .ok (.iaload, 1) := by decide +kernel
theorem dX8_follow_54 : decode cX8_follow 54 = .ok (.imul, 1) := by decide +kernel
theorem dX8_follow_55 : decode cX8_follow 55 = .ok (.iload 4, 2) := by decide +kernel
theorem dX8_follow_57 : decode cX8_follow 57 = .ok (.iadd, 1) := by decide +kernel
theorem dX8_follow_58 : decode cX8_follow 58 = .ok (.iaload, 1) := by decide +kernel
theorem dX8_follow_59 : decode cX8_follow 59 = .ok (.iastore, 1) := by decide +kernel
theorem dX8_follow_60 : decode cX8_follow 60 = .ok (.return_, 1) := by decide +kernel
set_option maxRecDepth 20000 in
theorem ggX8_drop_X8_isRoot : GoodIn wsX8_drop wsX8_isRoot := goodIn_r _ [6] (by decide +kernel) (by decide +kernel)
set_option maxRecDepth 20000 in
theorem gX8_drop_X8_isRoot : GoodIn wsX8_drop (va_wsS RX8 132 yX8_isRoot wsX8_isRoot) := goodIn_app (goodIn_of _ (by decide +kernel)) ggX8_drop_X8_isRoot
theorem dX8_drop_0 : decode cX8_drop 0 = .ok (.aload_n 0, 1) := by decide +kernel
theorem dX8_drop_1 : decode cX8_drop 1 = .ok (.iload_n 1, 1) := by decide +kernel
theorem dX8_drop_2 : decode cX8_drop 2 = .ok (.invokestatic 132, 3) := by decide +kernel
theorem dX8_drop_5 : decode cX8_drop 5 = .ok (.ifCond .eq 7, 3) := by decide +kernel
theorem dX8_drop_8 : decode cX8_drop 8 = .ok (.iconst 0, 1) := by decide +kernel
theorem dX8_drop_9 : decode cX8_drop 9 = .ok (.goto 4, 3) := by decide +kernel
theorem dX8_drop_12 : decode cX8_drop 12 = .ok (.iconst 1, 1) := by decide +kernel
theorem dX8_drop_13 : decode cX8_drop 13 = .ok (.putfield 118, 3) := by decide +kernel
theorem dX8_drop_16 : decode cX8_drop 16 = .ok (.aload_n 0, 1) := by decide +kernel
theorem dX8_drop_17 : decode cX8_drop 17 = .ok (.getfield 118, 3) := by decide +kernel
theorem dX8_drop_20 : decode cX8_drop 20 = .ok (.ifCond .le 5, 3) := by decide +kernel
theorem dX8_drop_23 : decode cX8_drop 23 = .ok (.iconst 0, 1) := by decide +kernel
theorem dX8_drop_24 : decode cX8_drop 24 = .ok (.ireturn, 1) := by decide +kernel
theorem dX8_drop_25 : decode cX8_drop 25 = .ok (.aload_n 0, 1) := by decide +kernel
theorem dX8_drop_26 : decode cX8_drop 26 = .ok (.getfield 62, 3) := by decide +kernel
theorem dX8_drop_29 : decode cX8_drop 29 = .ok (.iload_n 1, 1) := by decide +kernel
theorem dX8_drop_30 : decode cX8_drop 30 = .ok (.iaload, 1) := by decide +kernel
theorem dX8_drop_31 : decode cX8_drop 31 = .ok (.ifCond .lt 7, 3) := by decide +kernel
theorem dX8_drop_34 : decode cX8_drop 34 = .ok (.iconst 1, 1) := by decide +kernel
theorem dX8_drop_35 : decode cX8_drop 35 = .ok (.goto 4, 3) := by decide +kernel
theorem dX8_drop_38 : decode cX8_drop 38 = .ok (.iconst 0, 1) := by decide +kernel
theorem dX8_drop_39 : decode cX8_drop 39 = .ok (.istore_n 2, 1) := by decide +kernel
theorem dX8_drop_40 : decode cX8_drop 40 = .ok (.aload_n 0, 1) := by decide +kernel
theorem dX8_drop_41 : decode cX8_drop 41 = .ok (.getfield 62, 3) := by decide +kernel
theorem dX8_drop_44 : decode cX8_drop 44 = .ok (.iload_n 1, 1) := by decide +kernel
theorem dX8_drop_45 : decode cX8_drop 45 = .ok (.iconst (-1), 1) := by decide +kernel
theorem dX8_drop_46 : decode cX8_drop 46 = .ok (.iastore, 1) := by decide +kernel
theorem dX8_drop_47 : decode cX8_drop 47 = .ok (.iload_n 2, 1) := by decide +kernel
theorem dX8_drop_48 : decode cX8_drop 48 = .ok (.ireturn, 1) := by decide +kernel
set_option maxRecDepth 20000 in
theorem ggX8_same_X8_isRoot : GoodIn wsX8_same wsX8_isRoot := goodIn_r _ [6] (by decide +kernel) (by decide +kernel)
set_option maxRecDepth 20000 in
theorem gX8_same_X8_isRoot : GoodIn wsX8_same (va_wsS RX8 132 yX8_isRoot wsX8_isRoot) := goodIn_app (goodIn_of _ (by decide +kernel)) ggX8_same_X8_isRoot
theorem dX8_same_0 : decode cX8_same 0 = .ok (.aload_n 0, 1) := by decide +kernel
theorem dX8_same_1 : decode cX8_same 1 = .ok (.iload_n 1, 1) := by decide +kernel
theorem dX8_same_2 : decode cX8_same 2 = .ok (.invokestatic 132, 3) := by decide +kernel
theorem dX8_same_5 : decode cX8_same 5 = .ok (.ifCond .eq 14, 3) := by decide +kernel
theorem dX8_same_8 : decode cX8_same 8 = .ok (.iload_n 2, 1) := by decide +kernel
theorem dX8_same_9 : decode cX8_same 9 = .ok (.invokestatic 132, 3) := by decide +kernel
theorem dX8_same_12 : decode cX8_same 12 = .ok (.ifCond .eq 7, 3) := by decide +kernel
theorem dX8_same_15 : decode cX8_same 15 = .ok (.iconst 0, 1) := by decide +kernel
theorem dX8_same_16 : decode cX8_same 16 = .ok (.goto 4, 3) := by decide +kernel
theorem dX8_same_19 : decode cX8_same 19 = .ok (.iconst 1, 1) := by decide +kernel
theorem dX8_same_20 : decode cX8_same 20 = .ok (.putfield 118, 3) := by decide +kernel
theorem dX8_same_23 : decode cX8_same 23 = .ok (.aload_n 0, 1) := by decide +kernel
theorem dX8_same_24 : decode cX8_same 24 = .ok (.getfield 118, 3) := by decide +kernel
theorem dX8_same_27 : decode cX8_same 27 = .ok (.ifCond .ne 22, 3) := by decide +kernel
theorem dX8_same_30 : decode cX8_same 30 = .ok (.aload_n 0, 1) := by decide +kernel
theorem dX8_same_31 : decode cX8_same 31 = .ok (.getfield 62, 3) := by decide +kernel
theorem dX8_same_34 : decode cX8_same 34 = .ok (.iload_n 1, 1) := by decide +kernel
theorem dX8_same_35 : decode cX8_same 35 = .ok (.iaload, 1) := by decide +kernel
theorem dX8_same_36 : decode cX8_same 36 = .ok (.aload_n 0, 1) := by decide +kernel
theorem dX8_same_37 : decode cX8_same 37 = .ok (.getfield 62, 3) := by decide +kernel
theorem dX8_same_40 : decode cX8_same 40 = .ok (.iload_n 2, 1) := by decide +kernel
theorem dX8_same_41 : decode cX8_same 41 = .ok (.iaload, 1) := by decide +kernel
theorem dX8_same_42 : decode cX8_same 42 = .ok (.if_icmp .ne 7, 3) := by decide +kernel
theorem dX8_same_45 : decode cX8_same 45 = .ok (.iconst 1, 1) := by decide +kernel
theorem dX8_same_46 : decode cX8_same 46 = .ok (.goto 4, 3) := by decide +kernel
theorem dX8_same_49 : decode cX8_same 49 = .ok (.iconst 0, 1) := by decide +kernel
theorem dX8_same_50 : decode cX8_same 50 = .ok (.ireturn, 1) := by decide +kernel
theorem dX8_word_0 : decode cX8_word 0 = .ok (.aload_n 0, 1) := by decide +kernel
theorem dX8_word_1 : decode cX8_word 1 = .ok (.iload_n 1, 1) := by decide +kernel
theorem dX8_word_2 : decode cX8_word 2 = .ok (.ifCond .lt 9, 3) := by decide +kernel
theorem dX8_word_5 : decode cX8_word 5 = .ok (.iload_n 1, 1) := by decide +kernel
theorem dX8_word_6 : decode cX8_word 6 = .ok (.bipush 16, 2) := by decide +kernel
theorem dX8_word_8 : decode cX8_word 8 = .ok (.if_icmp .le 20, 3) := by decide +kernel
theorem dX8_word_11 : decode cX8_word 11 = .ok (.iload_n 1, 1) := by decide +kernel
theorem dX8_word_12 : decode cX8_word 12 = .ok (.bipush 100, 2) := by decide +kernel
theorem dX8_word_14 : decode cX8_word 14 = .ok (.if_icmp .lt 10, 3) := by decide +kernel
theorem dX8_word_17 : decode cX8_word 17 = .ok (.iload_n 1, 1) := by decide +kernel
theorem dX8_word_18 : decode cX8_word 18 = .ok (.sipush 300, 3) := by decide +kernel
theorem dX8_word_21 : decode cX8_word 21 = .ok (.if_icmp .le 7, 3) := by decide +kernel
theorem dX8_word_24 : decode cX8_word 24 = .ok (.iconst 1, 1) := by decide +kernel
theorem dX8_word_25 : decode cX8_word 25 = .ok (.goto 17, 3) := by decide +kernel
theorem dX8_word_28 : decode cX8_word 28 = .ok (.aload_n 0, 1) := by decide +kernel
theorem dX8_word_29 : decode cX8_word 29 = .ok (.getfield 163, 3) := by decide +kernel
theorem dX8_word_32 : decode cX8_word 32 = .ok (.bipush 12, 2) := by decide +kernel
theorem dX8_word_34 : decode cX8_word 34 = .ok (.if_icmp .ne 7, 3) := by decide +kernel
theorem dX8_word_37 : decode cX8_word 37 = .ok (.iconst 2, 1) := by decide +kernel
theorem dX8_word_38 : decode cX8_word 38 = .ok (.goto 4, 3) := by decide +kernel
theorem dX8_word_41 : decode cX8_word 41 = .ok (.iconst 0, 1) := by decide +kernel
theorem dX8_word_42 : decode cX8_word 42 = .ok (.putfield 118, 3) := by decide +kernel
theorem dX8_word_45 : decode cX8_word 45 = .ok (.aload_n 0, 1) := by decide +kernel
theorem dX8_word_46 : decode cX8_word 46 = .ok (.getfield 118, 3) := by decide +kernel
theorem dX8_word_49 : decode cX8_word 49 = .ok (.ifCond .le 5, 3) := by decide +kernel
theorem dX8_word_52 : decode cX8_word 52 = .ok (.iconst 0, 1) := by decide +kernel
theorem dX8_word_53 : decode cX8_word 53 = .ok (.ireturn, 1) := by decide +kernel
theorem dX8_word_54 : decode cX8_word 54 = .ok (.aload_n 0, 1) := by decide +kernel
theorem dX8_word_55 : decode cX8_word 55 = .ok (.getfield 65, 3) := by decide +kernel
theorem dX8_word_58 : decode cX8_word 58 = .ok (.aload_n 0, 1) := by decide +kernel
theorem dX8_word_59 : decode cX8_word 59 = .ok (.getfield 163, 3) := by decide +kernel
theorem dX8_word_62 : decode cX8_word 62 = .ok (.iload_n 1, 1) := by decide +kernel
theorem dX8_word_63 : decode cX8_word 63 = .ok (.iastore, 1) := by decide +kernel
theorem dX8_word_64 : decode cX8_word 64 = .ok (.aload_n 0, 1) := by decide +kernel
theorem dX8_word_65 : decode cX8_word 65 = .ok (.dup, 1) := by decide +kernel
theorem dX8_word_66 : decode cX8_word 66 = .ok (.getfield 163, 3) := by decide +kernel
theorem dX8_word_69 : decode cX8_word 69 = .ok (.iconst 1, 1) := by decide +kernel
theorem dX8_word_70 : decode cX8_word 70 = .ok (.iadd, 1) := by decide +kernel
theorem dX8_word_71 : decode cX8_word 71 = .ok (.putfield 163, 3) := by decide +kernel
theorem dX8_word_74 : decode cX8_word 74 = .ok (.aload_n 0, 1) := by decide +kernel
theorem dX8_word_75 : decode cX8_word 75 = .ok (.getfield 163, 3) := by decide +kernel
theorem dX8_word_78 : decode cX8_word 78 = .ok (.ireturn, 1) := by decide +kernel
theorem dX8_isRight_0 : decode cX8_isRight 0 = .ok (.iconst 0, 1) := by decide +kernel
theorem dX8_isRight_1 : decode cX8_isRight 1 = .ok (.istore_n 1, 1) := by decide +kernel
theorem dX8_isRight_2 : decode cX8_isRight 2 = .ok (.iconst 1, 1) := by decide +kernel
theorem dX8_isRight_3 : decode cX8_isRight 3 = .ok (.istore_n 2, 1) := by decide +kernel
theorem dX8_isRight_4 : decode cX8_isRight 4 = .ok (.iconst 0, 1) := by decide +kernel
theorem dX8_isRight_5 : decode cX8_isRight 5 = .ok (.istore_n 3, 1) := by decide +kernel
theorem dX8_isRight_6 : decode cX8_isRight 6 = .ok (.iload_n 3, 1) := by decide +kernel
theorem dX8_isRight_7 : decode cX8_isRight 7 = .ok (.aload_n 0, 1) := by decide +kernel
theorem dX8_isRight_8 : decode cX8_isRight 8 = .ok (.getfield 163, 3) := by decide +kernel
theorem dX8_isRight_11 : decode cX8_isRight 11 = .ok (.if_icmp .ge 76, 3) := by decide +kernel
theorem dX8_isRight_14 : decode cX8_isRight 14 = .ok (.aload_n 0, 1) := by decide +kernel
theorem dX8_isRight_15 : decode cX8_isRight 15 = .ok (.getfield 65, 3) := by decide +kernel
theorem dX8_isRight_18 : decode cX8_isRight 18 = .ok (.iload_n 3, 1) := by decide +kernel
theorem dX8_isRight_19 : decode cX8_isRight 19 = .ok (.iaload, 1) := by decide +kernel
theorem dX8_isRight_20 : decode cX8_isRight 20 = .ok (.bipush 10, 2) := by decide +kernel
theorem dX8_isRight_22 : decode cX8_isRight 22 = .ok (.if_icmp .lt 14, 3) := by decide +kernel
theorem dX8_isRight_25 : decode cX8_isRight 25 = .ok (.aload_n 0, 1) := by decide +kernel
theorem dX8_isRight_26 : decode cX8_isRight 26 = .ok (.getfield 65, 3) := by decide +kernel
theorem dX8_isRight_29 : decode cX8_isRight 29 = .ok (.iload_n 3, 1) := by decide +kernel
theorem dX8_isRight_30 : decode cX8_isRight 30 = .ok (.iaload, 1) := by decide +kernel
theorem dX8_isRight_31 : decode cX8_isRight 31 = .ok (.bipush 100, 2) := by decide +kernel
theorem dX8_isRight_33 : decode cX8_isRight 33 = .ok (.if_icmp .lt 7, 3) := by decide +kernel
theorem dX8_isRight_36 : decode cX8_isRight 36 = .ok (.iconst 0, 1) := by decide +kernel
theorem dX8_isRight_37 : decode cX8_isRight 37 = .ok (.goto 19, 3) := by decide +kernel
theorem dX8_isRight_40 : decode cX8_isRight 40 = .ok (.aload_n 0, 1) := by decide +kernel
theorem dX8_isRight_41 : decode cX8_isRight 41 = .ok (.getfield 65, 3) := by decide +kernel
theorem dX8_isRight_44 : decode cX8_isRight 44 = .ok (.iload_n 3, 1) := by decide +kernel
theorem dX8_isRight_45 : decode cX8_isRight 45 = .ok (.iaload, 1) := by decide +kernel
theorem dX8_isRight_46 : decode cX8_isRight 46 = .ok (.bipush 16, 2) := by decide +kernel
theorem dX8_isRight_48 : decode cX8_isRight 48 = .ok (.if_icmp .ne 7, 3) := by decide +kernel
theorem dX8_isRight_51 : decode cX8_isRight 51 = .ok (.iconst 1, 1) := by decide +kernel
theorem dX8_isRight_52 : decode cX8_isRight 52 = .ok (.goto 4, 3) := by decide +kernel
theorem dX8_isRight_55 : decode cX8_isRight 55 = .ok (.iconst 2, 1) := by decide +kernel
theorem dX8_isRight_56 : decode cX8_isRight 56 = .ok (.istore 4, 2) := by decide +kernel
theorem dX8_isRight_58 : decode cX8_isRight 58 = .ok (.iload_n 2, 1) := by decide +kernel
theorem dX8_isRight_59 : decode cX8_isRight 59 = .ok (.ifCond .eq 13, 3) := by decide +kernel
theorem dX8_isRight_62 : decode cX8_isRight 62 = .ok (.iload_n 1, 1) := by decide +kernel
theorem dX8_isRight_63 : decode cX8_isRight 63 = .ok (.iload 4, 2) := by decide +kernel
theorem dX8_isRight_65 : decode cX8_isRight 65 = .ok (.if_icmp .lt 7, 3) := by decide +kernel
theorem dX8_isRight_68 : decode cX8_isRight 68 = .ok (.iconst 1, 1) := by decide +kernel
theorem dX8_isRight_69 : decode cX8_isRight 69 = .ok (.goto 4, 3) := by decide +kernel
theorem dX8_isRight_72 : decode cX8_isRight 72 = .ok (.iconst 0, 1) := by decide +kernel
theorem dX8_isRight_73 : decode cX8_isRight 73 = .ok (.istore_n 2, 1) := by decide +kernel
theorem dX8_isRight_74 : decode cX8_isRight 74 = .ok (.iload_n 1, 1) := by decide +kernel
theorem dX8_isRight_75 : decode cX8_isRight 75 = .ok (.iconst 1, 1) := by decide +kernel
theorem dX8_isRight_76 : decode cX8_isRight 76 = .ok (.iload 4, 2) := by decide +kernel
theorem dX8_isRight_78 : decode cX8_isRight 78 = .ok (.isub, 1) := by decide +kernel
theorem dX8_isRight_79 : decode cX8_isRight 79 = .ok (.iadd, 1) := by decide +kernel
theorem dX8_isRight_80 : decode cX8_isRight 80 = .ok (.istore_n 1, 1) := by decide +kernel
theorem dX8_isRight_81 : decode cX8_isRight 81 = .ok (.iinc 3 1, 3) := by decide +kernel
theorem dX8_isRight_84 : decode cX8_isRight 84 = .ok (.goto (-78), 3) := by decide +kernel
theorem dX8_isRight_87 : decode cX8_isRight 87 = .ok (.iload_n 2, 1) := by decide +kernel
theorem dX8_isRight_88 : decode cX8_isRight 88 = .ok (.ifCond .eq 12, 3) := by decide +kernel
theorem dX8_isRight_91 : decode cX8_isRight 91 = .ok (.iload_n 1, 1) := by decide +kernel
theorem dX8_isRight_92 : decode cX8_isRight 92 = .ok (.iconst 1, 1) := by decide +kernel
theorem dX8_isRight_93 : decode cX8_isRight 93 = .ok (.if_icmp .ne 7, 3) := by decide +kernel
theorem dX8_isRight_96 : decode cX8_isRight 96 = .ok (.iconst 1, 1) := by decide +kernel
theorem dX8_isRight_97 : decode cX8_isRight 97 = .ok (.goto 4, 3) := by decide +kernel
theorem dX8_isRight_100 : decode cX8_isRight 100 = .ok (.iconst 0, 1) := by decide +kernel
theorem dX8_isRight_101 : decode cX8_isRight 101 = .ok (.ireturn, 1) := by decide +kernel
set_option maxRecDepth 20000 in
theorem ggX8_isStep_X8_isName : GoodIn wsX8_isStep wsX8_isName := goodIn_r _ [6] (by decide +kernel) (by decide +kernel)
set_option maxRecDepth 20000 in
theorem gX8_isStep_X8_isName : GoodIn wsX8_isStep (va_wsS RX8 145 yX8_isName wsX8_isName) := goodIn_app (goodIn_of _ (by decide +kernel)) ggX8_isStep_X8_isName
set_option maxRecDepth 20000 in
theorem ggX8_isStep_X8_isRight : GoodIn wsX8_isStep wsX8_isRight := goodIn_r _ [10, 11, 12, 18, 19, 20, 21, 22, 23, 24, 25, 26, 27, 28, 29, 30, 31, 32, 33, 34, 35, 36, 37, 38, 39, 40, 41, 42, 43, 44, 45, 46, 47, 48, 49, 50, 51, 52, 53, 54, 55, 56, 57, 58, 59, 60, 61] (by decide +kernel) (by decide +kernel)
set_option maxRecDepth 20000 in
theorem gX8_isStep_X8_isRight : GoodIn wsX8_isStep (wsV RX8 168 RX8 yX8_isRight wsX8_isRight) := goodIn_app (goodIn_of _ (by decide +kernel)) ggX8_isStep_X8_isRight
set_option maxRecDepth 20000 in
theorem ggX8_isStep_X8_isClass : GoodIn wsX8_isStep wsX8_isClass := goodIn_r _ [16, 17, 18, 19, 20, 21, 22, 23, 24, 25, 26, 27, 28, 29, 30, 31, 32, 33, 34, 35, 36, 37, 38, 39, 40, 41, 42, 43, 44, 45, 46, 47, 48, 49, 50, 51, 52, 53, 54, 55, 56, 57, 58, 59, 60, 61] (by decide +kernel) (by decide +kernel)
set_option maxRecDepth 20000 in
theorem gX8_isStep_X8_isClass : GoodIn wsX8_isStep (wsV RX8 128 RX8 yX8_isClass wsX8_isClass) := goodIn_app (goodIn_of _ (by decide +kernel)) ggX8_isStep_X8_isClass
theorem dX8_isStep_0 : decode cX8_isStep 0 = .ok (.iload_n 3, 1) := by decide +kernel
theorem dX8_isStep_1 : decode cX8_isStep 1 = .ok (.iload 4, 2) := by decide +kernel
theorem dX8_isStep_3 : decode cX8_isStep 3 = .ok (.if_icmp .gt 20, 3) := by decide +kernel
theorem dX8_isStep_6 : decode cX8_isStep 6 = .ok (.iload_n 3, 1) := by decide +kernel
theorem dX8_isStep_7 : decode cX8_isStep 7 = .ok (.ldc 166, 2) := by decide +kernel
theorem dX8_isStep_9 : decode cX8_isStep 9 = .ok (.if_icmp .lt 14, 3) := by decide +kernel
theorem dX8_isStep_12 : decode cX8_isStep 12 = .ok (.iload 4, 2) := by decide +kernel
theorem dX8_isStep_14 : decode cX8_isStep 14 = .ok (.ldc 167, 2) := by decide +kernel
theorem dX8_isStep_16 : decode cX8_isStep 16 = .ok (.if_icmp .gt 7, 3) := by decide +kernel
theorem dX8_isStep_19 : decode cX8_isStep 19 = .ok (.iconst 1, 1) := by decide +kernel
theorem dX8_isStep_20 : decode cX8_isStep 20 = .ok (.goto 4, 3) := by decide +kernel
theorem dX8_isStep_23 : decode cX8_isStep 23 = .ok (.iconst 0, 1) := by decide +kernel
theorem dX8_isStep_24 : decode cX8_isStep 24 = .ok (.istore 6, 2) := by decide +kernel
theorem dX8_isStep_26 : decode cX8_isStep 26 = .ok (.iload_n 1, 1) := by decide +kernel
theorem dX8_isStep_27 : decode cX8_isStep 27 = .ok (.ifCond .lt 16, 3) := by decide +kernel
theorem dX8_isStep_30 : decode cX8_isStep 30 = .ok (.iload_n 1, 1) := by decide +kernel
theorem dX8_isStep_31 : decode cX8_isStep 31 = .ok (.bipush 6, 2) := by decide +kernel
theorem dX8_isStep_33 : decode cX8_isStep 33 = .ok (.if_icmp .gt 10, 3) := by decide +kernel
theorem dX8_isStep_36 : decode cX8_isStep 36 = .ok (.iload_n 2, 1) := by decide +kernel
theorem dX8_isStep_37 : decode cX8_isStep 37 = .ok (.invokestatic 145, 3) := by decide +kernel
theorem dX8_isStep_40 : decode cX8_isStep 40 = .ok (.ifCond .ne 5, 3) := by decide +kernel
theorem dX8_isStep_43 : decode cX8_isStep 43 = .ok (.iconst 0, 1) := by decide +kernel
theorem dX8_isStep_44 : decode cX8_isStep 44 = .ok (.ireturn, 1) := by decide +kernel
theorem dX8_isStep_45 : decode cX8_isStep 45 = .ok (.iload_n 1, 1) := by decide +kernel
theorem dX8_isStep_46 : decode cX8_isStep 46 = .ok (.tableswitch 113 1 5 #[34, 39, 57, 79, 85], 34) := by decide +kernel
theorem dX8_isStep_80 : decode cX8_isStep 80 = .ok (.iload_n 3, 1) := by decide +kernel
theorem dX8_isStep_81 : decode cX8_isStep 81 = .ok (.invokestatic 145, 3) := by decide +kernel
theorem dX8_isStep_84 : decode cX8_isStep 84 = .ok (.ireturn, 1) := by decide +kernel
theorem dX8_isStep_85 : decode cX8_isStep 85 = .ok (.iload 6, 2) := by decide +kernel
theorem dX8_isStep_87 : decode cX8_isStep 87 = .ok (.ifCond .eq 14, 3) := by decide +kernel
theorem dX8_isStep_90 : decode cX8_isStep 90 = .ok (.aload_n 0, 1) := by decide +kernel
theorem dX8_isStep_91 : decode cX8_isStep 91 = .ok (.invokevirtual 168, 3) := by decide +kernel
theorem dX8_isStep_94 : decode cX8_isStep 94 = .ok (.ifCond .eq 7, 3) := by decide +kernel
theorem dX8_isStep_97 : decode cX8_isStep 97 = .ok (.iconst 1, 1) := by decide +kernel
theorem dX8_isStep_98 : decode cX8_isStep 98 = .ok (.goto 4, 3) := by decide +kernel
theorem dX8_isStep_101 : decode cX8_isStep 101 = .ok (.iconst 0, 1) := by decide +kernel
theorem dX8_isStep_102 : decode cX8_isStep 102 = .ok (.ireturn, 1) := by decide +kernel
theorem dX8_isStep_103 : decode cX8_isStep 103 = .ok (.iload 6, 2) := by decide +kernel
theorem dX8_isStep_105 : decode cX8_isStep 105 = .ok (.ifCond .eq 18, 3) := by decide +kernel
theorem dX8_isStep_108 : decode cX8_isStep 108 = .ok (.iload 5, 2) := by decide +kernel
theorem dX8_isStep_110 : decode cX8_isStep 110 = .ok (.ifCond .eq 9, 3) := by decide +kernel
theorem dX8_isStep_113 : decode cX8_isStep 113 = .ok (.iload 5, 2) := by decide +kernel
theorem dX8_isStep_115 : decode cX8_isStep 115 = .ok (.iconst 1, 1) := by decide +kernel
theorem dX8_isStep_116 : decode cX8_isStep 116 = .ok (.if_icmp .ne 7, 3) := by decide +kernel
theorem dX8_isStep_119 : decode cX8_isStep 119 = .ok (.iconst 1, 1) := by decide +kernel
theorem dX8_isStep_120 : decode cX8_isStep 120 = .ok (.goto 4, 3) := by decide +kernel
theorem dX8_isStep_123 : decode cX8_isStep 123 = .ok (.iconst 0, 1) := by decide +kernel
theorem dX8_isStep_124 : decode cX8_isStep 124 = .ok (.ireturn, 1) := by decide +kernel
theorem dX8_isStep_125 : decode cX8_isStep 125 = .ok (.aload_n 0, 1) := by decide +kernel
theorem dX8_isStep_126 : decode cX8_isStep 126 = .ok (.iload_n 3, 1) := by decide +kernel
theorem dX8_isStep_127 : decode cX8_isStep 127 = .ok (.invokevirtual 128, 3) := by decide +kernel
theorem dX8_isStep_130 : decode cX8_isStep 130 = .ok (.ireturn, 1) := by decide +kernel
theorem dX8_isStep_131 : decode cX8_isStep 131 = .ok (.aload_n 0, 1) := by decide +kernel
theorem dX8_isStep_132 : decode cX8_isStep 132 = .ok (.iload_n 3, 1) := by decide +kernel
theorem dX8_isStep_133 : decode cX8_isStep 133 = .ok (.invokevirtual 128, 3) := by decide +kernel
theorem dX8_isStep_136 : decode cX8_isStep 136 = .ok (.ifCond .eq 21, 3) := by decide +kernel
theorem dX8_isStep_139 : decode cX8_isStep 139 = .ok (.iload 4, 2) := by decide +kernel
theorem dX8_isStep_141 : decode cX8_isStep 141 = .ok (.iconst 1, 1) := by decide +kernel
theorem dX8_isStep_142 : decode cX8_isStep 142 = .ok (.if_icmp .lt 15, 3) := by decide +kernel
theorem dX8_isStep_145 : decode cX8_isStep 145 = .ok (.iload 4, 2) := by decide +kernel
theorem dX8_isStep_147 : decode cX8_isStep 147 = .ok (.sipush 1023, 3) := by decide +kernel
theorem dX8_isStep_150 : decode cX8_isStep 150 = .ok (.if_icmp .gt 7, 3) := by decide +kernel
theorem dX8_isStep_153 : decode cX8_isStep 153 = .ok (.iconst 1, 1) := by decide +kernel
theorem dX8_isStep_154 : decode cX8_isStep 154 = .ok (.goto 4, 3) := by decide +kernel
theorem dX8_isStep_157 : decode cX8_isStep 157 = .ok (.iconst 0, 1) := by decide +kernel
theorem dX8_isStep_158 : decode cX8_isStep 158 = .ok (.ireturn, 1) := by decide +kernel
theorem dX8_isStep_159 : decode cX8_isStep 159 = .ok (.iconst 1, 1) := by decide +kernel
theorem dX8_isStep_160 : decode cX8_isStep 160 = .ok (.ireturn, 1) := by decide +kernel
set_option maxRecDepth 20000 in
theorem ggX8_step_X8_isStep : GoodIn wsX8_step wsX8_isStep := goodIn_r _ [12, 13, 14, 15, 16, 11, 17, 18, 19, 20, 21, 4, 6, 22, 23, 24, 25, 26, 27, 28, 29, 30, 31, 32, 33, 34, 35, 36, 37, 38, 39, 40, 41, 42, 43, 44, 45, 46, 47, 48, 49, 50, 51, 52, 53, 54, 55, 56, 57, 58, 59, 60, 61, 62, 63, 64, 65, 66, 67, 68, 69, 70] (by decide +kernel) (by decide +kernel)
set_option maxRecDepth 20000 in
theorem gX8_step_X8_isStep : GoodIn wsX8_step (wsV RX8 172 RX8 yX8_isStep wsX8_isStep) := goodIn_app (goodIn_of _ (by decide +kernel)) ggX8_step_X8_isStep
theorem dX8_step_0 : decode cX8_step 0 = .ok (.aload_n 0, 1) := by decide +kernel
theorem dX8_step_1 : decode cX8_step 1 = .ok (.aload_n 0, 1) := by decide +kernel
theorem dX8_step_2 : decode cX8_step 2 = .ok (.iload_n 1, 1) := by decide +kernel
theorem dX8_step_3 : decode cX8_step 3 = .ok (.iload_n 2, 1) := by decide +kernel
theorem dX8_step_4 : decode cX8_step 4 = .ok (.iload_n 3, 1) := by decide +kernel
theorem dX8_step_5 : decode cX8_step 5 = .ok (.iload 4, 2) := by decide +kernel
theorem dX8_step_7 : decode cX8_step 7 = .ok (.iload 5, 2) := by decide +kernel
theorem dX8_step_9 : decode cX8_step 9 = .ok (.invokevirtual 172, 3) := by decide +kernel
theorem dX8_step_12 : decode cX8_step 12 = .ok (.ifCond .ne 7, 3) := by decide +kernel
theorem dX8_step_15 : decode cX8_step 15 = .ok (.iconst 1, 1) := by decide +kernel
theorem dX8_step_16 : decode cX8_step 16 = .ok (.goto 17, 3) := by decide +kernel
theorem dX8_step_19 : decode cX8_step 19 = .ok (.aload_n 0, 1) := by decide +kernel
theorem dX8_step_20 : decode cX8_step 20 = .ok (.getfield 176, 3) := by decide +kernel
theorem dX8_step_23 : decode cX8_step 23 = .ok (.bipush 6, 2) := by decide +kernel
theorem dX8_step_25 : decode cX8_step 25 = .ok (.if_icmp .ne 7, 3) := by decide +kernel
theorem dX8_step_28 : decode cX8_step 28 = .ok (.iconst 2, 1) := by decide +kernel
theorem dX8_step_29 : decode cX8_step 29 = .ok (.goto 4, 3) := by decide +kernel
theorem dX8_step_32 : decode cX8_step 32 = .ok (.iconst 0, 1) := by decide +kernel
theorem dX8_step_33 : decode cX8_step 33 = .ok (.putfield 118, 3) := by decide +kernel
theorem dX8_step_36 : decode cX8_step 36 = .ok (.aload_n 0, 1) := by decide +kernel
theorem dX8_step_37 : decode cX8_step 37 = .ok (.getfield 118, 3) := by decide +kernel
theorem dX8_step_40 : decode cX8_step 40 = .ok (.ifCond .le 5, 3) := by decide +kernel
theorem dX8_step_43 : decode cX8_step 43 = .ok (.iconst 0, 1) := by decide +kernel
theorem dX8_step_44 : decode cX8_step 44 = .ok (.ireturn, 1) := by decide +kernel
theorem dX8_step_45 : decode cX8_step 45 = .ok (.aload_n 0, 1) := by decide +kernel
theorem dX8_step_46 : decode cX8_step 46 = .ok (.getfield 71, 3) := by decide +kernel
theorem dX8_step_49 : decode cX8_step 49 = .ok (.aload_n 0, 1) := by decide +kernel
theorem dX8_step_50 : decode cX8_step 50 = .ok (.getfield 176, 3) := by decide +kernel
theorem dX8_step_53 : decode cX8_step 53 = .ok (.iconst 0, 1) := by decide +kernel
theorem dX8_step_54 : decode cX8_step 54 = .ok (.iastore, 1) := by decide +kernel
theorem dX8_step_55 : decode cX8_step 55 = .ok (.iload_n 1, 1) := by decide +kernel
theorem dX8_step_56 : decode cX8_step 56 = .ok (.iconst 2, 1) := by decide +kernel
theorem dX8_step_57 : decode cX8_step 57 = .ok (.if_icmp .ne 61, 3) := by decide +kernel
theorem dX8_step_60 : decode cX8_step 60 = .ok (.iconst 0, 1) := by decide +kernel
theorem dX8_step_61 : decode cX8_step 61 = .ok (.istore 6, 2) := by decide +kernel
theorem dX8_step_63 : decode cX8_step 63 = .ok (.iload 6, 2) := by decide +kernel
theorem dX8_step_65 : decode cX8_step 65 = .ok (.aload_n 0, 1) := by decide +kernel
theorem dX8_step_66 : decode cX8_step 66 = .ok (.getfield 163, 3) := by decide +kernel
theorem dX8_step_69 : decode cX8_step 69 = .ok (.if_icmp .ge 31, 3) := by decide +kernel
theorem dX8_step_72 : decode cX8_step 72 = .ok (.aload_n 0, 1) := by decide +kernel
theorem dX8_step_73 : decode cX8_step 73 = .ok (.getfield 74, 3) := by decide +kernel
theorem dX8_step_76 : decode cX8_step 76 = .ok (.bipush 12, 2) := by decide +kernel
theorem dX8_step_78 : decode cX8_step 78 = .ok (.aload_n 0, 1) := by decide +kernel
theorem dX8_step_79 : decode cX8_step 79 = .ok (.getfield 176, 3) := by decide +kernel
theorem dX8_step_82 : decode cX8_step 82 = .ok (.imul, 1) := by decide +kernel
theorem dX8_step_83 : decode cX8_step 83 = .ok (.iload 6, 2) := by decide +kernel
theorem dX8_step_85 : decode cX8_step 85 = .ok (.iadd, 1) := by decide +kernel
theorem dX8_step_86 : decode cX8_step 86 = .ok (.aload_n 0, 1) := by decide +kernel
theorem dX8_step_87 : decode cX8_step 87 = .ok (.getfield 65, 3) := by decide +kernel
theorem dX8_step_90 : decode cX8_step 90 = .ok (.iload 6, 2) := by decide +kernel
theorem dX8_step_92 : decode cX8_step 92 = .ok (.iaload, 1) := by decide +kernel
theorem dX8_step_93 : decode cX8_step 93 = .ok (.iastore, 1) := by decide +kernel
theorem dX8_step_94 : decode cX8_step 94 = .ok (.iinc 6 1, 3) := by decide +kernel
theorem dX8_step_97 : decode cX8_step 97 = .ok (.goto (-34), 3) := by decide +kernel
theorem dX8_step_100 : decode cX8_step 100 = .ok (.aload_n 0, 1) := by decide +kernel
theorem dX8_step_101 : decode cX8_step 101 = .ok (.getfield 71, 3) := by decide +kernel
theorem dX8_step_104 : decode cX8_step 104 = .ok (.aload_n 0, 1) := by decide +kernel
theorem dX8_step_105 : decode cX8_step 105 = .ok (.getfield 176, 3) := by decide +kernel
theorem dX8_step_108 : decode cX8_step 108 = .ok (.aload_n 0, 1) := by decide +kernel
theorem dX8_step_109 : decode cX8_step 109 = .ok (.getfield 163, 3) := by decide +kernel
theorem dX8_step_112 : decode cX8_step 112 = .ok (.iastore, 1) := by decide +kernel
theorem dX8_step_113 : decode cX8_step 113 = .ok (.aload_n 0, 1) := by decide +kernel
theorem dX8_step_114 : decode cX8_step 114 = .ok (.iconst 0, 1) := by decide +kernel
theorem dX8_step_115 : decode cX8_step 115 = .ok (.putfield 163, 3) := by decide +kernel
theorem dX8_step_118 : decode cX8_step 118 = .ok (.aload_n 0, 1) := by decide +kernel
theorem dX8_step_119 : decode cX8_step 119 = .ok (.getfield 68, 3) := by decide +kernel
theorem dX8_step_122 : decode cX8_step 122 = .ok (.iconst 5, 1) := by decide +kernel
theorem dX8_step_123 : decode cX8_step 123 = .ok (.aload_n 0, 1) := by decide +kernel
theorem dX8_step_124 : decode cX8_step 124 = .ok (.getfield 176, 3) := by decide +kernel
theorem dX8_step_127 : decode cX8_step 127 = .ok (.imul, 1) := by decide +kernel
theorem dX8_step_128 : decode cX8_step 128 = .ok (.iload_n 1, 1) := by decide +kernel
theorem dX8_step_129 : decode cX8_step 129 = .ok (.iastore, 1) := by decide +kernel
theorem dX8_step_130 : decode cX8_step 130 = .ok (.aload_n 0, 1) := by decide +kernel
theorem dX8_step_131 : decode cX8_step 131 = .ok (.getfield 68, 3) := by decide +kernel
theorem dX8_step_134 : decode cX8_step 134 = .ok (.iconst 5, 1) := by decide +kernel
theorem dX8_step_135 : decode cX8_step 135 = .ok (.aload_n 0, 1) := by decide +kernel
theorem dX8_step_136 : decode cX8_step 136 = .ok (.getfield 176, 3) := by decide +kernel
theorem dX8_step_139 : decode cX8_step 139 = .ok (.imul, 1) := by decide +kernel
theorem dX8_step_140 : decode cX8_step 140 = .ok (.iconst 1, 1) := by decide +kernel
theorem dX8_step_141 : decode cX8_step 141 = .ok (.iadd, 1) := by decide +kernel
theorem dX8_step_142 : decode cX8_step 142 = .ok (.iload_n 2, 1) := by decide +kernel
theorem dX8_step_143 : decode cX8_step 143 = .ok (.iastore, 1) := by decide +kernel
theorem dX8_step_144 : decode cX8_step 144 = .ok (.aload_n 0, 1) := by decide +kernel
theorem dX8_step_145 : decode cX8_step 145 = .ok (.getfield 68, 3) := by decide +kernel
theorem dX8_step_148 : decode cX8_step 148 = .ok (.iconst 5, 1) := by decide +kernel
theorem dX8_step_149 : decode cX8_step 149 = .ok (.aload_n 0, 1) := by decide +kernel
theorem dX8_step_150 : decode cX8_step 150 = .ok (.getfield 176, 3) := by decide +kernel
theorem dX8_step_153 : decode cX8_step 153 = .ok (.imul, 1) := by decide +kernel
theorem dX8_step_154 : decode cX8_step 154 = .ok (.iconst 2, 1) := by decide +kernel
theorem dX8_step_155 : decode cX8_step 155 = .ok (.iadd, 1) := by decide +kernel
theorem dX8_step_156 : decode cX8_step 156 = .ok (.iload_n 3, 1) := by decide +kernel
theorem dX8_step_157 : decode cX8_step 157 = .ok (.iastore, 1) := by decide +kernel
theorem dX8_step_158 : decode cX8_step 158 = .ok (.aload_n 0, 1) := by decide +kernel
theorem dX8_step_159 : decode cX8_step 159 = .ok (.getfield 68, 3) := by decide +kernel
theorem dX8_step_162 : decode cX8_step 162 = .ok (.iconst 5, 1) := by decide +kernel
theorem dX8_step_163 : decode cX8_step 163 = .ok (.aload_n 0, 1) := by decide +kernel
theorem dX8_step_164 : decode cX8_step 164 = .ok (.getfield 176, 3) := by decide +kernel
theorem dX8_step_167 : decode cX8_step 167 = .ok (.imul, 1) := by decide +kernel
theorem dX8_step_168 : decode cX8_step 168 = .ok (.iconst 3, 1) := by decide +kernel
theorem dX8_step_169 : decode cX8_step 169 = .ok (.iadd, 1) := by decide +kernel
theorem dX8_step_170 : decode cX8_step 170 = .ok (.iload 4, 2) := by decide +kernel
theorem dX8_step_172 : decode cX8_step 172 = .ok (.iastore, 1) := by decide +kernel
theorem dX8_step_173 : decode cX8_step 173 = .ok (.aload_n 0, 1) := by decide +kernel
theorem dX8_step_174 : decode cX8_step 174 = .ok (.getfield 68, 3) := by decide +kernel
theorem dX8_step_177 : decode cX8_step 177 = .ok (.iconst 5, 1) := by decide +kernel
theorem dX8_step_178 : decode cX8_step 178 = .ok (.aload_n 0, 1) := by decide +kernel
theorem dX8_step_179 : decode cX8_step 179 = .ok (.getfield 176, 3) := by decide +kernel
theorem dX8_step_182 : decode cX8_step 182 = .ok (.imul, 1) := by decide +kernel
theorem dX8_step_183 : decode cX8_step 183 = .ok (.iconst 4, 1) := by decide +kernel
theorem dX8_step_184 : decode cX8_step 184 = .ok (.iadd, 1) := by decide +kernel
theorem dX8_step_185 : decode cX8_step 185 = .ok (.iload 5, 2) := by decide +kernel
theorem dX8_step_187 : decode cX8_step 187 = .ok (.iastore, 1) := by decide +kernel
theorem dX8_step_188 : decode cX8_step 188 = .ok (.aload_n 0, 1) := by decide +kernel
theorem dX8_step_189 : decode cX8_step 189 = .ok (.dup, 1) := by decide +kernel
theorem dX8_step_190 : decode cX8_step 190 = .ok (.getfield 176, 3) := by decide +kernel
theorem dX8_step_193 : decode cX8_step 193 = .ok (.iconst 1, 1) := by decide +kernel
theorem dX8_step_194 : decode cX8_step 194 = .ok (.iadd, 1) := by decide +kernel
theorem dX8_step_195 : decode cX8_step 195 = .ok (.putfield 176, 3) := by decide +kernel
theorem dX8_step_198 : decode cX8_step 198 = .ok (.aload_n 0, 1) := by decide +kernel
theorem dX8_step_199 : decode cX8_step 199 = .ok (.getfield 176, 3) := by decide +kernel
theorem dX8_step_202 : decode cX8_step 202 = .ok (.ireturn, 1) := by decide +kernel
theorem dX8_reckon_0 : decode cX8_reckon 0 = .ok (.iload_n 0, 1) := by decide +kernel
theorem dX8_reckon_1 : decode cX8_reckon 1 = .ok (.tableswitch 63 10 14 #[35, 39, 43, 47, 51], 35) := by decide +kernel
theorem dX8_reckon_36 : decode cX8_reckon 36 = .ok (.lload_n 1, 1) := by decide +kernel
theorem dX8_reckon_37 : decode cX8_reckon 37 = .ok (.lload_n 3, 1) := by decide +kernel
theorem dX8_reckon_38 : decode cX8_reckon 38 = .ok (.ladd, 1) := by decide +kernel
theorem dX8_reckon_39 : decode cX8_reckon 39 = .ok (.lreturn, 1) := by decide +kernel
theorem dX8_reckon_40 : decode cX8_reckon 40 = .ok (.lload_n 1, 1) := by decide +kernel
theorem dX8_reckon_41 : decode cX8_reckon 41 = .ok (.lload_n 3, 1) := by decide +kernel
theorem dX8_reckon_42 : decode cX8_reckon 42 = .ok (.lsub, 1) := by decide +kernel
theorem dX8_reckon_43 : decode cX8_reckon 43 = .ok (.lreturn, 1) := by decide +kernel
theorem dX8_reckon_44 : decode cX8_reckon 44 = .ok (.lload_n 1, 1) := by decide +kernel
theorem dX8_reckon_45 : decode cX8_reckon 45 = .ok (.lload_n 3, 1) := by decide +kernel
theorem dX8_reckon_46 : decode cX8_reckon 46 = .ok (.lmul, 1) := by decide +kernel
theorem dX8_reckon_47 : decode cX8_reckon 47 = .ok (.lreturn, 1) := by decide +kernel
theorem dX8_reckon_48 : decode cX8_reckon 48 = .ok (.lload_n 1, 1) := by decide +kernel
theorem dX8_reckon_49 : decode cX8_reckon 49 = .ok (.lload_n 3, 1) := by decide +kernel
theorem dX8_reckon_50 : decode cX8_reckon 50 = .ok (.ldiv, 1) := by decide +kernel
theorem dX8_reckon_51 : decode cX8_reckon 51 = .ok (.lreturn, 1) := by decide +kernel
theorem dX8_reckon_52 : decode cX8_reckon 52 = .ok (.lload_n 1, 1) := by decide +kernel
theorem dX8_reckon_53 : decode cX8_reckon 53 = .ok (.lload_n 3, 1) := by decide +kernel
theorem dX8_reckon_54 : decode cX8_reckon 54 = .ok (.lcmp, 1) := by decide +kernel
theorem dX8_reckon_55 : decode cX8_reckon 55 = .ok (.ifCond .ge 7, 3) := by decide +kernel
theorem dX8_reckon_58 : decode cX8_reckon 58 = .ok (.lload_n 1, 1) := by decide +kernel
theorem dX8_reckon_59 : decode cX8_reckon 59 = .ok (.goto 4, 3) := by decide +kernel
theorem dX8_reckon_62 : decode cX8_reckon 62 = .ok (.lload_n 3, 1) := by decide +kernel
theorem dX8_reckon_63 : decode cX8_reckon 63 = .ok (.lreturn, 1) := by decide +kernel
theorem dX8_reckon_64 : decode cX8_reckon 64 = .ok (.lload_n 1, 1) := by decide +kernel
theorem dX8_reckon_65 : decode cX8_reckon 65 = .ok (.lload_n 3, 1) := by decide +kernel
theorem dX8_reckon_66 : decode cX8_reckon 66 = .ok (.lcmp, 1) := by decide +kernel
theorem dX8_reckon_67 : decode cX8_reckon 67 = .ok (.ifCond .le 7, 3) := by decide +kernel
theorem dX8_reckon_70 : decode cX8_reckon 70 = .ok (.lload_n 1, 1) := by decide +kernel
theorem dX8_reckon_71 : decode cX8_reckon 71 = .ok (.goto 4, 3) := by decide +kernel
theorem dX8_reckon_74 : decode cX8_reckon 74 = .ok (.lload_n 3, 1) := by decide +kernel
theorem dX8_reckon_75 : decode cX8_reckon 75 = .ok (.lreturn, 1) := by decide +kernel
theorem dX8_size_0 : decode cX8_size 0 = .ok (.lload_n 0, 1) := by decide +kernel
theorem dX8_size_1 : decode cX8_size 1 = .ok (.lconst 0, 1) := by decide +kernel
theorem dX8_size_2 : decode cX8_size 2 = .ok (.lcmp, 1) := by decide +kernel
theorem dX8_size_3 : decode cX8_size 3 = .ok (.ifCond .ge 8, 3) := by decide +kernel
theorem dX8_size_6 : decode cX8_size 6 = .ok (.lload_n 0, 1) := by decide +kernel
theorem dX8_size_7 : decode cX8_size 7 = .ok (.lneg, 1) := by decide +kernel
theorem dX8_size_8 : decode cX8_size 8 = .ok (.goto 4, 3) := by decide +kernel
theorem dX8_size_11 : decode cX8_size 11 = .ok (.lload_n 0, 1) := by decide +kernel
theorem dX8_size_12 : decode cX8_size 12 = .ok (.lreturn, 1) := by decide +kernel
set_option maxRecDepth 20000 in
theorem ggX8_isFar_X8_size : GoodIn wsX8_isFar wsX8_size := goodIn_r _ [5] (by decide +kernel) (by decide +kernel)
set_option maxRecDepth 20000 in
theorem gX8_isFar_X8_size : GoodIn wsX8_isFar (va_wsS RX8 179 yX8_size wsX8_size) := goodIn_app (goodIn_of _ (by decide +kernel)) ggX8_isFar_X8_size
theorem dX8_isFar_0 : decode cX8_isFar 0 = .ok (.lload_n 0, 1) := by decide +kernel
theorem dX8_isFar_1 : decode cX8_isFar 1 = .ok (.lconst 0, 1) := by decide +kernel
theorem dX8_isFar_2 : decode cX8_isFar 2 = .ok (.lcmp, 1) := by decide +kernel
theorem dX8_isFar_3 : decode cX8_isFar 3 = .ok (.ifCond .eq 23, 3) := by decide +kernel
theorem dX8_isFar_6 : decode cX8_isFar 6 = .ok (.lload_n 2, 1) := by decide +kernel
theorem dX8_isFar_7 : decode cX8_isFar 7 = .ok (.invokestatic 179, 3) := by decide +kernel
theorem dX8_isFar_10 : decode cX8_isFar 10 = .ok (.ldc2_w 183, 3) := by decide +kernel
theorem dX8_isFar_13 : decode cX8_isFar 13 = .ok (.lload_n 0, 1) := by decide +kernel
theorem dX8_isFar_14 : decode cX8_isFar 14 = .ok (.invokestatic 179, 3) := by decide +kernel
theorem dX8_isFar_17 : decode cX8_isFar 17 = .ok (.ldiv, 1) := by decide +kernel
theorem dX8_isFar_18 : decode cX8_isFar 18 = .ok (.lcmp, 1) := by decide +kernel
theorem dX8_isFar_19 : decode cX8_isFar 19 = .ok (.ifCond .le 7, 3) := by decide +kernel
theorem dX8_isFar_22 : decode cX8_isFar 22 = .ok (.iconst 1, 1) := by decide +kernel
theorem dX8_isFar_23 : decode cX8_isFar 23 = .ok (.goto 4, 3) := by decide +kernel
theorem dX8_isFar_26 : decode cX8_isFar 26 = .ok (.iconst 0, 1) := by decide +kernel
theorem dX8_isFar_27 : decode cX8_isFar 27 = .ok (.ireturn, 1) := by decide +kernel
set_option maxRecDepth 20000 in
theorem ggX8_pair_X8_isFar : GoodIn wsX8_pair wsX8_isFar := goodIn_r _ [7, 8, 9, 10, 6, 11] (by decide +kernel) (by decide +kernel)
set_option maxRecDepth 20000 in
theorem gX8_pair_X8_isFar : GoodIn wsX8_pair (va_wsS RX8 188 yX8_isFar wsX8_isFar) := goodIn_app (goodIn_of _ (by decide +kernel)) ggX8_pair_X8_isFar
set_option maxRecDepth 20000 in
theorem ggX8_pair_X8_reckon : GoodIn wsX8_pair wsX8_reckon := goodIn_r _ [14] (by decide +kernel) (by decide +kernel)
set_option maxRecDepth 20000 in
theorem gX8_pair_X8_reckon : GoodIn wsX8_pair (va_wsS RX8 192 yX8_reckon wsX8_reckon) := goodIn_app (goodIn_of _ (by decide +kernel)) ggX8_pair_X8_reckon
theorem dX8_pair_0 : decode cX8_pair 0 = .ok (.aload_n 0, 1) := by decide +kernel
theorem dX8_pair_1 : decode cX8_pair 1 = .ok (.aload_n 0, 1) := by decide +kernel
theorem dX8_pair_2 : decode cX8_pair 2 = .ok (.getfield 185, 3) := by decide +kernel
theorem dX8_pair_5 : decode cX8_pair 5 = .ok (.iconst 2, 1) := by decide +kernel
theorem dX8_pair_6 : decode cX8_pair 6 = .ok (.isub, 1) := by decide +kernel
theorem dX8_pair_7 : decode cX8_pair 7 = .ok (.putfield 185, 3) := by decide +kernel
theorem dX8_pair_10 : decode cX8_pair 10 = .ok (.aload_n 0, 1) := by decide +kernel
theorem dX8_pair_11 : decode cX8_pair 11 = .ok (.getfield 108, 3) := by decide +kernel
theorem dX8_pair_14 : decode cX8_pair 14 = .ok (.aload_n 0, 1) := by decide +kernel
theorem dX8_pair_15 : decode cX8_pair 15 = .ok (.getfield 185, 3) := by decide +kernel
theorem dX8_pair_18 : decode cX8_pair 18 = .ok (.laload, 1) := by decide +kernel
theorem dX8_pair_19 : decode cX8_pair 19 = .ok (.lstore_n 2, 1) := by decide +kernel
theorem dX8_pair_20 : decode cX8_pair 20 = .ok (.aload_n 0, 1) := by decide +kernel
theorem dX8_pair_21 : decode cX8_pair 21 = .ok (.getfield 112, 3) := by decide +kernel
theorem dX8_pair_24 : decode cX8_pair 24 = .ok (.aload_n 0, 1) := by decide +kernel
theorem dX8_pair_25 : decode cX8_pair 25 = .ok (.getfield 185, 3) := by decide +kernel
theorem dX8_pair_28 : decode cX8_pair 28 = .ok (.laload, 1) := by decide +kernel
theorem dX8_pair_29 : decode cX8_pair 29 = .ok (.lstore 4, 2) := by decide +kernel
theorem dX8_pair_31 : decode cX8_pair 31 = .ok (.aload_n 0, 1) := by decide +kernel
theorem dX8_pair_32 : decode cX8_pair 32 = .ok (.getfield 108, 3) := by decide +kernel
theorem dX8_pair_35 : decode cX8_pair 35 = .ok (.aload_n 0, 1) := by decide +kernel
theorem dX8_pair_36 : decode cX8_pair 36 = .ok (.getfield 185, 3) := by decide +kernel
theorem dX8_pair_39 : decode cX8_pair 39 = .ok (.iconst 1, 1) := by decide +kernel
theorem dX8_pair_40 : decode cX8_pair 40 = .ok (.iadd, 1) := by decide +kernel
theorem dX8_pair_41 : decode cX8_pair 41 = .ok (.laload, 1) := by decide +kernel
theorem dX8_pair_42 : decode cX8_pair 42 = .ok (.lstore 6, 2) := by decide +kernel
theorem dX8_pair_44 : decode cX8_pair 44 = .ok (.aload_n 0, 1) := by decide +kernel
theorem dX8_pair_45 : decode cX8_pair 45 = .ok (.getfield 112, 3) := by decide +kernel
theorem dX8_pair_48 : decode cX8_pair 48 = .ok (.aload_n 0, 1) := by decide +kernel
theorem dX8_pair_49 : decode cX8_pair 49 = .ok (.getfield 185, 3) := by decide +kernel
theorem dX8_pair_52 : decode cX8_pair 52 = .ok (.iconst 1, 1) := by decide +kernel
theorem dX8_pair_53 : decode cX8_pair 53 = .ok (.iadd, 1) := by decide +kernel
theorem dX8_pair_54 : decode cX8_pair 54 = .ok (.laload, 1) := by decide +kernel
theorem dX8_pair_55 : decode cX8_pair 55 = .ok (.lstore 8, 2) := by decide +kernel
theorem dX8_pair_57 : decode cX8_pair 57 = .ok (.iload_n 1, 1) := by decide +kernel
theorem dX8_pair_58 : decode cX8_pair 58 = .ok (.bipush 13, 2) := by decide +kernel
theorem dX8_pair_60 : decode cX8_pair 60 = .ok (.if_icmp .ne 21, 3) := by decide +kernel
theorem dX8_pair_63 : decode cX8_pair 63 = .ok (.lload 6, 2) := by decide +kernel
theorem dX8_pair_65 : decode cX8_pair 65 = .ok (.lconst 0, 1) := by decide +kernel
theorem dX8_pair_66 : decode cX8_pair 66 = .ok (.lcmp, 1) := by decide +kernel
theorem dX8_pair_67 : decode cX8_pair 67 = .ok (.ifCond .gt 14, 3) := by decide +kernel
theorem dX8_pair_70 : decode cX8_pair 70 = .ok (.lload 8, 2) := by decide +kernel
theorem dX8_pair_72 : decode cX8_pair 72 = .ok (.lconst 0, 1) := by decide +kernel
theorem dX8_pair_73 : decode cX8_pair 73 = .ok (.lcmp, 1) := by decide +kernel
theorem dX8_pair_74 : decode cX8_pair 74 = .ok (.ifCond .lt 7, 3) := by decide +kernel
theorem dX8_pair_77 : decode cX8_pair 77 = .ok (.iconst 1, 1) := by decide +kernel
theorem dX8_pair_78 : decode cX8_pair 78 = .ok (.goto 4, 3) := by decide +kernel
theorem dX8_pair_81 : decode cX8_pair 81 = .ok (.iconst 0, 1) := by decide +kernel
theorem dX8_pair_82 : decode cX8_pair 82 = .ok (.istore 10, 2) := by decide +kernel
theorem dX8_pair_84 : decode cX8_pair 84 = .ok (.iload_n 1, 1) := by decide +kernel
theorem dX8_pair_85 : decode cX8_pair 85 = .ok (.bipush 12, 2) := by decide +kernel
theorem dX8_pair_87 : decode cX8_pair 87 = .ok (.if_icmp .ne 45, 3) := by decide +kernel
theorem dX8_pair_90 : decode cX8_pair 90 = .ok (.lload_n 2, 1) := by decide +kernel
theorem dX8_pair_91 : decode cX8_pair 91 = .ok (.lload 6, 2) := by decide +kernel
theorem dX8_pair_93 : decode cX8_pair 93 = .ok (.invokestatic 188, 3) := by decide +kernel
theorem dX8_pair_96 : decode cX8_pair 96 = .ok (.ifCond .ne 32, 3) := by decide +kernel
theorem dX8_pair_99 : decode cX8_pair 99 = .ok (.lload_n 2, 1) := by decide +kernel
theorem dX8_pair_100 : decode cX8_pair 100 = .ok (.lload 8, 2) := by decide +kernel
theorem dX8_pair_102 : decode cX8_pair 102 = .ok (.invokestatic 188, 3) := by decide +kernel
theorem dX8_pair_105 : decode cX8_pair 105 = .ok (.ifCond .ne 23, 3) := by decide +kernel
theorem dX8_pair_108 : decode cX8_pair 108 = .ok (.lload 4, 2) := by decide +kernel
theorem dX8_pair_110 : decode cX8_pair 110 = .ok (.lload 6, 2) := by decide +kernel
theorem dX8_pair_112 : decode cX8_pair 112 = .ok (.invokestatic 188, 3) := by decide +kernel
theorem dX8_pair_115 : decode cX8_pair 115 = .ok (.ifCond .ne 13, 3) := by decide +kernel
theorem dX8_pair_118 : decode cX8_pair 118 = .ok (.lload 4, 2) := by decide +kernel
theorem dX8_pair_120 : decode cX8_pair 120 = .ok (.lload 8, 2) := by decide +kernel
theorem dX8_pair_122 : decode cX8_pair 122 = .ok (.invokestatic 188, 3) := by decide +kernel
theorem dX8_pair_125 : decode cX8_pair 125 = .ok (.ifCond .eq 7, 3) := by decide +kernel
theorem dX8_pair_128 : decode cX8_pair 128 = .ok (.iconst 1, 1) := by decide +kernel
theorem dX8_pair_129 : decode cX8_pair 129 = .ok (.goto 4, 3) := by decide +kernel
theorem dX8_pair_132 : decode cX8_pair 132 = .ok (.iconst 0, 1) := by decide +kernel
theorem dX8_pair_133 : decode cX8_pair 133 = .ok (.istore 11, 2) := by decide +kernel
theorem dX8_pair_135 : decode cX8_pair 135 = .ok (.iload 10, 2) := by decide +kernel
theorem dX8_pair_137 : decode cX8_pair 137 = .ok (.ifCond .ne 8, 3) := by decide +kernel
theorem dX8_pair_140 : decode cX8_pair 140 = .ok (.iload 11, 2) := by decide +kernel
theorem dX8_pair_142 : decode cX8_pair 142 = .ok (.ifCond .eq 5, 3) := by decide +kernel
theorem dX8_pair_145 : decode cX8_pair 145 = .ok (.iconst 0, 1) := by decide +kernel
theorem dX8_pair_146 : decode cX8_pair 146 = .ok (.ireturn, 1) := by decide +kernel
theorem dX8_pair_147 : decode cX8_pair 147 = .ok (.iload_n 1, 1) := by decide +kernel
theorem dX8_pair_148 : decode cX8_pair 148 = .ok (.lload_n 2, 1) := by decide +kernel
theorem dX8_pair_149 : decode cX8_pair 149 = .ok (.lload 6, 2) := by decide +kernel
theorem dX8_pair_151 : decode cX8_pair 151 = .ok (.invokestatic 192, 3) := by decide +kernel
theorem dX8_pair_154 : decode cX8_pair 154 = .ok (.lstore 12, 2) := by decide +kernel
theorem dX8_pair_156 : decode cX8_pair 156 = .ok (.iload_n 1, 1) := by decide +kernel
theorem dX8_pair_157 : decode cX8_pair 157 = .ok (.lload_n 2, 1) := by decide +kernel
theorem dX8_pair_158 : decode cX8_pair 158 = .ok (.lload 8, 2) := by decide +kernel
theorem dX8_pair_160 : decode cX8_pair 160 = .ok (.invokestatic 192, 3) := by decide +kernel
theorem dX8_pair_163 : decode cX8_pair 163 = .ok (.lstore 14, 2) := by decide +kernel
theorem dX8_pair_165 : decode cX8_pair 165 = .ok (.iload_n 1, 1) := by decide +kernel
theorem dX8_pair_166 : decode cX8_pair 166 = .ok (.lload 4, 2) := by decide +kernel
theorem dX8_pair_168 : decode cX8_pair 168 = .ok (.lload 6, 2) := by decide +kernel
theorem dX8_pair_170 : decode cX8_pair 170 = .ok (.invokestatic 192, 3) := by decide +kernel
theorem dX8_pair_173 : decode cX8_pair 173 = .ok (.lstore 16, 2) := by decide +kernel
theorem dX8_pair_175 : decode cX8_pair 175 = .ok (.iload_n 1, 1) := by decide +kernel
theorem dX8_pair_176 : decode cX8_pair 176 = .ok (.lload 4, 2) := by decide +kernel
theorem dX8_pair_178 : decode cX8_pair 178 = .ok (.lload 8, 2) := by decide +kernel
theorem dX8_pair_180 : decode cX8_pair 180 = .ok (.invokestatic 192, 3) := by decide +kernel
theorem dX8_pair_183 : decode cX8_pair 183 = .ok (.lstore 18, 2) := by decide +kernel
theorem dX8_pair_185 : decode cX8_pair 185 = .ok (.aload_n 0, 1) := by decide +kernel
theorem dX8_pair_186 : decode cX8_pair 186 = .ok (.getfield 108, 3) := by decide +kernel
theorem dX8_pair_189 : decode cX8_pair 189 = .ok (.aload_n 0, 1) := by decide +kernel
theorem dX8_pair_190 : decode cX8_pair 190 = .ok (.getfield 185, 3) := by decide +kernel
theorem dX8_pair_193 : decode cX8_pair 193 = .ok (.bipush 14, 2) := by decide +kernel
theorem dX8_pair_195 : decode cX8_pair 195 = .ok (.bipush 14, 2) := by decide +kernel
theorem dX8_pair_197 : decode cX8_pair 197 = .ok (.lload 12, 2) := by decide +kernel
theorem dX8_pair_199 : decode cX8_pair 199 = .ok (.lload 14, 2) := by decide +kernel
theorem dX8_pair_201 : decode cX8_pair 201 = .ok (.invokestatic 192, 3) := by decide +kernel
theorem dX8_pair_204 : decode cX8_pair 204 = .ok (.bipush 14, 2) := by decide +kernel
theorem dX8_pair_206 : decode cX8_pair 206 = .ok (.lload 16, 2) := by decide +kernel
theorem dX8_pair_208 : decode cX8_pair 208 = .ok (.lload 18, 2) := by decide +kernel
theorem dX8_pair_210 : decode cX8_pair 210 = .ok (.invokestatic 192, 3) := by decide +kernel
theorem dX8_pair_213 : decode cX8_pair 213 = .ok (.invokestatic 192, 3) := by decide +kernel
theorem dX8_pair_216 : decode cX8_pair 216 = .ok (.lastore, 1) := by decide +kernel
theorem dX8_pair_217 : decode cX8_pair 217 = .ok (.aload_n 0, 1) := by decide +kernel
theorem dX8_pair_218 : decode cX8_pair 218 = .ok (.getfield 112, 3) := by decide +kernel
theorem dX8_pair_221 : decode cX8_pair 221 = .ok (.aload_n 0, 1) := by decide +kernel
theorem dX8_pair_222 : decode cX8_pair 222 = .ok (.getfield 185, 3) := by decide +kernel
theorem dX8_pair_225 : decode cX8_pair 225 = .ok (.bipush 15, 2) := by decide +kernel
theorem dX8_pair_227 : decode cX8_pair 227 = .ok (.bipush 15, 2) := by decide +kernel
theorem dX8_pair_229 : decode cX8_pair 229 = .ok (.lload 12, 2) := by decide +kernel
theorem dX8_pair_231 : decode cX8_pair 231 = .ok (.lload 14, 2) := by decide +kernel
theorem dX8_pair_233 : decode cX8_pair 233 = .ok (.invokestatic 192, 3) := by decide +kernel
theorem dX8_pair_236 : decode cX8_pair 236 = .ok (.bipush 15, 2) := by decide +kernel
theorem dX8_pair_238 : decode cX8_pair 238 = .ok (.lload 16, 2) := by decide +kernel
theorem dX8_pair_240 : decode cX8_pair 240 = .ok (.lload 18, 2) := by decide +kernel
theorem dX8_pair_242 : decode cX8_pair 242 = .ok (.invokestatic 192, 3) := by decide +kernel
theorem dX8_pair_245 : decode cX8_pair 245 = .ok (.invokestatic 192, 3) := by decide +kernel
theorem dX8_pair_248 : decode cX8_pair 248 = .ok (.lastore, 1) := by decide +kernel
theorem dX8_pair_249 : decode cX8_pair 249 = .ok (.aload_n 0, 1) := by decide +kernel
theorem dX8_pair_250 : decode cX8_pair 250 = .ok (.dup, 1) := by decide +kernel
theorem dX8_pair_251 : decode cX8_pair 251 = .ok (.getfield 185, 3) := by decide +kernel
theorem dX8_pair_254 : decode cX8_pair 254 = .ok (.iconst 1, 1) := by decide +kernel
theorem dX8_pair_255 : decode cX8_pair 255 = .ok (.iadd, 1) := by decide +kernel
theorem dX8_pair_256 : decode cX8_pair 256 = .ok (.putfield 185, 3) := by decide +kernel
theorem dX8_pair_259 : decode cX8_pair 259 = .ok (.iconst 1, 1) := by decide +kernel
theorem dX8_pair_260 : decode cX8_pair 260 = .ok (.ireturn, 1) := by decide +kernel
set_option maxRecDepth 20000 in
theorem ggX8_lay_X8_find : GoodIn wsX8_lay wsX8_find := goodIn_r _ [14, 15, 16, 30, 31, 32, 33, 34, 35, 36, 37, 38, 39, 40, 41, 42, 43, 44, 45, 46, 47, 48, 49, 50, 51, 52, 53, 54, 55, 56, 57, 58, 59, 60, 61, 62, 63, 64, 65, 66, 67, 68, 69, 70, 71, 72, 73] (by decide +kernel) (by decide +kernel)
set_option maxRecDepth 20000 in
theorem gX8_lay_X8_find : GoodIn wsX8_lay (wsV RX8 148 RX8 yX8_find wsX8_find) := goodIn_app (goodIn_of _ (by decide +kernel)) ggX8_lay_X8_find
set_option maxRecDepth 20000 in
theorem ggX8_lay_X8_pair : GoodIn wsX8_lay wsX8_pair := goodIn_r _ [20, 4, 3, 6, 21, 22, 13, 23, 9, 24, 25, 26, 27, 28, 29, 30, 31, 32, 33, 34, 35, 36, 37, 38, 39, 40, 41, 42, 43, 44, 45, 46, 47, 48, 49, 50, 51, 52, 53, 54, 55, 56, 57, 58, 59, 60, 61, 62, 63, 64, 65, 66, 67, 68, 69, 70, 71, 72, 73] (by decide +kernel) (by decide +kernel)
set_option maxRecDepth 20000 in
theorem gX8_lay_X8_pair : GoodIn wsX8_lay (wsV RX8 199 RX8 yX8_pair wsX8_pair) := goodIn_app (goodIn_of _ (by decide +kernel)) ggX8_lay_X8_pair
theorem dX8_lay_0 : decode cX8_lay 0 = .ok (.iload_n 1, 1) := by decide +kernel
theorem dX8_lay_1 : decode cX8_lay 1 = .ok (.bipush 10, 2) := by decide +kernel
theorem dX8_lay_3 : decode cX8_lay 3 = .ok (.if_icmp .ge 97, 3) := by decide +kernel
theorem dX8_lay_6 : decode cX8_lay 6 = .ok (.aload_n 0, 1) := by decide +kernel
theorem dX8_lay_7 : decode cX8_lay 7 = .ok (.aload_n 0, 1) := by decide +kernel
theorem dX8_lay_8 : decode cX8_lay 8 = .ok (.getfield 196, 3) := by decide +kernel
theorem dX8_lay_11 : decode cX8_lay 11 = .ok (.iload_n 1, 1) := by decide +kernel
theorem dX8_lay_12 : decode cX8_lay 12 = .ok (.invokevirtual 148, 3) := by decide +kernel
theorem dX8_lay_15 : decode cX8_lay 15 = .ok (.istore_n 2, 1) := by decide +kernel
theorem dX8_lay_16 : decode cX8_lay 16 = .ok (.iload_n 2, 1) := by decide +kernel
theorem dX8_lay_17 : decode cX8_lay 17 = .ok (.ifCond .lt 20, 3) := by decide +kernel
theorem dX8_lay_20 : decode cX8_lay 20 = .ok (.aload_n 0, 1) := by decide +kernel
theorem dX8_lay_21 : decode cX8_lay 21 = .ok (.getfield 23, 3) := by decide +kernel
theorem dX8_lay_24 : decode cX8_lay 24 = .ok (.bipush 6, 2) := by decide +kernel
theorem dX8_lay_26 : decode cX8_lay 26 = .ok (.aload_n 0, 1) := by decide +kernel
theorem dX8_lay_27 : decode cX8_lay 27 = .ok (.getfield 196, 3) := by decide +kernel
theorem dX8_lay_30 : decode cX8_lay 30 = .ok (.imul, 1) := by decide +kernel
theorem dX8_lay_31 : decode cX8_lay 31 = .ok (.iload_n 2, 1) := by decide +kernel
theorem dX8_lay_32 : decode cX8_lay 32 = .ok (.iadd, 1) := by decide +kernel
theorem dX8_lay_33 : decode cX8_lay 33 = .ok (.iaload, 1) := by decide +kernel
theorem dX8_lay_34 : decode cX8_lay 34 = .ok (.ifCond .eq 5, 3) := by decide +kernel
theorem dX8_lay_37 : decode cX8_lay 37 = .ok (.iconst 0, 1) := by decide +kernel
theorem dX8_lay_38 : decode cX8_lay 38 = .ok (.ireturn, 1) := by decide +kernel
theorem dX8_lay_39 : decode cX8_lay 39 = .ok (.aload_n 0, 1) := by decide +kernel
theorem dX8_lay_40 : decode cX8_lay 40 = .ok (.getfield 108, 3) := by decide +kernel
theorem dX8_lay_43 : decode cX8_lay 43 = .ok (.aload_n 0, 1) := by decide +kernel
theorem dX8_lay_44 : decode cX8_lay 44 = .ok (.getfield 185, 3) := by decide +kernel
theorem dX8_lay_47 : decode cX8_lay 47 = .ok (.aload_n 0, 1) := by decide +kernel
theorem dX8_lay_48 : decode cX8_lay 48 = .ok (.getfield 26, 3) := by decide +kernel
theorem dX8_lay_51 : decode cX8_lay 51 = .ok (.bipush 6, 2) := by decide +kernel
theorem dX8_lay_53 : decode cX8_lay 53 = .ok (.aload_n 0, 1) := by decide +kernel
theorem dX8_lay_54 : decode cX8_lay 54 = .ok (.getfield 196, 3) := by decide +kernel
theorem dX8_lay_57 : decode cX8_lay 57 = .ok (.imul, 1) := by decide +kernel
theorem dX8_lay_58 : decode cX8_lay 58 = .ok (.iload_n 2, 1) := by decide +kernel
theorem dX8_lay_59 : decode cX8_lay 59 = .ok (.iadd, 1) := by decide +kernel
theorem dX8_lay_60 : decode cX8_lay 60 = .ok (.iaload, 1) := by decide +kernel
theorem dX8_lay_61 : decode cX8_lay 61 = .ok (.i2l, 1) := by decide +kernel
theorem dX8_lay_62 : decode cX8_lay 62 = .ok (.lastore, 1) := by decide +kernel
theorem dX8_lay_63 : decode cX8_lay 63 = .ok (.aload_n 0, 1) := by decide +kernel
theorem dX8_lay_64 : decode cX8_lay 64 = .ok (.getfield 112, 3) := by decide +kernel
theorem dX8_lay_67 : decode cX8_lay 67 = .ok (.aload_n 0, 1) := by decide +kernel
theorem dX8_lay_68 : decode cX8_lay 68 = .ok (.getfield 185, 3) := by decide +kernel
theorem dX8_lay_71 : decode cX8_lay 71 = .ok (.aload_n 0, 1) := by decide +kernel
theorem dX8_lay_72 : decode cX8_lay 72 = .ok (.getfield 29, 3) := by decide +kernel
theorem dX8_lay_75 : decode cX8_lay 75 = .ok (.bipush 6, 2) := by decide +kernel
theorem dX8_lay_77 : decode cX8_lay 77 = .ok (.aload_n 0, 1) := by decide +kernel
theorem dX8_lay_78 : decode cX8_lay 78 = .ok (.getfield 196, 3) := by decide +kernel
theorem dX8_lay_81 : decode cX8_lay 81 = .ok (.imul, 1) := by decide +kernel
theorem dX8_lay_82 : decode cX8_lay 82 = .ok (.iload_n 2, 1) := by decide +kernel
theorem dX8_lay_83 : decode cX8_lay 83 = .ok (.iadd, 1) := by decide +kernel
theorem dX8_lay_84 : decode cX8_lay 84 = .ok (.iaload, 1) := by decide +kernel
theorem dX8_lay_85 : decode cX8_lay 85 = .ok (.i2l, 1) := by decide +kernel
theorem dX8_lay_86 : decode cX8_lay 86 = .ok (.lastore, 1) := by decide +kernel
theorem dX8_lay_87 : decode cX8_lay 87 = .ok (.aload_n 0, 1) := by decide +kernel
theorem dX8_lay_88 : decode cX8_lay 88 = .ok (.dup, 1) := by decide +kernel
theorem dX8_lay_89 : decode cX8_lay 89 = .ok (.getfield 185, 3) := by decide +kernel
theorem dX8_lay_92 : decode cX8_lay 92 = .ok (.iconst 1, 1) := by decide +kernel
theorem dX8_lay_93 : decode cX8_lay 93 = .ok (.iadd, 1) := by decide +kernel
theorem dX8_lay_94 : decode cX8_lay 94 = .ok (.putfield 185, 3) := by decide +kernel
theorem dX8_lay_97 : decode cX8_lay 97 = .ok (.goto 119, 3) := by decide +kernel
theorem dX8_lay_100 : decode cX8_lay 100 = .ok (.iload_n 1, 1) := by decide +kernel
theorem dX8_lay_101 : decode cX8_lay 101 = .ok (.bipush 100, 2) := by decide +kernel
theorem dX8_lay_103 : decode cX8_lay 103 = .ok (.if_icmp .lt 46, 3) := by decide +kernel
theorem dX8_lay_106 : decode cX8_lay 106 = .ok (.aload_n 0, 1) := by decide +kernel
theorem dX8_lay_107 : decode cX8_lay 107 = .ok (.getfield 108, 3) := by decide +kernel
theorem dX8_lay_110 : decode cX8_lay 110 = .ok (.aload_n 0, 1) := by decide +kernel
theorem dX8_lay_111 : decode cX8_lay 111 = .ok (.getfield 185, 3) := by decide +kernel
theorem dX8_lay_114 : decode cX8_lay 114 = .ok (.iload_n 1, 1) := by decide +kernel
theorem dX8_lay_115 : decode cX8_lay 115 = .ok (.sipush 200, 3) := by decide +kernel
theorem dX8_lay_118 : decode cX8_lay 118 = .ok (.isub, 1) := by decide +kernel
theorem dX8_lay_119 : decode cX8_lay 119 = .ok (.i2l, 1) := by decide +kernel
theorem dX8_lay_120 : decode cX8_lay 120 = .ok (.lastore, 1) := by decide +kernel
theorem dX8_lay_121 : decode cX8_lay 121 = .ok (.aload_n 0, 1) := by decide +kernel
theorem dX8_lay_122 : decode cX8_lay 122 = .ok (.getfield 112, 3) := by decide +kernel
theorem dX8_lay_125 : decode cX8_lay 125 = .ok (.aload_n 0, 1) := by decide +kernel
theorem dX8_lay_126 : decode cX8_lay 126 = .ok (.getfield 185, 3) := by decide +kernel
theorem dX8_lay_129 : decode cX8_lay 129 = .ok (.iload_n 1, 1) := by decide +kernel
theorem dX8_lay_130 : decode cX8_lay 130 = .ok (.sipush 200, 3) := by decide +kernel
theorem dX8_lay_133 : decode cX8_lay 133 = .ok (.isub, 1) := by decide +kernel
theorem dX8_lay_134 : decode cX8_lay 134 = .ok (.i2l, 1) := by decide +kernel
theorem dX8_lay_135 : decode cX8_lay 135 = .ok (.lastore, 1) := by decide +kernel
theorem dX8_lay_136 : decode cX8_lay 136 = .ok (.aload_n 0, 1) := by decide +kernel
theorem dX8_lay_137 : decode cX8_lay 137 = .ok (.dup, 1) := by decide +kernel
theorem dX8_lay_138 : decode cX8_lay 138 = .ok (.getfield 185, 3) := by decide +kernel
theorem dX8_lay_141 : decode cX8_lay 141 = .ok (.iconst 1, 1) := by decide +kernel
theorem dX8_lay_142 : decode cX8_lay 142 = .ok (.iadd, 1) := by decide +kernel
theorem dX8_lay_143 : decode cX8_lay 143 = .ok (.putfield 185, 3) := by decide +kernel
theorem dX8_lay_146 : decode cX8_lay 146 = .ok (.goto 70, 3) := by decide +kernel
theorem dX8_lay_149 : decode cX8_lay 149 = .ok (.iload_n 1, 1) := by decide +kernel
theorem dX8_lay_150 : decode cX8_lay 150 = .ok (.bipush 16, 2) := by decide +kernel
theorem dX8_lay_152 : decode cX8_lay 152 = .ok (.if_icmp .ne 54, 3) := by decide +kernel
theorem dX8_lay_155 : decode cX8_lay 155 = .ok (.aload_n 0, 1) := by decide +kernel
theorem dX8_lay_156 : decode cX8_lay 156 = .ok (.getfield 108, 3) := by decide +kernel
theorem dX8_lay_159 : decode cX8_lay 159 = .ok (.aload_n 0, 1) := by decide +kernel
theorem dX8_lay_160 : decode cX8_lay 160 = .ok (.getfield 185, 3) := by decide +kernel
theorem dX8_lay_163 : decode cX8_lay 163 = .ok (.iconst 1, 1) := by decide +kernel
theorem dX8_lay_164 : decode cX8_lay 164 = .ok (.isub, 1) := by decide +kernel
theorem dX8_lay_165 : decode cX8_lay 165 = .ok (.laload, 1) := by decide +kernel
theorem dX8_lay_166 : decode cX8_lay 166 = .ok (.lstore_n 2, 1) := by decide +kernel
theorem dX8_lay_167 : decode cX8_lay 167 = .ok (.aload_n 0, 1) := by decide +kernel
theorem dX8_lay_168 : decode cX8_lay 168 = .ok (.getfield 108, 3) := by decide +kernel
theorem dX8_lay_171 : decode cX8_lay 171 = .ok (.aload_n 0, 1) := by decide +kernel
theorem dX8_lay_172 : decode cX8_lay 172 = .ok (.getfield 185, 3) := by decide +kernel
theorem dX8_lay_175 : decode cX8_lay 175 = .ok (.iconst 1, 1) := by decide +kernel
theorem dX8_lay_176 : decode cX8_lay 176 = .ok (.isub, 1) := by decide +kernel
theorem dX8_lay_177 : decode cX8_lay 177 = .ok (.aload_n 0, 1) := by decide +kernel
theorem dX8_lay_178 : decode cX8_lay 178 = .ok (.getfield 112, 3) := by decide +kernel
theorem dX8_lay_181 : decode cX8_lay 181 = .ok (.aload_n 0, 1) := by decide +kernel
theorem dX8_lay_182 : decode cX8_lay 182 = .ok (.getfield 185, 3) := by decide +kernel
theorem dX8_lay_185 : decode cX8_lay 185 = .ok (.iconst 1, 1) := by decide +kernel
theorem dX8_lay_186 : decode cX8_lay 186 = .ok (.isub, 1) := by decide +kernel
theorem dX8_lay_187 : decode cX8_lay 187 = .ok (.laload, 1) := by decide +kernel
theorem dX8_lay_188 : decode cX8_lay 188 = .ok (.lneg, 1) := by decide +kernel
theorem dX8_lay_189 : decode cX8_lay 189 = .ok (.lastore, 1) := by decide +kernel
theorem dX8_lay_190 : decode cX8_lay 190 = .ok (.aload_n 0, 1) := by decide +kernel
theorem dX8_lay_191 : decode cX8_lay 191 = .ok (.getfield 112, 3) := by decide +kernel
theorem dX8_lay_194 : decode cX8_lay 194 = .ok (.aload_n 0, 1) := by decide +kernel
theorem dX8_lay_195 : decode cX8_lay 195 = .ok (.getfield 185, 3) := by decide +kernel
theorem dX8_lay_198 : decode cX8_lay 198 = .ok (.iconst 1, 1) := by decide +kernel
theorem dX8_lay_199 : decode cX8_lay 199 = .ok (.isub, 1) := by decide +kernel
theorem dX8_lay_200 : decode cX8_lay 200 = .ok (.lload_n 2, 1) := by decide +kernel
theorem dX8_lay_201 : decode cX8_lay 201 = .ok (.lneg, 1) := by decide +kernel
theorem dX8_lay_202 : decode cX8_lay 202 = .ok (.lastore, 1) := by decide +kernel
theorem dX8_lay_203 : decode cX8_lay 203 = .ok (.goto 13, 3) := by decide +kernel
theorem dX8_lay_206 : decode cX8_lay 206 = .ok (.aload_n 0, 1) := by decide +kernel
theorem dX8_lay_207 : decode cX8_lay 207 = .ok (.iload_n 1, 1) := by decide +kernel
theorem dX8_lay_208 : decode cX8_lay 208 = .ok (.invokevirtual 199, 3) := by decide +kernel
theorem dX8_lay_211 : decode cX8_lay 211 = .ok (.ifCond .ne 5, 3) := by decide +kernel
theorem dX8_lay_214 : decode cX8_lay 214 = .ok (.iconst 0, 1) := by decide +kernel
theorem dX8_lay_215 : decode cX8_lay 215 = .ok (.ireturn, 1) := by decide +kernel
theorem dX8_lay_216 : decode cX8_lay 216 = .ok (.aload_n 0, 1) := by decide +kernel
theorem dX8_lay_217 : decode cX8_lay 217 = .ok (.getfield 108, 3) := by decide +kernel
theorem dX8_lay_220 : decode cX8_lay 220 = .ok (.aload_n 0, 1) := by decide +kernel
theorem dX8_lay_221 : decode cX8_lay 221 = .ok (.getfield 185, 3) := by decide +kernel
theorem dX8_lay_224 : decode cX8_lay 224 = .ok (.iconst 1, 1) := by decide +kernel
theorem dX8_lay_225 : decode cX8_lay 225 = .ok (.isub, 1) := by decide +kernel
theorem dX8_lay_226 : decode cX8_lay 226 = .ok (.laload, 1) := by decide +kernel
theorem dX8_lay_227 : decode cX8_lay 227 = .ok (.ldc2_w 202, 3) := by decide +kernel
theorem dX8_lay_230 : decode cX8_lay 230 = .ok (.lcmp, 1) := by decide +kernel
theorem dX8_lay_231 : decode cX8_lay 231 = .ok (.ifCond .lt 25, 3) := by decide +kernel
theorem dX8_lay_234 : decode cX8_lay 234 = .ok (.aload_n 0, 1) := by decide +kernel
theorem dX8_lay_235 : decode cX8_lay 235 = .ok (.getfield 112, 3) := by decide +kernel
theorem dX8_lay_238 : decode cX8_lay 238 = .ok (.aload_n 0, 1) := by decide +kernel
theorem dX8_lay_239 : decode cX8_lay 239 = .ok (.getfield 185, 3) := by decide +kernel
theorem dX8_lay_242 : decode cX8_lay 242 = .ok (.iconst 1, 1) := by decide +kernel
theorem dX8_lay_243 : decode cX8_lay 243 = .ok (.isub, 1) := by decide +kernel
theorem dX8_lay_244 : decode cX8_lay 244 = .ok (.laload, 1) := by decide +kernel
theorem dX8_lay_245 : decode cX8_lay 245 = .ok (.ldc2_w 183, 3) := by decide +kernel
theorem dX8_lay_248 : decode cX8_lay 248 = .ok (.lcmp, 1) := by decide +kernel
theorem dX8_lay_249 : decode cX8_lay 249 = .ok (.ifCond .gt 7, 3) := by decide +kernel
theorem dX8_lay_252 : decode cX8_lay 252 = .ok (.iconst 1, 1) := by decide +kernel
theorem dX8_lay_253 : decode cX8_lay 253 = .ok (.goto 4, 3) := by decide +kernel
theorem dX8_lay_256 : decode cX8_lay 256 = .ok (.iconst 0, 1) := by decide +kernel
theorem dX8_lay_257 : decode cX8_lay 257 = .ok (.ireturn, 1) := by decide +kernel
set_option maxRecDepth 20000 in
theorem ggX8_fits_X8_lay : GoodIn wsX8_fits wsX8_lay := goodIn_r _ [10, 11, 12, 4, 1, 13, 5, 14, 15, 16, 17, 18, 19, 9, 20, 21, 22, 23, 24, 25, 26, 27, 28, 29, 30, 31, 32, 33, 34, 35, 36, 37, 38, 39, 40, 41, 42, 43, 44, 45, 46, 47, 48, 49, 50, 51, 52, 53, 54, 55, 56, 57, 58, 59, 60, 61, 62, 63, 64, 65, 66, 67, 68, 69, 70, 71, 72, 73, 74, 75, 76, 77, 78, 79] (by decide +kernel) (by decide +kernel)
set_option maxRecDepth 20000 in
theorem gX8_fits_X8_lay : GoodIn wsX8_fits (wsV RX8 204 RX8 yX8_lay wsX8_lay) := goodIn_app (goodIn_of _ (by decide +kernel)) ggX8_fits_X8_lay
theorem dX8_fits_0 : decode cX8_fits 0 = .ok (.aload_n 0, 1) := by decide +kernel
theorem dX8_fits_1 : decode cX8_fits 1 = .ok (.iconst 0, 1) := by decide +kernel
theorem dX8_fits_2 : decode cX8_fits 2 = .ok (.putfield 185, 3) := by decide +kernel
theorem dX8_fits_5 : decode cX8_fits 5 = .ok (.iconst 0, 1) := by decide +kernel
theorem dX8_fits_6 : decode cX8_fits 6 = .ok (.istore 4, 2) := by decide +kernel
theorem dX8_fits_8 : decode cX8_fits 8 = .ok (.iload 4, 2) := by decide +kernel
theorem dX8_fits_10 : decode cX8_fits 10 = .ok (.aload_n 0, 1) := by decide +kernel
theorem dX8_fits_11 : decode cX8_fits 11 = .ok (.getfield 71, 3) := by decide +kernel
theorem dX8_fits_14 : decode cX8_fits 14 = .ok (.iload_n 1, 1) := by decide +kernel
theorem dX8_fits_15 : decode cX8_fits 15 = .ok (.iaload, 1) := by decide +kernel
theorem dX8_fits_16 : decode cX8_fits 16 = .ok (.if_icmp .ge 30, 3) := by decide +kernel
theorem dX8_fits_19 : decode cX8_fits 19 = .ok (.aload_n 0, 1) := by decide +kernel
theorem dX8_fits_20 : decode cX8_fits 20 = .ok (.aload_n 0, 1) := by decide +kernel
theorem dX8_fits_21 : decode cX8_fits 21 = .ok (.getfield 74, 3) := by decide +kernel
theorem dX8_fits_24 : decode cX8_fits 24 = .ok (.bipush 12, 2) := by decide +kernel
theorem dX8_fits_26 : decode cX8_fits 26 = .ok (.iload_n 1, 1) := by decide +kernel
theorem dX8_fits_27 : decode cX8_fits 27 = .ok (.imul, 1) := by decide +kernel
theorem dX8_fits_28 : decode cX8_fits 28 = .ok (.iload 4, 2) := by decide +kernel
theorem dX8_fits_30 : decode cX8_fits 30 = .ok (.iadd, 1) := by decide +kernel
theorem dX8_fits_31 : decode cX8_fits 31 = .ok (.iaload, 1) := by decide +kernel
theorem dX8_fits_32 : decode cX8_fits 32 = .ok (.invokevirtual 204, 3) := by decide +kernel
theorem dX8_fits_35 : decode cX8_fits 35 = .ok (.ifCond .ne 5, 3) := by decide +kernel
theorem dX8_fits_38 : decode cX8_fits 38 = .ok (.iconst 0, 1) := by decide +kernel
theorem dX8_fits_39 : decode cX8_fits 39 = .ok (.ireturn, 1) := by decide +kernel
theorem dX8_fits_40 : decode cX8_fits 40 = .ok (.iinc 4 1, 3) := by decide +kernel
theorem dX8_fits_43 : decode cX8_fits 43 = .ok (.goto (-35), 3) := by decide +kernel
theorem dX8_fits_46 : decode cX8_fits 46 = .ok (.aload_n 0, 1) := by decide +kernel
theorem dX8_fits_47 : decode cX8_fits 47 = .ok (.getfield 108, 3) := by decide +kernel
theorem dX8_fits_50 : decode cX8_fits 50 = .ok (.iconst 0, 1) := by decide +kernel
theorem dX8_fits_51 : decode cX8_fits 51 = .ok (.laload, 1) := by decide +kernel
theorem dX8_fits_52 : decode cX8_fits 52 = .ok (.iload_n 2, 1) := by decide +kernel
theorem dX8_fits_53 : decode cX8_fits 53 = .ok (.i2l, 1) := by decide +kernel
theorem dX8_fits_54 : decode cX8_fits 54 = .ok (.lcmp, 1) := by decide +kernel
theorem dX8_fits_55 : decode cX8_fits 55 = .ok (.ifCond .lt 19, 3) := by decide +kernel
theorem dX8_fits_58 : decode cX8_fits 58 = .ok (.aload_n 0, 1) := by decide +kernel
theorem dX8_fits_59 : decode cX8_fits 59 = .ok (.getfield 112, 3) := by decide +kernel
theorem dX8_fits_62 : decode cX8_fits 62 = .ok (.iconst 0, 1) := by decide +kernel
theorem dX8_fits_63 : decode cX8_fits 63 = .ok (.laload, 1) := by decide +kernel
theorem dX8_fits_64 : decode cX8_fits 64 = .ok (.iload_n 3, 1) := by decide +kernel
theorem dX8_fits_65 : decode cX8_fits 65 = .ok (.i2l, 1) := by decide +kernel
theorem dX8_fits_66 : decode cX8_fits 66 = .ok (.lcmp, 1) := by decide +kernel
theorem dX8_fits_67 : decode cX8_fits 67 = .ok (.ifCond .gt 7, 3) := by decide +kernel
theorem dX8_fits_70 : decode cX8_fits 70 = .ok (.iconst 1, 1) := by decide +kernel
theorem dX8_fits_71 : decode cX8_fits 71 = .ok (.goto 4, 3) := by decide +kernel
theorem dX8_fits_74 : decode cX8_fits 74 = .ok (.iconst 0, 1) := by decide +kernel
theorem dX8_fits_75 : decode cX8_fits 75 = .ok (.ireturn, 1) := by decide +kernel
set_option maxRecDepth 20000 in
theorem ggX8_value_X8_find : GoodIn wsX8_value wsX8_find := goodIn_r _ [11, 12, 13, 17, 18, 19, 20, 21, 22, 23, 24, 25, 26, 27, 28, 29, 30, 31, 32, 33, 34, 35, 36, 37, 38, 39, 40, 41, 42, 43, 44, 45, 46, 47, 48, 49, 50, 51, 52, 53, 54, 55, 56, 57, 58, 59, 60] (by decide +kernel) (by decide +kernel)
set_option maxRecDepth 20000 in
theorem gX8_value_X8_find : GoodIn wsX8_value (wsV RX8 148 RX8 yX8_find wsX8_find) := goodIn_app (goodIn_of _ (by decide +kernel)) ggX8_value_X8_find
set_option maxRecDepth 20000 in
theorem ggX8_value_X8_reckon : GoodIn wsX8_value wsX8_reckon := goodIn_r _ [16] (by decide +kernel) (by decide +kernel)
set_option maxRecDepth 20000 in
theorem gX8_value_X8_reckon : GoodIn wsX8_value (va_wsS RX8 192 yX8_reckon wsX8_reckon) := goodIn_app (goodIn_of _ (by decide +kernel)) ggX8_value_X8_reckon
theorem dX8_value_0 : decode cX8_value 0 = .ok (.aload_n 0, 1) := by decide +kernel
theorem dX8_value_1 : decode cX8_value 1 = .ok (.iconst 0, 1) := by decide +kernel
theorem dX8_value_2 : decode cX8_value 2 = .ok (.putfield 185, 3) := by decide +kernel
theorem dX8_value_5 : decode cX8_value 5 = .ok (.iconst 0, 1) := by decide +kernel
theorem dX8_value_6 : decode cX8_value 6 = .ok (.istore_n 3, 1) := by decide +kernel
theorem dX8_value_7 : decode cX8_value 7 = .ok (.iload_n 3, 1) := by decide +kernel
theorem dX8_value_8 : decode cX8_value 8 = .ok (.aload_n 0, 1) := by decide +kernel
theorem dX8_value_9 : decode cX8_value 9 = .ok (.getfield 71, 3) := by decide +kernel
theorem dX8_value_12 : decode cX8_value 12 = .ok (.iload_n 1, 1) := by decide +kernel
theorem dX8_value_13 : decode cX8_value 13 = .ok (.iaload, 1) := by decide +kernel
theorem dX8_value_14 : decode cX8_value 14 = .ok (.if_icmp .ge 175, 3) := by decide +kernel
theorem dX8_value_17 : decode cX8_value 17 = .ok (.aload_n 0, 1) := by decide +kernel
theorem dX8_value_18 : decode cX8_value 18 = .ok (.getfield 74, 3) := by decide +kernel
theorem dX8_value_21 : decode cX8_value 21 = .ok (.bipush 12, 2) := by decide +kernel
theorem dX8_value_23 : decode cX8_value 23 = .ok (.iload_n 1, 1) := by decide +kernel
theorem dX8_value_24 : decode cX8_value 24 = .ok (.imul, 1) := by decide +kernel
theorem dX8_value_25 : decode cX8_value 25 = .ok (.iload_n 3, 1) := by decide +kernel
theorem dX8_value_26 : decode cX8_value 26 = .ok (.iadd, 1) := by decide +kernel
theorem dX8_value_27 : decode cX8_value 27 = .ok (.iaload, 1) := by decide +kernel
theorem dX8_value_28 : decode cX8_value 28 = .ok (.istore 4, 2) := by decide +kernel
theorem dX8_value_30 : decode cX8_value 30 = .ok (.iload 4, 2) := by decide +kernel
theorem dX8_value_32 : decode cX8_value 32 = .ok (.bipush 10, 2) := by decide +kernel
theorem dX8_value_34 : decode cX8_value 34 = .ok (.if_icmp .lt 10, 3) := by decide +kernel
theorem dX8_value_37 : decode cX8_value 37 = .ok (.iload 4, 2) := by decide +kernel
theorem dX8_value_39 : decode cX8_value 39 = .ok (.bipush 100, 2) := by decide +kernel
theorem dX8_value_41 : decode cX8_value 41 = .ok (.if_icmp .lt 63, 3) := by decide +kernel
theorem dX8_value_44 : decode cX8_value 44 = .ok (.aload_n 0, 1) := by decide +kernel
theorem dX8_value_45 : decode cX8_value 45 = .ok (.getfield 108, 3) := by decide +kernel
theorem dX8_value_48 : decode cX8_value 48 = .ok (.aload_n 0, 1) := by decide +kernel
theorem dX8_value_49 : decode cX8_value 49 = .ok (.getfield 185, 3) := by decide +kernel
theorem dX8_value_52 : decode cX8_value 52 = .ok (.iload 4, 2) := by decide +kernel
theorem dX8_value_54 : decode cX8_value 54 = .ok (.bipush 10, 2) := by decide +kernel
theorem dX8_value_56 : decode cX8_value 56 = .ok (.if_icmp .ge 27, 3) := by decide +kernel
theorem dX8_value_59 : decode cX8_value 59 = .ok (.aload_n 0, 1) := by decide +kernel
theorem dX8_value_60 : decode cX8_value 60 = .ok (.getfield 53, 3) := by decide +kernel
theorem dX8_value_63 : decode cX8_value 63 = .ok (.bipush 6, 2) := by decide +kernel
theorem dX8_value_65 : decode cX8_value 65 = .ok (.iload_n 2, 1) := by decide +kernel
theorem dX8_value_66 : decode cX8_value 66 = .ok (.imul, 1) := by decide +kernel
theorem dX8_value_67 : decode cX8_value 67 = .ok (.aload_n 0, 1) := by decide +kernel
theorem dX8_value_68 : decode cX8_value 68 = .ok (.aload_n 0, 1) := by decide +kernel
theorem dX8_value_69 : decode cX8_value 69 = .ok (.getfield 196, 3) := by decide +kernel
theorem dX8_value_72 : decode cX8_value 72 = .ok (.iload 4, 2) := by decide +kernel
theorem dX8_value_74 : decode cX8_value 74 = .ok (.invokevirtual 148, 3) := by decide +kernel
theorem dX8_value_77 : decode cX8_value 77 = .ok (.iadd, 1) := by decide +kernel
theorem dX8_value_78 : decode cX8_value 78 = .ok (.iaload, 1) := by decide +kernel
theorem dX8_value_79 : decode cX8_value 79 = .ok (.i2l, 1) := by decide +kernel
theorem dX8_value_80 : decode cX8_value 80 = .ok (.goto 10, 3) := by decide +kernel
theorem dX8_value_83 : decode cX8_value 83 = .ok (.iload 4, 2) := by decide +kernel
theorem dX8_value_85 : decode cX8_value 85 = .ok (.sipush 200, 3) := by decide +kernel
theorem dX8_value_88 : decode cX8_value 88 = .ok (.isub, 1) := by decide +kernel
theorem dX8_value_89 : decode cX8_value 89 = .ok (.i2l, 1) := by decide +kernel
theorem dX8_value_90 : decode cX8_value 90 = .ok (.lastore, 1) := by decide +kernel
theorem dX8_value_91 : decode cX8_value 91 = .ok (.aload_n 0, 1) := by decide +kernel
theorem dX8_value_92 : decode cX8_value 92 = .ok (.dup, 1) := by decide +kernel
theorem dX8_value_93 : decode cX8_value 93 = .ok (.getfield 185, 3) := by decide +kernel
theorem dX8_value_96 : decode cX8_value 96 = .ok (.iconst 1, 1) := by decide +kernel
theorem dX8_value_97 : decode cX8_value 97 = .ok (.iadd, 1) := by decide +kernel
theorem dX8_value_98 : decode cX8_value 98 = .ok (.putfield 185, 3) := by decide +kernel
theorem dX8_value_101 : decode cX8_value 101 = .ok (.goto 82, 3) := by decide +kernel
theorem dX8_value_104 : decode cX8_value 104 = .ok (.iload 4, 2) := by decide +kernel
theorem dX8_value_106 : decode cX8_value 106 = .ok (.bipush 16, 2) := by decide +kernel
theorem dX8_value_108 : decode cX8_value 108 = .ok (.if_icmp .ne 29, 3) := by decide +kernel
theorem dX8_value_111 : decode cX8_value 111 = .ok (.aload_n 0, 1) := by decide +kernel
theorem dX8_value_112 : decode cX8_value 112 = .ok (.getfield 108, 3) := by decide +kernel
theorem dX8_value_115 : decode cX8_value 115 = .ok (.aload_n 0, 1) := by decide +kernel
theorem dX8_value_116 : decode cX8_value 116 = .ok (.getfield 185, 3) := by decide +kernel
theorem dX8_value_119 : decode cX8_value 119 = .ok (.iconst 1, 1) := by decide +kernel
theorem dX8_value_120 : decode cX8_value 120 = .ok (.isub, 1) := by decide +kernel
theorem dX8_value_121 : decode cX8_value 121 = .ok (.aload_n 0, 1) := by decide +kernel
theorem dX8_value_122 : decode cX8_value 122 = .ok (.getfield 108, 3) := by decide +kernel
theorem dX8_value_125 : decode cX8_value 125 = .ok (.aload_n 0, 1) := by decide +kernel
theorem dX8_value_126 : decode cX8_value 126 = .ok (.getfield 185, 3) := by decide +kernel
theorem dX8_value_129 : decode cX8_value 129 = .ok (.iconst 1, 1) := by decide +kernel
theorem dX8_value_130 : decode cX8_value 130 = .ok (.isub, 1) := by decide +kernel
theorem dX8_value_131 : decode cX8_value 131 = .ok (.laload, 1) := by decide +kernel
theorem dX8_value_132 : decode cX8_value 132 = .ok (.lneg, 1) := by decide +kernel
theorem dX8_value_133 : decode cX8_value 133 = .ok (.lastore, 1) := by decide +kernel
theorem dX8_value_134 : decode cX8_value 134 = .ok (.goto 49, 3) := by decide +kernel
theorem dX8_value_137 : decode cX8_value 137 = .ok (.aload_n 0, 1) := by decide +kernel
theorem dX8_value_138 : decode cX8_value 138 = .ok (.dup, 1) := by decide +kernel
theorem dX8_value_139 : decode cX8_value 139 = .ok (.getfield 185, 3) := by decide +kernel
theorem dX8_value_142 : decode cX8_value 142 = .ok (.iconst 1, 1) := by decide +kernel
theorem dX8_value_143 : decode cX8_value 143 = .ok (.isub, 1) := by decide +kernel
theorem dX8_value_144 : decode cX8_value 144 = .ok (.putfield 185, 3) := by decide +kernel
theorem dX8_value_147 : decode cX8_value 147 = .ok (.aload_n 0, 1) := by decide +kernel
theorem dX8_value_148 : decode cX8_value 148 = .ok (.getfield 108, 3) := by decide +kernel
theorem dX8_value_151 : decode cX8_value 151 = .ok (.aload_n 0, 1) := by decide +kernel
theorem dX8_value_152 : decode cX8_value 152 = .ok (.getfield 185, 3) := by decide +kernel
theorem dX8_value_155 : decode cX8_value 155 = .ok (.iconst 1, 1) := by decide +kernel
theorem dX8_value_156 : decode cX8_value 156 = .ok (.isub, 1) := by decide +kernel
theorem dX8_value_157 : decode cX8_value 157 = .ok (.iload 4, 2) := by decide +kernel
theorem dX8_value_159 : decode cX8_value 159 = .ok (.aload_n 0, 1) := by decide +kernel
theorem dX8_value_160 : decode cX8_value 160 = .ok (.getfield 108, 3) := by decide +kernel
theorem dX8_value_163 : decode cX8_value 163 = .ok (.aload_n 0, 1) := by decide +kernel
theorem dX8_value_164 : decode cX8_value 164 = .ok (.getfield 185, 3) := by decide +kernel
theorem dX8_value_167 : decode cX8_value 167 = .ok (.iconst 1, 1) := by decide +kernel
theorem dX8_value_168 : decode cX8_value 168 = .ok (.isub, 1) := by decide +kernel
theorem dX8_value_169 : decode cX8_value 169 = .ok (.laload, 1) := by decide +kernel
theorem dX8_value_170 : decode cX8_value 170 = .ok (.aload_n 0, 1) := by decide +kernel
theorem dX8_value_171 : decode cX8_value 171 = .ok (.getfield 108, 3) := by decide +kernel
theorem dX8_value_174 : decode cX8_value 174 = .ok (.aload_n 0, 1) := by decide +kernel
theorem dX8_value_175 : decode cX8_value 175 = .ok (.getfield 185, 3) := by decide +kernel
theorem dX8_value_178 : decode cX8_value 178 = .ok (.laload, 1) := by decide +kernel
theorem dX8_value_179 : decode cX8_value 179 = .ok (.invokestatic 192, 3) := by decide +kernel
theorem dX8_value_182 : decode cX8_value 182 = .ok (.lastore, 1) := by decide +kernel
theorem dX8_value_183 : decode cX8_value 183 = .ok (.iinc 3 1, 3) := by decide +kernel
theorem dX8_value_186 : decode cX8_value 186 = .ok (.goto (-179), 3) := by decide +kernel
theorem dX8_value_189 : decode cX8_value 189 = .ok (.aload_n 0, 1) := by decide +kernel
theorem dX8_value_190 : decode cX8_value 190 = .ok (.getfield 108, 3) := by decide +kernel
theorem dX8_value_193 : decode cX8_value 193 = .ok (.iconst 0, 1) := by decide +kernel
theorem dX8_value_194 : decode cX8_value 194 = .ok (.laload, 1) := by decide +kernel
theorem dX8_value_195 : decode cX8_value 195 = .ok (.l2i, 1) := by decide +kernel
theorem dX8_value_196 : decode cX8_value 196 = .ok (.ireturn, 1) := by decide +kernel
theorem dX8_findDraft_0 : decode cX8_findDraft 0 = .ok (.iconst (-1), 1) := by decide +kernel
theorem dX8_findDraft_1 : decode cX8_findDraft 1 = .ok (.istore_n 2, 1) := by decide +kernel
theorem dX8_findDraft_2 : decode cX8_findDraft 2 = .ok (.iconst 0, 1) := by decide +kernel
theorem dX8_findDraft_3 : decode cX8_findDraft 3 = .ok (.istore_n 3, 1) := by decide +kernel
theorem dX8_findDraft_4 : decode cX8_findDraft 4 = .ok (.iload_n 3, 1) := by decide +kernel
theorem dX8_findDraft_5 : decode cX8_findDraft 5 = .ok (.aload_n 0, 1) := by decide +kernel
theorem dX8_findDraft_6 : decode cX8_findDraft 6 = .ok (.getfield 207, 3) := by decide +kernel
theorem dX8_findDraft_9 : decode cX8_findDraft 9 = .ok (.if_icmp .ge 25, 3) := by decide +kernel
theorem dX8_findDraft_12 : decode cX8_findDraft 12 = .ok (.aload_n 0, 1) := by decide +kernel
theorem dX8_findDraft_13 : decode cX8_findDraft 13 = .ok (.getfield 81, 3) := by decide +kernel
theorem dX8_findDraft_16 : decode cX8_findDraft 16 = .ok (.iload_n 3, 1) := by decide +kernel
theorem dX8_findDraft_17 : decode cX8_findDraft 17 = .ok (.iaload, 1) := by decide +kernel
theorem dX8_findDraft_18 : decode cX8_findDraft 18 = .ok (.iload_n 1, 1) := by decide +kernel
theorem dX8_findDraft_19 : decode cX8_findDraft 19 = .ok (.if_icmp .ne 7, 3) := by decide +kernel
theorem dX8_findDraft_22 : decode cX8_findDraft 22 = .ok (.iload_n 3, 1) := by decide +kernel
theorem dX8_findDraft_23 : decode cX8_findDraft 23 = .ok (.goto 4, 3) := by decide +kernel
theorem dX8_findDraft_26 : decode cX8_findDraft 26 = .ok (.iload_n 2, 1) := by decide +kernel
theorem dX8_findDraft_27 : decode cX8_findDraft 27 = .ok (.istore_n 2, 1) := by decide +kernel
theorem dX8_findDraft_28 : decode cX8_findDraft 28 = .ok (.iinc 3 1, 3) := by decide +kernel
theorem dX8_findDraft_31 : decode cX8_findDraft 31 = .ok (.goto (-27), 3) := by decide +kernel
theorem dX8_findDraft_34 : decode cX8_findDraft 34 = .ok (.iload_n 2, 1) := by decide +kernel
theorem dX8_findDraft_35 : decode cX8_findDraft 35 = .ok (.ireturn, 1) := by decide +kernel
theorem dX8_takeField_0 : decode cX8_takeField 0 = .ok (.aload_n 0, 1) := by decide +kernel
theorem dX8_takeField_1 : decode cX8_takeField 1 = .ok (.dup, 1) := by decide +kernel
theorem dX8_takeField_2 : decode cX8_takeField 2 = .ok (.getfield 207, 3) := by decide +kernel
theorem dX8_takeField_5 : decode cX8_takeField 5 = .ok (.iconst 1, 1) := by decide +kernel
theorem dX8_takeField_6 : decode cX8_takeField 6 = .ok (.isub, 1) := by decide +kernel
theorem dX8_takeField_7 : decode cX8_takeField 7 = .ok (.putfield 207, 3) := by decide +kernel
theorem dX8_takeField_10 : decode cX8_takeField 10 = .ok (.iload_n 1, 1) := by decide +kernel
theorem dX8_takeField_11 : decode cX8_takeField 11 = .ok (.istore_n 2, 1) := by decide +kernel
theorem dX8_takeField_12 : decode cX8_takeField 12 = .ok (.iload_n 2, 1) := by decide +kernel
theorem dX8_takeField_13 : decode cX8_takeField 13 = .ok (.aload_n 0, 1) := by decide +kernel
theorem dX8_takeField_14 : decode cX8_takeField 14 = .ok (.getfield 207, 3) := by decide +kernel
theorem dX8_takeField_17 : decode cX8_takeField 17 = .ok (.if_icmp .ge 117, 3) := by decide +kernel
theorem dX8_takeField_20 : decode cX8_takeField 20 = .ok (.aload_n 0, 1) := by decide +kernel
theorem dX8_takeField_21 : decode cX8_takeField 21 = .ok (.getfield 81, 3) := by decide +kernel
theorem dX8_takeField_24 : decode cX8_takeField 24 = .ok (.iload_n 2, 1) := by decide +kernel
theorem dX8_takeField_25 : decode cX8_takeField 25 = .ok (.aload_n 0, 1) := by decide +kernel
theorem dX8_takeField_26 : decode cX8_takeField 26 = .ok (.getfield 81, 3) := by decide +kernel
theorem dX8_takeField_29 : decode cX8_takeField 29 = .ok (.iload_n 2, 1) := by decide +kernel
theorem dX8_takeField_30 : decode cX8_takeField 30 = .ok (.iconst 1, 1) := by decide +kernel
theorem dX8_takeField_31 : decode cX8_takeField 31 = .ok (.iadd, 1) := by decide +kernel
theorem dX8_takeField_32 : decode cX8_takeField 32 = .ok (.iaload, 1) := by decide +kernel
theorem dX8_takeField_33 : decode cX8_takeField 33 = .ok (.iastore, 1) := by decide +kernel
theorem dX8_takeField_34 : decode cX8_takeField 34 = .ok (.aload_n 0, 1) := by decide +kernel
theorem dX8_takeField_35 : decode cX8_takeField 35 = .ok (.getfield 84, 3) := by decide +kernel
theorem dX8_takeField_38 : decode cX8_takeField 38 = .ok (.iload_n 2, 1) := by decide +kernel
theorem dX8_takeField_39 : decode cX8_takeField 39 = .ok (.aload_n 0, 1) := by decide +kernel
theorem dX8_takeField_40 : decode cX8_takeField 40 = .ok (.getfield 84, 3) := by decide +kernel
theorem dX8_takeField_43 : decode cX8_takeField 43 = .ok (.iload_n 2, 1) := by decide +kernel
theorem dX8_takeField_44 : decode cX8_takeField 44 = .ok (.iconst 1, 1) := by decide +kernel
theorem dX8_takeField_45 : decode cX8_takeField 45 = .ok (.iadd, 1) := by decide +kernel
theorem dX8_takeField_46 : decode cX8_takeField 46 = .ok (.iaload, 1) := by decide +kernel
theorem dX8_takeField_47 : decode cX8_takeField 47 = .ok (.iastore, 1) := by decide +kernel
theorem dX8_takeField_48 : decode cX8_takeField 48 = .ok (.aload_n 0, 1) := by decide +kernel
theorem dX8_takeField_49 : decode cX8_takeField 49 = .ok (.getfield 87, 3) := by decide +kernel
theorem dX8_takeField_52 : decode cX8_takeField 52 = .ok (.iload_n 2, 1) := by decide +kernel
theorem dX8_takeField_53 : decode cX8_takeField 53 = .ok (.aload_n 0, 1) := by decide +kernel
theorem dX8_takeField_54 : decode cX8_takeField 54 = .ok (.getfield 87, 3) := by decide +kernel
theorem dX8_takeField_57 : decode cX8_takeField 57 = .ok (.iload_n 2, 1) := by decide +kernel
theorem dX8_takeField_58 : decode cX8_takeField 58 = .ok (.iconst 1, 1) := by decide +kernel
theorem dX8_takeField_59 : decode cX8_takeField 59 = .ok (.iadd, 1) := by decide +kernel
theorem dX8_takeField_60 : decode cX8_takeField 60 = .ok (.iaload, 1) := by decide +kernel
theorem dX8_takeField_61 : decode cX8_takeField 61 = .ok (.iastore, 1) := by decide +kernel
theorem dX8_takeField_62 : decode cX8_takeField 62 = .ok (.aload_n 0, 1) := by decide +kernel
theorem dX8_takeField_63 : decode cX8_takeField 63 = .ok (.getfield 90, 3) := by decide +kernel
theorem dX8_takeField_66 : decode cX8_takeField 66 = .ok (.iload_n 2, 1) := by decide +kernel
theorem dX8_takeField_67 : decode cX8_takeField 67 = .ok (.aload_n 0, 1) := by decide +kernel
theorem dX8_takeField_68 : decode cX8_takeField 68 = .ok (.getfield 90, 3) := by decide +kernel
theorem dX8_takeField_71 : decode cX8_takeField 71 = .ok (.iload_n 2, 1) := by decide +kernel
theorem dX8_takeField_72 : decode cX8_takeField 72 = .ok (.iconst 1, 1) := by decide +kernel
theorem dX8_takeField_73 : decode cX8_takeField 73 = .ok (.iadd, 1) := by decide +kernel
theorem dX8_takeField_74 : decode cX8_takeField 74 = .ok (.iaload, 1) := by decide +kernel
theorem dX8_takeField_75 : decode cX8_takeField 75 = .ok (.iastore, 1) := by decide +kernel
theorem dX8_takeField_76 : decode cX8_takeField 76 = .ok (.aload_n 0, 1) := by decide +kernel
theorem dX8_takeField_77 : decode cX8_takeField 77 = .ok (.getfield 93, 3) := by decide +kernel
theorem dX8_takeField_80 : decode cX8_takeField 80 = .ok (.iload_n 2, 1) := by decide +kernel
theorem dX8_takeField_81 : decode cX8_takeField 81 = .ok (.aload_n 0, 1) := by decide +kernel
theorem dX8_takeField_82 : decode cX8_takeField 82 = .ok (.getfield 93, 3) := by decide +kernel
theorem dX8_takeField_85 : decode cX8_takeField 85 = .ok (.iload_n 2, 1) := by decide +kernel
theorem dX8_takeField_86 : decode cX8_takeField 86 = .ok (.iconst 1, 1) := by decide +kernel
theorem dX8_takeField_87 : decode cX8_takeField 87 = .ok (.iadd, 1) := by decide +kernel
theorem dX8_takeField_88 : decode cX8_takeField 88 = .ok (.iaload, 1) := by decide +kernel
theorem dX8_takeField_89 : decode cX8_takeField 89 = .ok (.iastore, 1) := by decide +kernel
theorem dX8_takeField_90 : decode cX8_takeField 90 = .ok (.iconst 0, 1) := by decide +kernel
theorem dX8_takeField_91 : decode cX8_takeField 91 = .ok (.istore_n 3, 1) := by decide +kernel
theorem dX8_takeField_92 : decode cX8_takeField 92 = .ok (.iload_n 3, 1) := by decide +kernel
theorem dX8_takeField_93 : decode cX8_takeField 93 = .ok (.bipush 24, 2) := by decide +kernel
theorem dX8_takeField_95 : decode cX8_takeField 95 = .ok (.if_icmp .ge 33, 3) := by decide +kernel
theorem dX8_takeField_98 : decode cX8_takeField 98 = .ok (.aload_n 0, 1) := by decide +kernel
theorem dX8_takeField_99 : decode cX8_takeField 99 = .ok (.getfield 96, 3) := by decide +kernel
theorem dX8_takeField_102 : decode cX8_takeField 102 = .ok (.bipush 6, 2) := by decide +kernel
theorem dX8_takeField_104 : decode cX8_takeField 104 = .ok (.iload_n 3, 1) := by decide +kernel
theorem dX8_takeField_105 : decode cX8_takeField 105 = .ok (.imul, 1) := by decide +kernel
theorem dX8_takeField_106 : decode cX8_takeField 106 = .ok (.iload_n 2, 1) := by decide +kernel
theorem dX8_takeField_107 : decode cX8_takeField 107 = .ok (.iadd, 1) := by decide +kernel
theorem dX8_takeField_108 : decode cX8_takeField 108 = .ok (.aload_n 0, 1) := by decide +kernel
theorem dX8_takeField_109 : decode cX8_takeField 109 = .ok (.getfield 96, 3) := by decide +kernel
theorem dX8_takeField_112 : decode cX8_takeField 112 = .ok (.bipush 6, 2) := by decide +kernel
theorem dX8_takeField_114 : decode cX8_takeField 114 = .ok (.iload_n 3, 1) := by decide +kernel
theorem dX8_takeField_115 : decode cX8_takeField 115 = .ok (.imul, 1) := by decide +kernel
theorem dX8_takeField_116 : decode cX8_takeField 116 = .ok (.iload_n 2, 1) := by decide +kernel
theorem dX8_takeField_117 : decode cX8_takeField 117 = .ok (.iadd, 1) := by decide +kernel
theorem dX8_takeField_118 : decode cX8_takeField 118 = .ok (.iconst 1, 1) := by decide +kernel
theorem dX8_takeField_119 : decode cX8_takeField 119 = .ok (.iadd, 1) := by decide +kernel
theorem dX8_takeField_120 : decode cX8_takeField 120 = .ok (.iaload, 1) := by decide +kernel
theorem dX8_takeField_121 : decode cX8_takeField 121 = .ok (.iastore, 1) := by decide +kernel
theorem dX8_takeField_122 : decode cX8_takeField 122 = .ok (.iinc 3 1, 3) := by decide +kernel
theorem dX8_takeField_125 : decode cX8_takeField 125 = .ok (.goto (-33), 3) := by decide +kernel
theorem dX8_takeField_128 : decode cX8_takeField 128 = .ok (.iinc 2 1, 3) := by decide +kernel
theorem dX8_takeField_131 : decode cX8_takeField 131 = .ok (.goto (-119), 3) := by decide +kernel
theorem dX8_takeField_134 : decode cX8_takeField 134 = .ok (.return_, 1) := by decide +kernel
set_option maxRecDepth 20000 in
theorem ggX8_append_X8_findDraft : GoodIn wsX8_append wsX8_findDraft := goodIn_r _ [11, 1, 2, 12, 13, 14, 15, 16, 17, 18, 19, 20, 21, 22, 23, 24, 25, 26, 27, 28, 29, 30, 31, 32, 33, 34, 35, 36, 37, 38, 39, 40, 41, 42, 43, 44, 45, 46, 47, 48, 49, 50, 51, 52, 53, 54, 55] (by decide +kernel) (by decide +kernel)
set_option maxRecDepth 20000 in
theorem gX8_append_X8_findDraft : GoodIn wsX8_append (wsV RX8 210 RX8 yX8_findDraft wsX8_findDraft) := goodIn_app (goodIn_of _ (by decide +kernel)) ggX8_append_X8_findDraft
theorem dX8_append_0 : decode cX8_append 0 = .ok (.aload_n 0, 1) := by decide +kernel
theorem dX8_append_1 : decode cX8_append 1 = .ok (.iload_n 1, 1) := by decide +kernel
theorem dX8_append_2 : decode cX8_append 2 = .ok (.invokevirtual 210, 3) := by decide +kernel
theorem dX8_append_5 : decode cX8_append 5 = .ok (.ifCond .ge 12, 3) := by decide +kernel
theorem dX8_append_8 : decode cX8_append 8 = .ok (.aload_n 0, 1) := by decide +kernel
theorem dX8_append_9 : decode cX8_append 9 = .ok (.getfield 207, 3) := by decide +kernel
theorem dX8_append_12 : decode cX8_append 12 = .ok (.bipush 6, 2) := by decide +kernel
theorem dX8_append_14 : decode cX8_append 14 = .ok (.if_icmp .ne 5, 3) := by decide +kernel
theorem dX8_append_17 : decode cX8_append 17 = .ok (.iconst 0, 1) := by decide +kernel
theorem dX8_append_18 : decode cX8_append 18 = .ok (.ireturn, 1) := by decide +kernel
theorem dX8_append_19 : decode cX8_append 19 = .ok (.aload_n 0, 1) := by decide +kernel
theorem dX8_append_20 : decode cX8_append 20 = .ok (.getfield 81, 3) := by decide +kernel
theorem dX8_append_23 : decode cX8_append 23 = .ok (.aload_n 0, 1) := by decide +kernel
theorem dX8_append_24 : decode cX8_append 24 = .ok (.getfield 207, 3) := by decide +kernel
theorem dX8_append_27 : decode cX8_append 27 = .ok (.iload_n 1, 1) := by decide +kernel
theorem dX8_append_28 : decode cX8_append 28 = .ok (.iastore, 1) := by decide +kernel
theorem dX8_append_29 : decode cX8_append 29 = .ok (.aload_n 0, 1) := by decide +kernel
theorem dX8_append_30 : decode cX8_append 30 = .ok (.getfield 84, 3) := by decide +kernel
theorem dX8_append_33 : decode cX8_append 33 = .ok (.aload_n 0, 1) := by decide +kernel
theorem dX8_append_34 : decode cX8_append 34 = .ok (.getfield 207, 3) := by decide +kernel
theorem dX8_append_37 : decode cX8_append 37 = .ok (.iload_n 2, 1) := by decide +kernel
theorem dX8_append_38 : decode cX8_append 38 = .ok (.iastore, 1) := by decide +kernel
theorem dX8_append_39 : decode cX8_append 39 = .ok (.aload_n 0, 1) := by decide +kernel
theorem dX8_append_40 : decode cX8_append 40 = .ok (.getfield 87, 3) := by decide +kernel
theorem dX8_append_43 : decode cX8_append 43 = .ok (.aload_n 0, 1) := by decide +kernel
theorem dX8_append_44 : decode cX8_append 44 = .ok (.getfield 207, 3) := by decide +kernel
theorem dX8_append_47 : decode cX8_append 47 = .ok (.iload_n 3, 1) := by decide +kernel
theorem dX8_append_48 : decode cX8_append 48 = .ok (.iastore, 1) := by decide +kernel
theorem dX8_append_49 : decode cX8_append 49 = .ok (.aload_n 0, 1) := by decide +kernel
theorem dX8_append_50 : decode cX8_append 50 = .ok (.getfield 90, 3) := by decide +kernel
theorem dX8_append_53 : decode cX8_append 53 = .ok (.aload_n 0, 1) := by decide +kernel
theorem dX8_append_54 : decode cX8_append 54 = .ok (.getfield 207, 3) := by decide +kernel
theorem dX8_append_57 : decode cX8_append 57 = .ok (.iload 4, 2) := by decide +kernel
theorem dX8_append_59 : decode cX8_append 59 = .ok (.iastore, 1) := by decide +kernel
theorem dX8_append_60 : decode cX8_append 60 = .ok (.aload_n 0, 1) := by decide +kernel
theorem dX8_append_61 : decode cX8_append 61 = .ok (.getfield 93, 3) := by decide +kernel
theorem dX8_append_64 : decode cX8_append 64 = .ok (.aload_n 0, 1) := by decide +kernel
theorem dX8_append_65 : decode cX8_append 65 = .ok (.getfield 207, 3) := by decide +kernel
theorem dX8_append_68 : decode cX8_append 68 = .ok (.iconst (-1), 1) := by decide +kernel
theorem dX8_append_69 : decode cX8_append 69 = .ok (.iastore, 1) := by decide +kernel
theorem dX8_append_70 : decode cX8_append 70 = .ok (.aload_n 0, 1) := by decide +kernel
theorem dX8_append_71 : decode cX8_append 71 = .ok (.dup, 1) := by decide +kernel
theorem dX8_append_72 : decode cX8_append 72 = .ok (.getfield 207, 3) := by decide +kernel
theorem dX8_append_75 : decode cX8_append 75 = .ok (.iconst 1, 1) := by decide +kernel
theorem dX8_append_76 : decode cX8_append 76 = .ok (.iadd, 1) := by decide +kernel
theorem dX8_append_77 : decode cX8_append 77 = .ok (.putfield 207, 3) := by decide +kernel
theorem dX8_append_80 : decode cX8_append 80 = .ok (.iconst 1, 1) := by decide +kernel
theorem dX8_append_81 : decode cX8_append 81 = .ok (.ireturn, 1) := by decide +kernel
theorem dX8_hasNumbersAlone_0 : decode cX8_hasNumbersAlone 0 = .ok (.iconst 1, 1) := by decide +kernel
theorem dX8_hasNumbersAlone_1 : decode cX8_hasNumbersAlone 1 = .ok (.istore_n 2, 1) := by decide +kernel
theorem dX8_hasNumbersAlone_2 : decode cX8_hasNumbersAlone 2 = .ok (.iconst 0, 1) := by decide +kernel
theorem dX8_hasNumbersAlone_3 : decode cX8_hasNumbersAlone 3 = .ok (.istore_n 3, 1) := by decide +kernel
theorem dX8_hasNumbersAlone_4 : decode cX8_hasNumbersAlone 4 = .ok (.iload_n 3, 1) := by decide +kernel
theorem dX8_hasNumbersAlone_5 : decode cX8_hasNumbersAlone 5 = .ok (.aload_n 0, 1) := by decide +kernel
theorem dX8_hasNumbersAlone_6 : decode cX8_hasNumbersAlone 6 = .ok (.getfield 17, 3) := by decide +kernel
theorem dX8_hasNumbersAlone_9 : decode cX8_hasNumbersAlone 9 = .ok (.iload_n 1, 1) := by decide +kernel
theorem dX8_hasNumbersAlone_10 : decode cX8_hasNumbersAlone 10 = .ok (.iaload, 1) := by decide +kernel
theorem dX8_hasNumbersAlone_11 : decode cX8_hasNumbersAlone 11 = .ok (.if_icmp .ge 33, 3) := by decide +kernel
theorem dX8_hasNumbersAlone_14 : decode cX8_hasNumbersAlone 14 = .ok (.iload_n 2, 1) := by decide +kernel
theorem dX8_hasNumbersAlone_15 : decode cX8_hasNumbersAlone 15 = .ok (.ifCond .eq 21, 3) := by decide +kernel
theorem dX8_hasNumbersAlone_18 : decode cX8_hasNumbersAlone 18 = .ok (.aload_n 0, 1) := by decide +kernel
theorem dX8_hasNumbersAlone_19 : decode cX8_hasNumbersAlone 19 = .ok (.getfield 23, 3) := by decide +kernel
theorem dX8_hasNumbersAlone_22 : decode cX8_hasNumbersAlone 22 = .ok (.bipush 6, 2) := by decide +kernel
theorem dX8_hasNumbersAlone_24 : decode cX8_hasNumbersAlone 24 = .ok (.iload_n 1, 1) := by decide +kernel
theorem dX8_hasNumbersAlone_25 : decode cX8_hasNumbersAlone 25 = .ok (.imul, 1) := by decide +kernel
theorem dX8_hasNumbersAlone_26 : decode cX8_hasNumbersAlone 26 = .ok (.iload_n 3, 1) := by decide +kernel
theorem dX8_hasNumbersAlone_27 : decode cX8_hasNumbersAlone 27 = .ok (.iadd, 1) := by decide +kernel
theorem dX8_hasNumbersAlone_28 : decode cX8_hasNumbersAlone 28 = .ok (.iaload, 1) := by decide +kernel
theorem dX8_hasNumbersAlone_29 : decode cX8_hasNumbersAlone 29 = .ok (.ifCond .ne 7, 3) := by decide +kernel
theorem dX8_hasNumbersAlone_32 : decode cX8_hasNumbersAlone 32 = .ok (.iconst 1, 1) := by decide +kernel
theorem dX8_hasNumbersAlone_33 : decode cX8_hasNumbersAlone 33 = .ok (.goto 4, 3) := by decide +kernel
theorem dX8_hasNumbersAlone_36 : decode cX8_hasNumbersAlone 36 = .ok (.iconst 0, 1) := by decide +kernel
theorem dX8_hasNumbersAlone_37 : decode cX8_hasNumbersAlone 37 = .ok (.istore_n 2, 1) := by decide +kernel
theorem dX8_hasNumbersAlone_38 : decode cX8_hasNumbersAlone 38 = .ok (.iinc 3 1, 3) := by decide +kernel
theorem dX8_hasNumbersAlone_41 : decode cX8_hasNumbersAlone 41 = .ok (.goto (-37), 3) := by decide +kernel
theorem dX8_hasNumbersAlone_44 : decode cX8_hasNumbersAlone 44 = .ok (.iload_n 2, 1) := by decide +kernel
theorem dX8_hasNumbersAlone_45 : decode cX8_hasNumbersAlone 45 = .ok (.ireturn, 1) := by decide +kernel
set_option maxRecDepth 20000 in
theorem ggX8_dropField_X8_findDraft : GoodIn wsX8_dropField wsX8_findDraft := goodIn_r _ [6, 7, 8, 17, 18, 19, 20, 21, 22, 23, 24, 25, 26, 27, 28, 29, 30, 31, 32, 33, 34, 35, 36, 37, 38, 39, 40, 41, 42, 43, 44, 45, 46, 47, 48, 49, 50, 51, 52, 53, 54, 55, 56, 57, 58, 59, 60] (by decide +kernel) (by decide +kernel)
set_option maxRecDepth 20000 in
theorem gX8_dropField_X8_findDraft : GoodIn wsX8_dropField (wsV RX8 210 RX8 yX8_findDraft wsX8_findDraft) := goodIn_app (goodIn_of _ (by decide +kernel)) ggX8_dropField_X8_findDraft
set_option maxRecDepth 20000 in
theorem ggX8_dropField_X8_takeField : GoodIn wsX8_dropField wsX8_takeField := goodIn_r _ [12, 7, 8, 1, 13, 14, 15, 16, 17, 18, 19, 20, 21, 22, 23, 24, 25, 26, 27, 28, 29, 30, 31, 32, 33, 34, 35, 36, 37, 38, 39, 40, 41, 42, 43, 44, 45, 46, 47, 48, 49, 50, 51, 52, 53, 54, 55, 56, 57, 58, 59, 60] (by decide +kernel) (by decide +kernel)
set_option maxRecDepth 20000 in
theorem gX8_dropField_X8_takeField : GoodIn wsX8_dropField (wsV RX8 213 RX8 yX8_takeField wsX8_takeField) := goodIn_app (goodIn_of _ (by decide +kernel)) ggX8_dropField_X8_takeField
theorem dX8_dropField_0 : decode cX8_dropField 0 = .ok (.aload_n 0, 1) := by decide +kernel
theorem dX8_dropField_1 : decode cX8_dropField 1 = .ok (.iload_n 1, 1) := by decide +kernel
theorem dX8_dropField_2 : decode cX8_dropField 2 = .ok (.invokevirtual 210, 3) := by decide +kernel
theorem dX8_dropField_5 : decode cX8_dropField 5 = .ok (.istore_n 2, 1) := by decide +kernel
theorem dX8_dropField_6 : decode cX8_dropField 6 = .ok (.iload_n 2, 1) := by decide +kernel
theorem dX8_dropField_7 : decode cX8_dropField 7 = .ok (.ifCond .lt 13, 3) := by decide +kernel
theorem dX8_dropField_10 : decode cX8_dropField 10 = .ok (.aload_n 0, 1) := by decide +kernel
theorem dX8_dropField_11 : decode cX8_dropField 11 = .ok (.getfield 84, 3) := by decide +kernel
theorem dX8_dropField_14 : decode cX8_dropField 14 = .ok (.iload_n 2, 1) := by decide +kernel
theorem dX8_dropField_15 : decode cX8_dropField 15 = .ok (.iaload, 1) := by decide +kernel
theorem dX8_dropField_16 : decode cX8_dropField 16 = .ok (.iconst 2, 1) := by decide +kernel
theorem dX8_dropField_17 : decode cX8_dropField 17 = .ok (.if_icmp .ne 5, 3) := by decide +kernel
theorem dX8_dropField_20 : decode cX8_dropField 20 = .ok (.iconst 0, 1) := by decide +kernel
theorem dX8_dropField_21 : decode cX8_dropField 21 = .ok (.ireturn, 1) := by decide +kernel
theorem dX8_dropField_22 : decode cX8_dropField 22 = .ok (.aload_n 0, 1) := by decide +kernel
theorem dX8_dropField_23 : decode cX8_dropField 23 = .ok (.iload_n 2, 1) := by decide +kernel
theorem dX8_dropField_24 : decode cX8_dropField 24 = .ok (.invokevirtual 213, 3) := by decide +kernel
theorem dX8_dropField_27 : decode cX8_dropField 27 = .ok (.iconst 1, 1) := by decide +kernel
theorem dX8_dropField_28 : decode cX8_dropField 28 = .ok (.ireturn, 1) := by decide +kernel
set_option maxRecDepth 20000 in
theorem ggX8_nameField_X8_findDraft : GoodIn wsX8_nameField wsX8_findDraft := goodIn_r _ [6, 7, 1, 8, 9, 10, 11, 12, 13, 14, 15, 16, 17, 18, 19, 20, 21, 22, 23, 24, 25, 26, 27, 28, 29, 30, 31, 32, 33, 34, 35, 36, 37, 38, 39, 40, 41, 42, 43, 44, 45, 46, 47, 48, 49, 50, 51] (by decide +kernel) (by decide +kernel)
set_option maxRecDepth 20000 in
theorem gX8_nameField_X8_findDraft : GoodIn wsX8_nameField (wsV RX8 210 RX8 yX8_findDraft wsX8_findDraft) := goodIn_app (goodIn_of _ (by decide +kernel)) ggX8_nameField_X8_findDraft
